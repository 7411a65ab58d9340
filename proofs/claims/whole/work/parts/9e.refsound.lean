/-! kinds: whether none is within itself, in the reference -/
def cnM (f : Nat → Int) : Nat → Nat
  | 0 => 0
  | n + 1 => (if f n = 1 then 1 else 0) + cnM f n
section RSD
variable {σ σ0 σ' : aSg} {n : Nat} {fr to : Nat → Int} {o ρ : Nat → Nat} {i j r k : Nat} {f g : Nat → Int}
theorem cnM_le : ∀ n, cnM f n ≤ n := by
  intro n
  induction n with
  | zero => exact Nat.le_refl _
  | succ n ih => simp only [cnM]; split <;> omega
theorem cnM_all : ∀ n, cnM f n = n → ∀ i, i < n → f i = 1 := by
  intro n
  induction n with
  | zero => intro _ i hi; omega
  | succ n ih =>
    intro h i hi
    have := cnM_le (f := f) n
    simp only [cnM] at h
    by_cases e : f n = 1
    · rw [if_pos e] at h
      by_cases q : i = n
      · rw [q]; exact e
      · exact ih (by omega) i (by omega)
    · rw [if_neg e] at h; omega
theorem cnM_ex : ∀ n, cnM f n ≠ n → ∃ i, i < n ∧ f i ≠ 1 := by
  intro n
  induction n with
  | zero => intro h; exact absurd rfl h
  | succ n ih =>
    intro h
    simp only [cnM] at h
    by_cases e : f n = 1
    · rw [if_pos e] at h
      obtain ⟨i, h1, h2⟩ := ih (by omega)
      exact ⟨i, by omega, h2⟩
    · exact ⟨n, by omega, e⟩
theorem cnM_cg : ∀ n, (∀ i, i < n → g i = f i) → cnM g n = cnM f n := by
  intro n
  induction n with
  | zero => intro _; rfl
  | succ n ih =>
    intro h
    simp only [cnM]
    rw [h n (by omega), ih (fun i hi => h i (by omega))]
theorem cnM_up : ∀ n, r < n → ¬ f r = 1 → g r = 1 → (∀ i, i ≠ r → g i = f i) → cnM g n = cnM f n + 1 := by
  intro n
  induction n with
  | zero => intro h; omega
  | succ n ih =>
    intro h1 h2 h3 h4
    simp only [cnM]
    by_cases e : r = n
    · subst e
      rw [if_pos h3, if_neg h2, cnM_cg r (fun i hi => h4 i (by omega))]
      omega
    · rw [h4 n (fun q => e q.symm), ih (by omega) h2 h3 h4]
      omega
/-- what is marked lies above what was marked before it -/
def SdI (n : Nat) (fr to : Nat → Int) (o : Nat → Nat) (f : Nat → Int) : Prop := (∀ i, i < n → f i = 0 ∨ f i = 1) ∧ ∃ ht : Nat → Nat, (∀ i, i < n → f i = 1 → ht i < cnM f n) ∧ ∀ r, r < n → f r = 1 → o r = r → fr r ≠ -1 → ∀ x, (Ru o (fr r).toNat x ∨ Ru o (to r).toNat x) → f x = 1 ∧ ht x < ht r
def okS (n : Nat) (fr to : Nat → Int) (o : Nat → Nat) (f : Nat → Int) (r : Nat) : Prop := o r = r → fr r ≠ -1 → ∀ x, (Ru o (fr r).toNat x ∨ Ru o (to r).toNat x) → f x = 1
theorem SdI_up (hK : KGr n fr to) (hU : UFr n o ρ) (h : SdI n fr to o f) (hr : r < n) (h0 : ¬ f r = 1) (hok : okS n fr to o f r) (g1 : g r = 1) (g2 : ∀ i, i ≠ r → g i = f i) : SdI n fr to o g := by
  obtain ⟨h1, ht, h2, h3⟩ := h
  have cu := cnM_up (f := f) (g := g) n hr h0 g1 g2
  refine ⟨fun i hi => ?_, fun i => if i = r then cnM f n else ht i, fun i hi hg => ?_, fun q hq hg ho hf x hx => ?_⟩
  · by_cases e : i = r
    · rw [e]; exact Or.inr g1
    · rw [g2 i e]; exact h1 i hi
  · rw [cu]
    by_cases e : i = r
    · simp only [if_pos e]; omega
    · simp only [if_neg e]
      rw [g2 i e] at hg
      have := h2 i hi hg
      omega
  · obtain ⟨y1, y2⟩ := KG_at hK hq hf
    have hx2 : x < n := by
      rcases hx with hx | hx
      · exact (Ru_in hU y1 hx).1
      · exact (Ru_in hU y2 hx).1
    by_cases e : q = r
    · subst e
      have q1 := hok ho hf x hx
      have e2 : x ≠ q := fun z => h0 (by rw [← z]; exact q1)
      simp only [if_pos, if_neg e2]
      exact ⟨by rw [g2 x e2]; exact q1, h2 x hx2 q1⟩
    · rw [g2 q e] at hg
      obtain ⟨z1, z2⟩ := h3 q hq hg ho hf x hx
      have e2 : x ≠ r := fun z => h0 (by rw [← z]; exact z1)
      simp only [if_neg e, if_neg e2]
      exact ⟨by rw [g2 x e2]; exact z1, z2⟩
theorem SdI_all (h : SdI n fr to o f) (hc : cnM f n = n) : Acy n fr to o := by
  obtain ⟨h1, ht, h2, h3⟩ := h
  have ha := cnM_all n hc
  exact ⟨ht, fun r hr ho hf => ⟨fun x hx => (h3 r hr (ha r hr) ho hf x (Or.inl hx)).2, fun x hx => (h3 r hr (ha r hr) ho hf x (Or.inr hx)).2⟩⟩
theorem SdI_no (hK : KGr n fr to) (hU : UFr n o ρ) (hc : cnM f n ≠ n) (hn : ∀ i, i < n → ¬ f i = 1 → ¬ okS n fr to o f i) : ¬ ∃ v, apV n fr to v ∧ onV n o v := by
  obtain ⟨r, r1, r2⟩ := cnM_ex n hc
  refine cyc_no hK hU (fun i => i < n ∧ ¬ f i = 1) (fun q hq => ?_) (r := r) ⟨r1, r2⟩
  have z := hn q hq.1 hq.2
  unfold okS at z
  simp only [Classical.not_forall] at z
  obtain ⟨z1, z2, x, z3, z4⟩ := z
  obtain ⟨y1, y2⟩ := KG_at hK hq.1 z2
  refine ⟨hq.1, z2, x, z3, ?_, z4⟩
  rcases z3 with z3 | z3
  · exact (Ru_in hU y1 z3).1
  · exact (Ru_in hU y2 z3).1
theorem wr186 (h1 : σ 130 29 = (n : Int)) (h2 : ∀ i, i < n → σ 144 i = fr i) (h3 : ∀ i, i < n → σ 145 i = to i) (h4 : ∀ i, i < n → σ 146 i = (o i : Int)) (hK : KGr n fr to) (hU : UFr n o ρ) (hn : n ≤ 1600) (Q : List AV → aSg → Prop) (hq0 : (¬ ∃ v, apV n fr to v ∧ onV n o v) → ∀ σ', (∀ a, a ≠ 147 → σ' a = σ a) → Q [.inl 0] σ') (hq1 : Acy n fr to o → ∀ σ', (∀ a, a ≠ 147 → σ' a = σ a) → Q [.inl 1] σ') : CA m186 [.inr (.inl 130)] σ Q := by
  rw [e186]
  have l4 := ln144
  have l5 := ln145
  have l6 := ln146
  have l7 := ln147
  simp (disch := omega) only [s186_0, s186_1, s186_2, s186_3, s186_5, s186_6, s186_9, s186_12, s186_13, s186_16, s186_17, s186_18, s186_19, s186_22, s186_25, s186_26, s186_28, s186_31, s186_32, s186_33, s186_34, s186_37, s186_38, s186_39, s186_41, s186_44, s186_45, s186_48, s186_49, s186_50, s186_51, s186_54, s186_55, s186_58, s186_59, s186_60, s186_61, s186_64, s186_65, s186_68, s186_69, s186_70, s186_73, s186_74, s186_75, s186_78, s186_79, s186_82, s186_83, s186_86, s186_87, s186_88, s186_91, s186_92, s186_93, s186_96, s186_97, s186_100, s186_101, s186_104, s186_107, s186_109, s186_112, s186_113, s186_116, s186_117, s186_118, s186_121, s186_122, s186_125, s186_126, s186_127, s186_128, s186_131, s186_132, s186_133, s186_136, s186_139, s186_142, s186_143, s186_144, s186_147, s186_150, s186_151, s186_154, s186_155, List.cons_append, List.nil_append, if_true, if_false, true_and, and_true, and_self, eq_self, true_or, or_true, false_or, or_false, tIn, tLe, fLe, tLt, fLt, tEq, fEq, isL]
  have inn : ∀ (c : Nat) (out : ∀ (σ1 : aSg) (l4 : AV) (b : Int), (∀ a, a ≠ 147 → σ1 a = σ a) → SdI n fr to o (σ1 147) → (b = 0 → cnM (σ1 147) n = c ∧ ∀ i, i < n → ¬ σ1 147 i = 1 → ¬ okS n fr to o (σ1 147) i) → (b = 1 → c < cnM (σ1 147) n) → b = 0 ∨ b = 1 → WP m186 27 [.inr (.inl 130), .inl b, .inl (cnM (σ1 147) n : Int), .inl (-1), l4] [] σ1 Q) (p : Nat) (σ1 : aSg) (l4 : AV) (b : Int), p ≤ n → (∀ a, a ≠ 147 → σ1 a = σ a) → SdI n fr to o (σ1 147) → (b = 0 → cnM (σ1 147) n = c ∧ ∀ i, p ≤ i → i < n → ¬ σ1 147 i = 1 → ¬ okS n fr to o (σ1 147) i) → (b = 1 → c < cnM (σ1 147) n) → b = 0 ∨ b = 1 → WP m186 40 [.inr (.inl 130), .inl b, .inl (cnM (σ1 147) n : Int), .inl ((p : Int) - 1), l4] [] σ1 Q := by
    intro c out p
    induction p with
    | zero =>
      intro σ1 l4 b hp hf hs hb0 hb1 hb
      have e0 : ((0 : Nat) : Int) - 1 = -1 := by omega
      rw [e0, s186_40]
      simp (disch := omega) only [s186_0, s186_1, s186_2, s186_3, s186_5, s186_6, s186_9, s186_12, s186_13, s186_16, s186_17, s186_18, s186_19, s186_22, s186_25, s186_26, s186_28, s186_31, s186_32, s186_33, s186_34, s186_37, s186_38, s186_39, s186_41, s186_44, s186_45, s186_48, s186_49, s186_50, s186_51, s186_54, s186_55, s186_58, s186_59, s186_60, s186_61, s186_64, s186_65, s186_68, s186_69, s186_70, s186_73, s186_74, s186_75, s186_78, s186_79, s186_82, s186_83, s186_86, s186_87, s186_88, s186_91, s186_92, s186_93, s186_96, s186_97, s186_100, s186_101, s186_104, s186_107, s186_109, s186_112, s186_113, s186_116, s186_117, s186_118, s186_121, s186_122, s186_125, s186_126, s186_127, s186_128, s186_131, s186_132, s186_133, s186_136, s186_139, s186_142, s186_143, s186_144, s186_147, s186_150, s186_151, s186_154, s186_155, List.cons_append, List.nil_append, if_true, if_false, true_and, and_true, and_self, eq_self, true_or, or_true, false_or, or_false, tIn, tLe, fLe, tLt, fLt, tEq, fEq, isL]
      exact out σ1 l4 b hf hs (fun q => ⟨(hb0 q).1, fun i hi => (hb0 q).2 i (by omega) hi⟩) hb1 hb
    | succ p ih =>
      intro σ1 l4 b hp hf hs hb0 hb1 hb
      have e0 : ((p + 1 : Nat) : Int) - 1 = (p : Int) := by omega
      have hpn : p < n := by omega
      have cle := cnM_le (f := σ1 147) n
      have a4 : σ1 146 p = (o p : Int) := by rw [hf 146 (by omega)]; exact h4 p hpn
      have a2 : σ1 144 p = fr p := by rw [hf 144 (by omega)]; exact h2 p hpn
      have a3 : σ1 145 p = to p := by rw [hf 145 (by omega)]; exact h3 p hpn
      have a46 : ∀ i, i < n → σ1 146 i = (o i : Int) := fun i hi => by rw [hf 146 (by omega)]; exact h4 i hi
      have em : (p : Int) + -1 = (p : Int) - 1 := by omega
      have yes : okS n fr to o (σ1 147) p → WP m186 105 [.inr (.inl 130), .inl b, .inl (cnM (σ1 147) n : Int), .inl (p : Int), l4] [.inl 1] σ1 Q := by
        intro hok
        rw [s186_105]
        rcases hs.1 p hpn with g | g
        · have cu := cnM_up (f := σ1 147) (g := (aup σ1 147 p 1) 147) n hpn (by rw [g]; omega) aup_s (fun i hi => aup_n2 hi)
          have ec : (cnM (σ1 147) n : Int) + 1 = (cnM ((aup σ1 147 p 1) 147) n : Int) := by omega
          have kd7 := kd147
          simp (disch := omega) only [s186_0, s186_1, s186_2, s186_3, s186_5, s186_6, s186_9, s186_12, s186_13, s186_16, s186_17, s186_18, s186_19, s186_22, s186_25, s186_26, s186_28, s186_31, s186_32, s186_33, s186_34, s186_37, s186_38, s186_39, s186_41, s186_44, s186_45, s186_48, s186_49, s186_50, s186_51, s186_54, s186_55, s186_58, s186_59, s186_60, s186_61, s186_64, s186_65, s186_68, s186_69, s186_70, s186_73, s186_74, s186_75, s186_78, s186_79, s186_82, s186_83, s186_86, s186_87, s186_88, s186_91, s186_92, s186_93, s186_96, s186_97, s186_100, s186_101, s186_104, s186_107, s186_109, s186_112, s186_113, s186_116, s186_117, s186_118, s186_121, s186_122, s186_125, s186_126, s186_127, s186_128, s186_131, s186_132, s186_133, s186_136, s186_139, s186_142, s186_143, s186_144, s186_147, s186_150, s186_151, s186_154, s186_155, List.cons_append, List.nil_append, if_true, if_false, true_and, and_true, and_self, eq_self, true_or, or_true, false_or, or_false, tIn, tLe, fLe, tLt, fLt, tEq, fEq, isL, kd147, ln147, Int.toNat_natCast, g, em, ec]
          exact ih (aup σ1 147 p 1) _ 1 (by omega) (fun a ha => by rw [aup_f ha]; exact hf a ha) (SdI_up hK hU hs hpn (by rw [g]; omega) hok aup_s (fun i hi => aup_n2 hi)) (fun q => by omega) (fun _ => by
            rcases hb with q | q
            · have := (hb0 q).1; omega
            · have := hb1 q; omega) (Or.inr rfl)
        · simp (disch := omega) only [s186_0, s186_1, s186_2, s186_3, s186_5, s186_6, s186_9, s186_12, s186_13, s186_16, s186_17, s186_18, s186_19, s186_22, s186_25, s186_26, s186_28, s186_31, s186_32, s186_33, s186_34, s186_37, s186_38, s186_39, s186_41, s186_44, s186_45, s186_48, s186_49, s186_50, s186_51, s186_54, s186_55, s186_58, s186_59, s186_60, s186_61, s186_64, s186_65, s186_68, s186_69, s186_70, s186_73, s186_74, s186_75, s186_78, s186_79, s186_82, s186_83, s186_86, s186_87, s186_88, s186_91, s186_92, s186_93, s186_96, s186_97, s186_100, s186_101, s186_104, s186_107, s186_109, s186_112, s186_113, s186_116, s186_117, s186_118, s186_121, s186_122, s186_125, s186_126, s186_127, s186_128, s186_131, s186_132, s186_133, s186_136, s186_139, s186_142, s186_143, s186_144, s186_147, s186_150, s186_151, s186_154, s186_155, List.cons_append, List.nil_append, if_true, if_false, true_and, and_true, and_self, eq_self, true_or, or_true, false_or, or_false, tIn, tLe, fLe, tLt, fLt, tEq, fEq, isL, kd147, ln147, Int.toNat_natCast, g, em]
          exact ih σ1 _ b (by omega) hf hs (fun q => ⟨(hb0 q).1, fun i i1 i2 => by
            by_cases e : i = p
            · intro z; exact absurd (by rw [e]; exact g) z
            · exact (hb0 q).2 i (by omega) i2⟩) hb1 hb
      have no : ¬ okS n fr to o (σ1 147) p → WP m186 105 [.inr (.inl 130), .inl b, .inl (cnM (σ1 147) n : Int), .inl (p : Int), l4] [.inl 0] σ1 Q := by
        intro hok
        rw [s186_105]
        simp (disch := omega) only [s186_0, s186_1, s186_2, s186_3, s186_5, s186_6, s186_9, s186_12, s186_13, s186_16, s186_17, s186_18, s186_19, s186_22, s186_25, s186_26, s186_28, s186_31, s186_32, s186_33, s186_34, s186_37, s186_38, s186_39, s186_41, s186_44, s186_45, s186_48, s186_49, s186_50, s186_51, s186_54, s186_55, s186_58, s186_59, s186_60, s186_61, s186_64, s186_65, s186_68, s186_69, s186_70, s186_73, s186_74, s186_75, s186_78, s186_79, s186_82, s186_83, s186_86, s186_87, s186_88, s186_91, s186_92, s186_93, s186_96, s186_97, s186_100, s186_101, s186_104, s186_107, s186_109, s186_112, s186_113, s186_116, s186_117, s186_118, s186_121, s186_122, s186_125, s186_126, s186_127, s186_128, s186_131, s186_132, s186_133, s186_136, s186_139, s186_142, s186_143, s186_144, s186_147, s186_150, s186_151, s186_154, s186_155, List.cons_append, List.nil_append, if_true, if_false, true_and, and_true, and_self, eq_self, true_or, or_true, false_or, or_false, tIn, tLe, fLe, tLt, fLt, tEq, fEq, isL, em]
        exact ih σ1 _ b (by omega) hf hs (fun q => ⟨(hb0 q).1, fun i i1 i2 => by
          by_cases e : i = p
          · intro z; rw [e]; exact hok
          · exact (hb0 q).2 i (by omega) i2⟩) hb1 hb
      rw [e0, s186_40]
      by_cases g1 : o p = p
      · rw [g1] at a4
        by_cases g2 : fr p = -1
        · rw [g2] at a2
          simp (disch := omega) only [s186_0, s186_1, s186_2, s186_3, s186_5, s186_6, s186_9, s186_12, s186_13, s186_16, s186_17, s186_18, s186_19, s186_22, s186_25, s186_26, s186_28, s186_31, s186_32, s186_33, s186_34, s186_37, s186_38, s186_39, s186_41, s186_44, s186_45, s186_48, s186_49, s186_50, s186_51, s186_54, s186_55, s186_58, s186_59, s186_60, s186_61, s186_64, s186_65, s186_68, s186_69, s186_70, s186_73, s186_74, s186_75, s186_78, s186_79, s186_82, s186_83, s186_86, s186_87, s186_88, s186_91, s186_92, s186_93, s186_96, s186_97, s186_100, s186_101, s186_104, s186_107, s186_109, s186_112, s186_113, s186_116, s186_117, s186_118, s186_121, s186_122, s186_125, s186_126, s186_127, s186_128, s186_131, s186_132, s186_133, s186_136, s186_139, s186_142, s186_143, s186_144, s186_147, s186_150, s186_151, s186_154, s186_155, List.cons_append, List.nil_append, if_true, if_false, true_and, and_true, and_self, eq_self, true_or, or_true, false_or, or_false, tIn, tLe, fLe, tLt, fLt, tEq, fEq, isL, kd146, ln146, kd144, ln144, Int.toNat_natCast, a4, a2]
          exact yes (fun _ q => absurd g2 q)
        · rcases hK p hpn with q | ⟨fa, ta, q1, q2, q3, q4⟩
          · exact absurd q g2
          rw [q1] at a2
          rw [q2] at a3
          obtain ⟨A, rA, lA, -⟩ := Ru_ex hU (ρ fa) fa (Nat.le_refl _) q3
          obtain ⟨B, rB, lB, -⟩ := Ru_ex hU (ρ ta) ta (Nat.le_refl _) q4
          have cA := fun K => c182 (K := K) a46 hU hn q3 rA
          have cB := fun K => c182 (K := K) a46 hU hn q4 rB
          have n1 : ¬ (fa : Int) = -1 := by omega
          rcases hs.1 A lA with g3 | g3
          · simp (disch := omega) only [s186_0, s186_1, s186_2, s186_3, s186_5, s186_6, s186_9, s186_12, s186_13, s186_16, s186_17, s186_18, s186_19, s186_22, s186_25, s186_26, s186_28, s186_31, s186_32, s186_33, s186_34, s186_37, s186_38, s186_39, s186_41, s186_44, s186_45, s186_48, s186_49, s186_50, s186_51, s186_54, s186_55, s186_58, s186_59, s186_60, s186_61, s186_64, s186_65, s186_68, s186_69, s186_70, s186_73, s186_74, s186_75, s186_78, s186_79, s186_82, s186_83, s186_86, s186_87, s186_88, s186_91, s186_92, s186_93, s186_96, s186_97, s186_100, s186_101, s186_104, s186_107, s186_109, s186_112, s186_113, s186_116, s186_117, s186_118, s186_121, s186_122, s186_125, s186_126, s186_127, s186_128, s186_131, s186_132, s186_133, s186_136, s186_139, s186_142, s186_143, s186_144, s186_147, s186_150, s186_151, s186_154, s186_155, List.cons_append, List.nil_append, if_true, if_false, true_and, and_true, and_self, eq_self, true_or, or_true, false_or, or_false, tIn, tLe, fLe, tLt, fLt, tEq, fEq, isL, kd146, ln146, kd144, ln144, Int.toNat_natCast, a4, a2, cA, kd147, ln147, g3]
            refine no (fun z => ?_)
            have := z g1 g2 A (Or.inl (by rw [q1, Int.toNat_natCast]; exact rA))
            rw [g3] at this
            omega
          · rcases hs.1 B lB with g4 | g4
            · simp (disch := omega) only [s186_0, s186_1, s186_2, s186_3, s186_5, s186_6, s186_9, s186_12, s186_13, s186_16, s186_17, s186_18, s186_19, s186_22, s186_25, s186_26, s186_28, s186_31, s186_32, s186_33, s186_34, s186_37, s186_38, s186_39, s186_41, s186_44, s186_45, s186_48, s186_49, s186_50, s186_51, s186_54, s186_55, s186_58, s186_59, s186_60, s186_61, s186_64, s186_65, s186_68, s186_69, s186_70, s186_73, s186_74, s186_75, s186_78, s186_79, s186_82, s186_83, s186_86, s186_87, s186_88, s186_91, s186_92, s186_93, s186_96, s186_97, s186_100, s186_101, s186_104, s186_107, s186_109, s186_112, s186_113, s186_116, s186_117, s186_118, s186_121, s186_122, s186_125, s186_126, s186_127, s186_128, s186_131, s186_132, s186_133, s186_136, s186_139, s186_142, s186_143, s186_144, s186_147, s186_150, s186_151, s186_154, s186_155, List.cons_append, List.nil_append, if_true, if_false, true_and, and_true, and_self, eq_self, true_or, or_true, false_or, or_false, tIn, tLe, fLe, tLt, fLt, tEq, fEq, isL, kd146, ln146, kd144, ln144, kd145, ln145, Int.toNat_natCast, a4, a2, a3, cA, cB, kd147, ln147, g3, g4]
              refine no (fun z => ?_)
              have := z g1 g2 B (Or.inr (by rw [q2, Int.toNat_natCast]; exact rB))
              rw [g4] at this
              omega
            · simp (disch := omega) only [s186_0, s186_1, s186_2, s186_3, s186_5, s186_6, s186_9, s186_12, s186_13, s186_16, s186_17, s186_18, s186_19, s186_22, s186_25, s186_26, s186_28, s186_31, s186_32, s186_33, s186_34, s186_37, s186_38, s186_39, s186_41, s186_44, s186_45, s186_48, s186_49, s186_50, s186_51, s186_54, s186_55, s186_58, s186_59, s186_60, s186_61, s186_64, s186_65, s186_68, s186_69, s186_70, s186_73, s186_74, s186_75, s186_78, s186_79, s186_82, s186_83, s186_86, s186_87, s186_88, s186_91, s186_92, s186_93, s186_96, s186_97, s186_100, s186_101, s186_104, s186_107, s186_109, s186_112, s186_113, s186_116, s186_117, s186_118, s186_121, s186_122, s186_125, s186_126, s186_127, s186_128, s186_131, s186_132, s186_133, s186_136, s186_139, s186_142, s186_143, s186_144, s186_147, s186_150, s186_151, s186_154, s186_155, List.cons_append, List.nil_append, if_true, if_false, true_and, and_true, and_self, eq_self, true_or, or_true, false_or, or_false, tIn, tLe, fLe, tLt, fLt, tEq, fEq, isL, kd146, ln146, kd144, ln144, kd145, ln145, Int.toNat_natCast, a4, a2, a3, cA, cB, kd147, ln147, g3, g4]
              refine yes (fun _ _ x hx => ?_)
              rw [q1, q2, Int.toNat_natCast, Int.toNat_natCast] at hx
              rcases hx with hx | hx
              · rw [Ru_un hx rA]; exact g3
              · rw [Ru_un hx rB]; exact g4
      · have a4' : ¬ ((o p : Nat) : Int) = (p : Int) := by omega
        simp (disch := omega) only [s186_0, s186_1, s186_2, s186_3, s186_5, s186_6, s186_9, s186_12, s186_13, s186_16, s186_17, s186_18, s186_19, s186_22, s186_25, s186_26, s186_28, s186_31, s186_32, s186_33, s186_34, s186_37, s186_38, s186_39, s186_41, s186_44, s186_45, s186_48, s186_49, s186_50, s186_51, s186_54, s186_55, s186_58, s186_59, s186_60, s186_61, s186_64, s186_65, s186_68, s186_69, s186_70, s186_73, s186_74, s186_75, s186_78, s186_79, s186_82, s186_83, s186_86, s186_87, s186_88, s186_91, s186_92, s186_93, s186_96, s186_97, s186_100, s186_101, s186_104, s186_107, s186_109, s186_112, s186_113, s186_116, s186_117, s186_118, s186_121, s186_122, s186_125, s186_126, s186_127, s186_128, s186_131, s186_132, s186_133, s186_136, s186_139, s186_142, s186_143, s186_144, s186_147, s186_150, s186_151, s186_154, s186_155, List.cons_append, List.nil_append, if_true, if_false, true_and, and_true, and_self, eq_self, true_or, or_true, false_or, or_false, tIn, tLe, fLe, tLt, fLt, tEq, fEq, isL, kd146, ln146, Int.toNat_natCast, a4]
        exact yes (fun q => absurd q g1)
  have outer : ∀ (m : Nat) (σ1 : aSg) (l3 l4 : AV), n ≤ cnM (σ1 147) n + m → (∀ a, a ≠ 147 → σ1 a = σ a) → SdI n fr to o (σ1 147) → WP m186 27 [.inr (.inl 130), .inl 1, .inl (cnM (σ1 147) n : Int), l3, l4] [] σ1 Q := by
    intro m
    induction m with
    | zero =>
      intro σ1 l3 l4 hm hf hs
      have a1 : σ1 130 29 = (n : Int) := by rw [hf 130 (by omega)]; exact h1
      have cle := cnM_le (f := σ1 147) n
      rw [s186_27]
      simp (disch := omega) only [s186_0, s186_1, s186_2, s186_3, s186_5, s186_6, s186_9, s186_12, s186_13, s186_16, s186_17, s186_18, s186_19, s186_22, s186_25, s186_26, s186_28, s186_31, s186_32, s186_33, s186_34, s186_37, s186_38, s186_39, s186_41, s186_44, s186_45, s186_48, s186_49, s186_50, s186_51, s186_54, s186_55, s186_58, s186_59, s186_60, s186_61, s186_64, s186_65, s186_68, s186_69, s186_70, s186_73, s186_74, s186_75, s186_78, s186_79, s186_82, s186_83, s186_86, s186_87, s186_88, s186_91, s186_92, s186_93, s186_96, s186_97, s186_100, s186_101, s186_104, s186_107, s186_109, s186_112, s186_113, s186_116, s186_117, s186_118, s186_121, s186_122, s186_125, s186_126, s186_127, s186_128, s186_131, s186_132, s186_133, s186_136, s186_139, s186_142, s186_143, s186_144, s186_147, s186_150, s186_151, s186_154, s186_155, List.cons_append, List.nil_append, if_true, if_false, true_and, and_true, and_self, eq_self, true_or, or_true, false_or, or_false, tIn, tLe, fLe, tLt, fLt, tEq, fEq, isL, a1]
      refine inn (cnM (σ1 147) n) (fun σ2 l4' b hf2 hs2 hb0 hb1 hb => ?_) n σ1 l4 0 (Nat.le_refl _) hf hs (fun _ => ⟨rfl, fun i i1 i2 => by omega⟩) (fun q => by omega) (Or.inl rfl)
      have c2 := cnM_le (f := σ2 147) n
      have a12 : σ2 130 29 = (n : Int) := by rw [hf2 130 (by omega)]; exact h1
      rcases hb with rfl | rfl
      · have hc : cnM (σ2 147) n = n := by have := (hb0 rfl).1; omega
        rw [s186_27, hc]
        simp (disch := omega) only [s186_0, s186_1, s186_2, s186_3, s186_5, s186_6, s186_9, s186_12, s186_13, s186_16, s186_17, s186_18, s186_19, s186_22, s186_25, s186_26, s186_28, s186_31, s186_32, s186_33, s186_34, s186_37, s186_38, s186_39, s186_41, s186_44, s186_45, s186_48, s186_49, s186_50, s186_51, s186_54, s186_55, s186_58, s186_59, s186_60, s186_61, s186_64, s186_65, s186_68, s186_69, s186_70, s186_73, s186_74, s186_75, s186_78, s186_79, s186_82, s186_83, s186_86, s186_87, s186_88, s186_91, s186_92, s186_93, s186_96, s186_97, s186_100, s186_101, s186_104, s186_107, s186_109, s186_112, s186_113, s186_116, s186_117, s186_118, s186_121, s186_122, s186_125, s186_126, s186_127, s186_128, s186_131, s186_132, s186_133, s186_136, s186_139, s186_142, s186_143, s186_144, s186_147, s186_150, s186_151, s186_154, s186_155, List.cons_append, List.nil_append, if_true, if_false, true_and, and_true, and_self, eq_self, true_or, or_true, false_or, or_false, tIn, tLe, fLe, tLt, fLt, tEq, fEq, isL, a12]
        exact hq1 (SdI_all hs2 hc) σ2 hf2
      · have := hb1 rfl; omega
    | succ m ih =>
      intro σ1 l3 l4 hm hf hs
      have a1 : σ1 130 29 = (n : Int) := by rw [hf 130 (by omega)]; exact h1
      have cle := cnM_le (f := σ1 147) n
      rw [s186_27]
      simp (disch := omega) only [s186_0, s186_1, s186_2, s186_3, s186_5, s186_6, s186_9, s186_12, s186_13, s186_16, s186_17, s186_18, s186_19, s186_22, s186_25, s186_26, s186_28, s186_31, s186_32, s186_33, s186_34, s186_37, s186_38, s186_39, s186_41, s186_44, s186_45, s186_48, s186_49, s186_50, s186_51, s186_54, s186_55, s186_58, s186_59, s186_60, s186_61, s186_64, s186_65, s186_68, s186_69, s186_70, s186_73, s186_74, s186_75, s186_78, s186_79, s186_82, s186_83, s186_86, s186_87, s186_88, s186_91, s186_92, s186_93, s186_96, s186_97, s186_100, s186_101, s186_104, s186_107, s186_109, s186_112, s186_113, s186_116, s186_117, s186_118, s186_121, s186_122, s186_125, s186_126, s186_127, s186_128, s186_131, s186_132, s186_133, s186_136, s186_139, s186_142, s186_143, s186_144, s186_147, s186_150, s186_151, s186_154, s186_155, List.cons_append, List.nil_append, if_true, if_false, true_and, and_true, and_self, eq_self, true_or, or_true, false_or, or_false, tIn, tLe, fLe, tLt, fLt, tEq, fEq, isL, a1]
      refine inn (cnM (σ1 147) n) (fun σ2 l4' b hf2 hs2 hb0 hb1 hb => ?_) n σ1 l4 0 (Nat.le_refl _) hf hs (fun _ => ⟨rfl, fun i i1 i2 => by omega⟩) (fun q => by omega) (Or.inl rfl)
      have c2 := cnM_le (f := σ2 147) n
      have a12 : σ2 130 29 = (n : Int) := by rw [hf2 130 (by omega)]; exact h1
      rcases hb with rfl | rfl
      · by_cases hc : cnM (σ2 147) n = n
        · rw [s186_27, hc]
          simp (disch := omega) only [s186_0, s186_1, s186_2, s186_3, s186_5, s186_6, s186_9, s186_12, s186_13, s186_16, s186_17, s186_18, s186_19, s186_22, s186_25, s186_26, s186_28, s186_31, s186_32, s186_33, s186_34, s186_37, s186_38, s186_39, s186_41, s186_44, s186_45, s186_48, s186_49, s186_50, s186_51, s186_54, s186_55, s186_58, s186_59, s186_60, s186_61, s186_64, s186_65, s186_68, s186_69, s186_70, s186_73, s186_74, s186_75, s186_78, s186_79, s186_82, s186_83, s186_86, s186_87, s186_88, s186_91, s186_92, s186_93, s186_96, s186_97, s186_100, s186_101, s186_104, s186_107, s186_109, s186_112, s186_113, s186_116, s186_117, s186_118, s186_121, s186_122, s186_125, s186_126, s186_127, s186_128, s186_131, s186_132, s186_133, s186_136, s186_139, s186_142, s186_143, s186_144, s186_147, s186_150, s186_151, s186_154, s186_155, List.cons_append, List.nil_append, if_true, if_false, true_and, and_true, and_self, eq_self, true_or, or_true, false_or, or_false, tIn, tLe, fLe, tLt, fLt, tEq, fEq, isL, a12]
          exact hq1 (SdI_all hs2 hc) σ2 hf2
        · have hc' : ¬ (cnM (σ2 147) n : Int) = (n : Int) := by omega
          rw [s186_27]
          simp (disch := omega) only [s186_0, s186_1, s186_2, s186_3, s186_5, s186_6, s186_9, s186_12, s186_13, s186_16, s186_17, s186_18, s186_19, s186_22, s186_25, s186_26, s186_28, s186_31, s186_32, s186_33, s186_34, s186_37, s186_38, s186_39, s186_41, s186_44, s186_45, s186_48, s186_49, s186_50, s186_51, s186_54, s186_55, s186_58, s186_59, s186_60, s186_61, s186_64, s186_65, s186_68, s186_69, s186_70, s186_73, s186_74, s186_75, s186_78, s186_79, s186_82, s186_83, s186_86, s186_87, s186_88, s186_91, s186_92, s186_93, s186_96, s186_97, s186_100, s186_101, s186_104, s186_107, s186_109, s186_112, s186_113, s186_116, s186_117, s186_118, s186_121, s186_122, s186_125, s186_126, s186_127, s186_128, s186_131, s186_132, s186_133, s186_136, s186_139, s186_142, s186_143, s186_144, s186_147, s186_150, s186_151, s186_154, s186_155, List.cons_append, List.nil_append, if_true, if_false, true_and, and_true, and_self, eq_self, true_or, or_true, false_or, or_false, tIn, tLe, fLe, tLt, fLt, tEq, fEq, isL, a12]
          exact hq0 (SdI_no hK hU hc (hb0 rfl).2) σ2 hf2
      · have := hb1 rfl
        exact ih σ2 _ _ (by omega) hf2 hs2
  have init : ∀ (m c : Nat) (σ1 : aSg) (l3 l4 : AV), c + m = n → (∀ a, a ≠ 147 → σ1 a = σ a) → (∀ i, i < c → σ1 147 i = 0) → WP m186 4 [.inr (.inl 130), .inl 1, .inl (c : Int), l3, l4] [] σ1 Q := by
    intro m
    induction m with
    | zero =>
      intro c σ1 l3 l4 hm hf hs
      have a1 : σ1 130 29 = (n : Int) := by rw [hf 130 (by omega)]; exact h1
      have ec : (c : Int) = (n : Int) := by omega
      have cz : cnM (σ1 147) n = 0 := by
        have : ∀ k, k ≤ n → cnM (σ1 147) k = 0 := by
          intro k
          induction k with
          | zero => intro _; rfl
          | succ k ih => intro hk; simp only [cnM]; rw [hs k (by omega), ih (by omega)]; rfl
        exact this n (Nat.le_refl _)
      have z0 : (0 : Int) = (cnM (σ1 147) n : Int) := by rw [cz]; rfl
      rw [s186_4]
      simp (disch := omega) only [s186_0, s186_1, s186_2, s186_3, s186_5, s186_6, s186_9, s186_12, s186_13, s186_16, s186_17, s186_18, s186_19, s186_22, s186_25, s186_26, s186_28, s186_31, s186_32, s186_33, s186_34, s186_37, s186_38, s186_39, s186_41, s186_44, s186_45, s186_48, s186_49, s186_50, s186_51, s186_54, s186_55, s186_58, s186_59, s186_60, s186_61, s186_64, s186_65, s186_68, s186_69, s186_70, s186_73, s186_74, s186_75, s186_78, s186_79, s186_82, s186_83, s186_86, s186_87, s186_88, s186_91, s186_92, s186_93, s186_96, s186_97, s186_100, s186_101, s186_104, s186_107, s186_109, s186_112, s186_113, s186_116, s186_117, s186_118, s186_121, s186_122, s186_125, s186_126, s186_127, s186_128, s186_131, s186_132, s186_133, s186_136, s186_139, s186_142, s186_143, s186_144, s186_147, s186_150, s186_151, s186_154, s186_155, List.cons_append, List.nil_append, if_true, if_false, true_and, and_true, and_self, eq_self, true_or, or_true, false_or, or_false, tIn, tLe, fLe, tLt, fLt, tEq, fEq, isL, a1, ec]
      have := outer n σ1 l3 l4 (by omega) hf ⟨fun i hi => Or.inl (hs i (by omega)), fun _ => 0, fun i hi hg => by rw [hs i (by omega)] at hg; omega, fun r hr hg => by rw [hs r (by omega)] at hg; omega⟩
      rw [← z0] at this
      exact this
    | succ m ih =>
      intro c σ1 l3 l4 hm hf hs
      have a1 : σ1 130 29 = (n : Int) := by rw [hf 130 (by omega)]; exact h1
      have ec : (c : Int) + 1 = ((c + 1 : Nat) : Int) := by omega
      rw [s186_4]
      simp (disch := omega) only [s186_0, s186_1, s186_2, s186_3, s186_5, s186_6, s186_9, s186_12, s186_13, s186_16, s186_17, s186_18, s186_19, s186_22, s186_25, s186_26, s186_28, s186_31, s186_32, s186_33, s186_34, s186_37, s186_38, s186_39, s186_41, s186_44, s186_45, s186_48, s186_49, s186_50, s186_51, s186_54, s186_55, s186_58, s186_59, s186_60, s186_61, s186_64, s186_65, s186_68, s186_69, s186_70, s186_73, s186_74, s186_75, s186_78, s186_79, s186_82, s186_83, s186_86, s186_87, s186_88, s186_91, s186_92, s186_93, s186_96, s186_97, s186_100, s186_101, s186_104, s186_107, s186_109, s186_112, s186_113, s186_116, s186_117, s186_118, s186_121, s186_122, s186_125, s186_126, s186_127, s186_128, s186_131, s186_132, s186_133, s186_136, s186_139, s186_142, s186_143, s186_144, s186_147, s186_150, s186_151, s186_154, s186_155, List.cons_append, List.nil_append, if_true, if_false, true_and, and_true, and_self, eq_self, true_or, or_true, false_or, or_false, tIn, tLe, fLe, tLt, fLt, tEq, fEq, isL, a1, kd147, ln147, Int.toNat_natCast, ec]
      exact ih (c + 1) (aup σ1 147 c 0) l3 l4 (by omega) (fun a ha => by rw [aup_f ha]; exact hf a ha) (fun i hi => by
        by_cases e : i = c
        · rw [e, aup_s]
        · rw [aup_n2 e]; exact hs i (by omega))
  exact init n 0 σ _ _ (by omega) (fun _ _ => rfl) (fun i hi => by omega)
end RSD
