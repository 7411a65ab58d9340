/-! Sorter: isSoundFrom, hasNoneWithinItself -/
section DFT
variable {σ σ0 σ' : aSg} {K : List AV → aSg → Prop} {x y z c : Int} {n : Nat} {fr to mk mk' : Nat → Int} {o o' ρ : Nat → Nat} {i j r k l a b p q t : Nat} {FS : List Fm}
theorem FOK_pop (hr : mk' r = 2) (hm : ∀ x, mk x = 2 → mk' x = 2) : ∀ (FS : List Fm), FOK n fr to o mk (some r) FS → FOK n fr to o mk' none FS := by
  intro FS h
  cases FS with
  | nil => trivial
  | cons f FS =>
    obtain ⟨u, pd⟩ := f
    obtain ⟨h1, h2, h3, h4, h5, h6, h7⟩ := h
    refine ⟨h1, h2, h3, h4, h5, fun x hx => ?_, FOK_mk hm FS _ h7⟩
    rcases h6 x hx with q | q | q
    · exact Or.inl (hm x q)
    · exact Or.inr (Or.inl q)
    · cases q; exact Or.inl hr
theorem FOK_next : ∀ (FS : List Fm) (nx : Option Nat), FOK n fr to o mk nx FS → ∀ f ∈ FS.tail, ∃ g ∈ FS, chd fr to o f.1 g.1 := by
  intro FS
  induction FS with
  | nil => intro nx _ f hf; cases hf
  | cons e FS ih =>
    intro nx h f hf
    obtain ⟨u, pd⟩ := e
    obtain ⟨h1, h2, h3, h4, h5, h6, h7⟩ := h
    cases FS with
    | nil => cases hf
    | cons e2 FS =>
      rcases List.mem_cons.mp hf with rfl | hf
      · exact ⟨(u, pd), List.mem_cons_self .., h5 f FS rfl⟩
      · obtain ⟨g, g1, g2⟩ := ih _ h7 f hf
        exact ⟨g, List.mem_cons_of_mem _ g1, g2⟩
theorem FOK_lt : ∀ (FS : List Fm) (nx : Option Nat), FOK n fr to o mk nx FS → ∀ f ∈ FS, f.1 < n := by
  intro FS
  induction FS with
  | nil => intro nx _ f hf; cases hf
  | cons e FS ih =>
    intro nx h f hf
    obtain ⟨u, pd⟩ := e
    obtain ⟨h1, h2, h3, h4, h5, h6, h7⟩ := h
    rcases List.mem_cons.mp hf with rfl | hf
    · exact h1
    · exact ih _ h7 f hf
theorem llast_rev {st : List Nat} : llast ((lNI (a :: st)).reverse) = (a : Int) := by
  have : (lNI (a :: st)).reverse = (lNI st).reverse ++ [(a : Int)] := by simp [lNI]
  rw [this, llast_app]
theorem upI_id {v : Int} (h : mk a = v) : upI mk a v = mk := by
  funext i
  unfold upI
  split
  · rename_i e; rw [e, h]
  · rfl
theorem wr65 {st : List Nat} (h : DFI σ0 σ n fr to o ρ mk st) (ha : a < n) (hb : b < n) (hl : st.length + 2 ≤ 1448) (Q : List AV → aSg → Prop) (hq0 : (mk a = 1 ∨ mk b = 1) → Q [.inl 0] σ) (hq1 : ∀ σ', ¬ mk a = 1 → ¬ mk b = 1 → DFI σ0 σ' n fr to o ρ mk (b :: a :: st) → Q [.inl 1] σ') : CA m65 [.inr (.inl 108), .inl (a : Int), .inl (b : Int)] σ Q := by
  rw [e65]
  obtain ⟨h1, h2, h3, h4, h5, h6, h7, h8⟩ := id h
  have ea := mpI_at (f := mk) ha
  have eb := mpI_at (f := mk) hb
  by_cases g1 : mk a = 1
  · rw [g1] at ea
    simp (disch := omega) only [s65_0, s65_1, s65_4, s65_5, s65_8, s65_9, s65_12, s65_13, s65_16, s65_17, s65_20, s65_21, s65_24, s65_25, s65_26, s65_27, s65_30, s65_31, s65_34, s65_35, s65_38, s65_39, s65_42, s65_43, List.cons_append, List.nil_append, if_true, if_false, true_and, and_true, and_self, eq_self, true_or, or_true, false_or, or_false, tIn, tLe, fLe, tLt, fLt, tEq, fEq, isL, row121.1, c30 row121 h1, h5, ea]
    exact hq0 (Or.inl g1)
  · by_cases g2 : mk b = 1
    · rw [g2] at eb
      simp (disch := omega) only [s65_0, s65_1, s65_4, s65_5, s65_8, s65_9, s65_12, s65_13, s65_16, s65_17, s65_20, s65_21, s65_24, s65_25, s65_26, s65_27, s65_30, s65_31, s65_34, s65_35, s65_38, s65_39, s65_42, s65_43, List.cons_append, List.nil_append, if_true, if_false, true_and, and_true, and_self, eq_self, true_or, or_true, false_or, or_false, tIn, tLe, fLe, tLt, fLt, tEq, fEq, isL, row121.1, c30 row121 h1, h5, ea, eb]
      exact hq0 (Or.inr g2)
    · simp (disch := omega) only [s65_0, s65_1, s65_4, s65_5, s65_8, s65_9, s65_12, s65_13, s65_16, s65_17, s65_20, s65_21, s65_24, s65_25, s65_26, s65_27, s65_30, s65_31, s65_34, s65_35, s65_38, s65_39, s65_42, s65_43, List.cons_append, List.nil_append, if_true, if_false, true_and, and_true, and_self, eq_self, true_or, or_true, false_or, or_false, tIn, tLe, fLe, tLt, fLt, tEq, fEq, isL, row121.1, c30 row121 h1, h5, ea, eb, row119.1]
      refine DFI_o h (by omega) _ (fun σ1 i1 => ?_)
      simp (disch := omega) only [s65_0, s65_1, s65_4, s65_5, s65_8, s65_9, s65_12, s65_13, s65_16, s65_17, s65_20, s65_21, s65_24, s65_25, s65_26, s65_27, s65_30, s65_31, s65_34, s65_35, s65_38, s65_39, s65_42, s65_43, List.cons_append, List.nil_append, if_true, if_false, true_and, and_true, and_self, eq_self, true_or, or_true, false_or, or_false, tIn, tLe, fLe, tLt, fLt, tEq, fEq, isL, row119.1]
      refine DFI_o i1 (by simp; omega) _ (fun σ2 i2 => ?_)
      simp (disch := omega) only [s65_0, s65_1, s65_4, s65_5, s65_8, s65_9, s65_12, s65_13, s65_16, s65_17, s65_20, s65_21, s65_24, s65_25, s65_26, s65_27, s65_30, s65_31, s65_34, s65_35, s65_38, s65_39, s65_42, s65_43, List.cons_append, List.nil_append, if_true, if_false, true_and, and_true, and_self, eq_self, true_or, or_true, false_or, or_false, tIn, tLe, fLe, tLt, fLt, tEq, fEq, isL]
      exact hq1 σ2 g1 g2 i2
theorem wr64 {k0 : Nat} (h1 : RK σ) (h2 : rv σ 109 = mpI n fr) (h3 : rv σ 111 = mpI n to) (h4 : rv σ 113 = mpN n o) (h5 : rv σ 121 = mpI n mk) (h7 : UFr n o ρ) (h8 : FrD3 σ0 σ) (hK : KGr n fr to) (hn : n ≤ 700) (hk0 : k0 < n) (hr0 : o k0 = k0) (hm0 : mk k0 = 0) (hmk : ∀ x, x < n → mk x = 0 ∨ mk x = 2) (hL : Lfk n fr to o mk) (Q : List AV → aSg → Prop) (hq0 : (¬ ∃ v, apV n fr to v ∧ onV n o v) → ∀ σ', RK σ' → FrD3 σ0 σ' → Q [.inl 0] σ') (hq1 : ∀ (σ' : aSg) (o' : Nat → Nat) (mk' : Nat → Int), DFI σ0 σ' n fr to o' ρ mk' [] → UEq n o o' → mk' k0 = 2 → (∀ x, mk x = 2 → mk' x = 2) → (∀ x, x < n → mk' x = 0 ∨ mk' x = 2) → Lfk n fr to o' mk' → Q [.inl 1] σ') : CA m64 [.inr (.inl 108), .inl (k0 : Int)] σ Q := by
  rw [e64]
  simp (disch := omega) only [s64_0, s64_1, s64_4, s64_7, s64_8, s64_11, s64_12, s64_15, s64_16, s64_18, s64_21, s64_24, s64_25, s64_28, s64_31, s64_34, s64_35, s64_38, s64_41, s64_42, s64_43, s64_46, s64_47, s64_50, s64_53, s64_54, s64_57, s64_58, s64_59, s64_62, s64_63, s64_66, s64_69, s64_70, s64_73, s64_74, s64_77, s64_78, s64_79, s64_82, s64_83, s64_84, s64_87, s64_90, s64_91, s64_92, s64_93, s64_96, s64_97, s64_100, s64_103, s64_104, s64_105, s64_108, s64_109, s64_112, s64_115, s64_118, s64_121, s64_122, s64_123, s64_126, s64_129, s64_130, List.cons_append, List.nil_append, if_true, if_false, true_and, and_true, and_self, eq_self, true_or, or_true, false_or, or_false, tIn, tLe, fLe, tLt, fLt, tEq, fEq, isL, row119.1]
  refine rclr_ok row119 h1 _ (fun σ1 k1 w1 f1 => ?_)
  have i1 : DFI σ0 σ1 n fr to o ρ mk [] := ⟨k1, (FrW_rv f1 row119 row109 (by omega)).trans h2, (FrW_rv f1 row119 row111 (by omega)).trans h3, (FrW_rv f1 row119 row113 (by omega)).trans h4, (FrW_rv f1 row119 row121 (by omega)).trans h5, by rw [w1]; rfl, h7, fun a q1 q2 q3 q4 q5 q6 => (f1 a q3 q4).trans (h8 a q1 q2 q3 q4 q5 q6)⟩
  simp (disch := omega) only [s64_0, s64_1, s64_4, s64_7, s64_8, s64_11, s64_12, s64_15, s64_16, s64_18, s64_21, s64_24, s64_25, s64_28, s64_31, s64_34, s64_35, s64_38, s64_41, s64_42, s64_43, s64_46, s64_47, s64_50, s64_53, s64_54, s64_57, s64_58, s64_59, s64_62, s64_63, s64_66, s64_69, s64_70, s64_73, s64_74, s64_77, s64_78, s64_79, s64_82, s64_83, s64_84, s64_87, s64_90, s64_91, s64_92, s64_93, s64_96, s64_97, s64_100, s64_103, s64_104, s64_105, s64_108, s64_109, s64_112, s64_115, s64_118, s64_121, s64_122, s64_123, s64_126, s64_129, s64_130, List.cons_append, List.nil_append, if_true, if_false, true_and, and_true, and_self, eq_self, true_or, or_true, false_or, or_false, tIn, tLe, fLe, tLt, fLt, tEq, fEq, isL, row119.1]
  refine DFI_o i1 (by simp) _ (fun σ2 i2 => ?_)
  simp (disch := omega) only [s64_0, s64_1, s64_4, s64_7, s64_8, s64_11, s64_12, s64_15, s64_16, s64_18, s64_21, s64_24, s64_25, s64_28, s64_31, s64_34, s64_35, s64_38, s64_41, s64_42, s64_43, s64_46, s64_47, s64_50, s64_53, s64_54, s64_57, s64_58, s64_59, s64_62, s64_63, s64_66, s64_69, s64_70, s64_73, s64_74, s64_77, s64_78, s64_79, s64_82, s64_83, s64_84, s64_87, s64_90, s64_91, s64_92, s64_93, s64_96, s64_97, s64_100, s64_103, s64_104, s64_105, s64_108, s64_109, s64_112, s64_115, s64_118, s64_121, s64_122, s64_123, s64_126, s64_129, s64_130, List.cons_append, List.nil_append, if_true, if_false, true_and, and_true, and_self, eq_self, true_or, or_true, false_or, or_false, tIn, tLe, fLe, tLt, fLt, tEq, fEq, isL]
  have nw0 := nwN_le (mk := mk) n
  have lp : ∀ (m c : Nat) (FS : List Fm) (bs : List Nat) (o1 : Nat → Nat) (mk1 : Nat → Int) (σ3 : aSg) (l3 : AV), c + m = 2880 → (stk FS bs).length + 3 * nwN mk1 n ≤ m → (stk FS bs).length + 2 * nwN mk1 n ≤ 1 + 2 * n → (bs = [] ∨ (FS = [] ∧ bs = [k0] ∧ mk1 k0 = 0)) → ((∃ f ∈ FS, f.1 = k0) ∨ mk1 k0 = 2 ∨ bs = [k0]) → (∀ x, x < n → mk1 x = 0 ∨ mk1 x = 1 ∨ mk1 x = 2) → (∀ x, x < n → (mk1 x = 1 ↔ ∃ f ∈ FS, f.1 = x)) → (∀ x, mk x = 2 → mk1 x = 2) → FOK n fr to o1 mk1 none FS → Lfk n fr to o1 mk1 → UEq n o o1 → DFI σ0 σ3 n fr to o1 ρ mk1 (stk FS bs) → WP m64 17 [.inr (.inl 108), .inl (k0 : Int), .inl (c : Int), l3] [] σ3 Q := by
    intro m
    induction m with
    | zero =>
      intro c FS bs o1 mk1 σ3 l3 g1 g2 g3 g4 g5 g6 g7 g8 g9 g10 g11 g12
      have hz : stk FS bs = [] := List.length_eq_zero_iff.mp (by omega)
      have hFS : FS = [] := by
        cases FS with
        | nil => rfl
        | cons f FS => obtain ⟨u, pd⟩ := f; simp [stk] at hz
      subst hFS
      have hbs : bs = [] := hz
      subst hbs
      have hk2 : mk1 k0 = 2 := by
        rcases g5 with ⟨f, hf, -⟩ | q | q
        · cases hf
        · exact q
        · cases q
      rw [s64_17]
      simp (disch := omega) only [s64_0, s64_1, s64_4, s64_7, s64_8, s64_11, s64_12, s64_15, s64_16, s64_18, s64_21, s64_24, s64_25, s64_28, s64_31, s64_34, s64_35, s64_38, s64_41, s64_42, s64_43, s64_46, s64_47, s64_50, s64_53, s64_54, s64_57, s64_58, s64_59, s64_62, s64_63, s64_66, s64_69, s64_70, s64_73, s64_74, s64_77, s64_78, s64_79, s64_82, s64_83, s64_84, s64_87, s64_90, s64_91, s64_92, s64_93, s64_96, s64_97, s64_100, s64_103, s64_104, s64_105, s64_108, s64_109, s64_112, s64_115, s64_118, s64_121, s64_122, s64_123, s64_126, s64_129, s64_130, List.cons_append, List.nil_append, if_true, if_false, true_and, and_true, and_self, eq_self, true_or, or_true, false_or, or_false, tIn, tLe, fLe, tLt, fLt, tEq, fEq, isL]
      refine hq1 σ3 o1 mk1 g12 g11 hk2 g8 (fun x hx => ?_) g10
      rcases g6 x hx with q | q | q
      · exact Or.inl q
      · obtain ⟨f, hf, -⟩ := (g7 x hx).mp q; cases hf
      · exact Or.inr q
    | succ m ih =>
      intro c FS bs o1 mk1 σ3 l3 g1 g2 g3 g4 g5 g6 g7 g8 g9 g10 g11 g12
      obtain ⟨b1, b2, b3, b4, b5, b6, b7, b8⟩ := id g12
      rw [s64_17]
      -- a new one comes
      have enter : ∀ (t : Nat) (st : List Nat) (FS2 : List Fm), stk FS bs = t :: st → st = stk FS2 [] → t < n → o1 t = t → mk1 t = 0 → (∀ f ∈ FS2, t ≠ f.1) → (∀ f FS', FS2 = f :: FS' → chd fr to o1 f.1 t) → FOK n fr to o1 mk1 (some t) FS2 → (∀ x, x < n → (mk1 x = 1 ↔ ∃ f ∈ FS2, f.1 = x)) → (t = k0 ∨ (∃ f ∈ FS2, f.1 = k0) ∨ mk1 k0 = 2) → WP m64 73 [.inr (.inl 108), .inl (k0 : Int), .inl (c : Int), .inl (t : Int)] [] σ3 Q := by
        intro t st FS2 e1 e2 e3 e4 e5 e6 e7 e8 e9 e10
        rw [e1] at g2 g3 g12
        simp only [List.length_cons] at g2 g3
        have nwu := nwN_up (mk := mk1) (a := t) (v := 1) e3 e5 (by omega)
        have m2 : ∀ x, mk1 x = 2 → upI mk1 t 1 x = 2 := fun x hx => by rw [upI_n (by intro z; rw [z, e5] at hx; omega)]; exact hx
        have E2 : ∀ x, x < n → (upI mk1 t 1 x = 1 ↔ x = t ∨ ∃ f ∈ FS2, f.1 = x) := by
          intro x hx
          by_cases z : x = t
          · subst z; rw [upI_s]; exact ⟨fun _ => Or.inl rfl, fun _ => rfl⟩
          · rw [upI_n z, e9 x hx]; exact ⟨fun q => Or.inr q, fun q => by rcases q with q | q; exact absurd q z; exact q⟩
        have V2 : ∀ x, x < n → upI mk1 t 1 x = 0 ∨ upI mk1 t 1 x = 1 ∨ upI mk1 t 1 x = 2 := by
          intro x hx
          by_cases z : x = t
          · subst z; rw [upI_s]; omega
          · rw [upI_n z]; exact g6 x hx
        have L2 : ∀ o2, Lfk n fr to o2 mk1 → Lfk n fr to o2 (upI mk1 t 1) := by
          rintro o2 ⟨ht, tt, hh⟩
          refine ⟨ht, tt, fun r q1 q2 => ?_⟩
          have hrt : r ≠ t := fun z => by rw [z, upI_s] at q2; omega
          rw [upI_n hrt] at q2
          obtain ⟨a1, a2, a3⟩ := hh r q1 q2
          exact ⟨a1, a2, fun x hx => by obtain ⟨y1, y2⟩ := a3 x hx; exact ⟨m2 x y1, y2⟩⟩
        have k0c : ∀ pd : List Nat, (∃ f ∈ (t, pd) :: FS2, f.1 = k0) ∨ upI mk1 t 1 k0 = 2 ∨ ([] : List Nat) = [k0] := by
          intro pd
          rcases e10 with q | ⟨f, q1, q2⟩ | q
          · exact Or.inl ⟨(t, pd), List.mem_cons_self .., q⟩
          · exact Or.inl ⟨f, List.mem_cons_of_mem _ q1, q2⟩
          · exact Or.inr (Or.inl (m2 k0 q))
        have E3 : ∀ pd : List Nat, ∀ x, x < n → (upI mk1 t 1 x = 1 ↔ ∃ f ∈ (t, pd) :: FS2, f.1 = x) := by
          intro pd x hx
          rw [E2 x hx]
          constructor
          · rintro (q | ⟨f, q1, q2⟩)
            · exact ⟨(t, pd), List.mem_cons_self .., q.symm⟩
            · exact ⟨f, List.mem_cons_of_mem _ q1, q2⟩
          · rintro ⟨f, q1, q2⟩
            rcases List.mem_cons.mp q1 with rfl | q1
            · exact Or.inl q2.symm
            · exact Or.inr ⟨f, q1, q2⟩
        simp (disch := omega) only [s64_0, s64_1, s64_4, s64_7, s64_8, s64_11, s64_12, s64_15, s64_16, s64_18, s64_21, s64_24, s64_25, s64_28, s64_31, s64_34, s64_35, s64_38, s64_41, s64_42, s64_43, s64_46, s64_47, s64_50, s64_53, s64_54, s64_57, s64_58, s64_59, s64_62, s64_63, s64_66, s64_69, s64_70, s64_73, s64_74, s64_77, s64_78, s64_79, s64_82, s64_83, s64_84, s64_87, s64_90, s64_91, s64_92, s64_93, s64_96, s64_97, s64_100, s64_103, s64_104, s64_105, s64_108, s64_109, s64_112, s64_115, s64_118, s64_121, s64_122, s64_123, s64_126, s64_129, s64_130, List.cons_append, List.nil_append, if_true, if_false, true_and, and_true, and_self, eq_self, true_or, or_true, false_or, or_false, tIn, tLe, fLe, tLt, fLt, tEq, fEq, isL, row121.1]
        refine DFI_m (v := 1) g12 e3 _ (fun σ4 i4 => ?_)
        obtain ⟨d1, d2, d3, d4, d5, d6, d7, d8⟩ := id i4
        have hc := fun K => c60 (K := K) d1 d2 e3
        by_cases gu : fr t = -1
        · rw [if_pos gu] at hc
          simp (disch := omega) only [s64_0, s64_1, s64_4, s64_7, s64_8, s64_11, s64_12, s64_15, s64_16, s64_18, s64_21, s64_24, s64_25, s64_28, s64_31, s64_34, s64_35, s64_38, s64_41, s64_42, s64_43, s64_46, s64_47, s64_50, s64_53, s64_54, s64_57, s64_58, s64_59, s64_62, s64_63, s64_66, s64_69, s64_70, s64_73, s64_74, s64_77, s64_78, s64_79, s64_82, s64_83, s64_84, s64_87, s64_90, s64_91, s64_92, s64_93, s64_96, s64_97, s64_100, s64_103, s64_104, s64_105, s64_108, s64_109, s64_112, s64_115, s64_118, s64_121, s64_122, s64_123, s64_126, s64_129, s64_130, List.cons_append, List.nil_append, if_true, if_false, true_and, and_true, and_self, eq_self, true_or, or_true, false_or, or_false, tIn, tLe, fLe, tLt, fLt, tEq, fEq, isL, hc]
          refine ih (c + 1) ((t, []) :: FS2) [] o1 (upI mk1 t 1) σ4 _ (by omega) (by simp [stk]; rw [e2] at g2; omega) (by simp [stk]; rw [e2] at g3; omega) (Or.inl rfl) (k0c []) V2 (E3 []) (fun x hx => m2 x (g8 x hx)) ⟨e3, e4, (fun x hx => by cases hx), e6, e7, (fun x hx => absurd gu hx.1), FOK_mk m2 FS2 _ e8⟩ (L2 o1 g10) g11 (by rw [e2] at i4; exact i4)
        · rw [if_neg gu] at hc
          obtain ⟨fa, ta, ea1, ea2, ea3, ea4⟩ : ∃ a b : Nat, fr t = (a : Int) ∧ to t = (b : Int) ∧ a < n ∧ b < n := by rcases hK t e3 with q | q; exact absurd q gu; exact q
          have xA := mpI_at (f := fr) e3
          have tA := mpI_at (f := to) e3
          rw [ea1] at xA
          rw [ea2] at tA
          simp (disch := omega) only [s64_0, s64_1, s64_4, s64_7, s64_8, s64_11, s64_12, s64_15, s64_16, s64_18, s64_21, s64_24, s64_25, s64_28, s64_31, s64_34, s64_35, s64_38, s64_41, s64_42, s64_43, s64_46, s64_47, s64_50, s64_53, s64_54, s64_57, s64_58, s64_59, s64_62, s64_63, s64_66, s64_69, s64_70, s64_73, s64_74, s64_77, s64_78, s64_79, s64_82, s64_83, s64_84, s64_87, s64_90, s64_91, s64_92, s64_93, s64_96, s64_97, s64_100, s64_103, s64_104, s64_105, s64_108, s64_109, s64_112, s64_115, s64_118, s64_121, s64_122, s64_123, s64_126, s64_129, s64_130, List.cons_append, List.nil_append, if_true, if_false, true_and, and_true, and_self, eq_self, true_or, or_true, false_or, or_false, tIn, tLe, fLe, tLt, fLt, tEq, fEq, isL, hc, row109.1, c30 row109 d1, d2, xA]
          refine DFI_w i4 hn ea3 _ (fun σ5 o2 A i5 q5 rA lA => ?_)
          obtain ⟨y1, y2, y3, y4, y5, y6, y7, y8⟩ := id i5
          simp (disch := omega) only [s64_0, s64_1, s64_4, s64_7, s64_8, s64_11, s64_12, s64_15, s64_16, s64_18, s64_21, s64_24, s64_25, s64_28, s64_31, s64_34, s64_35, s64_38, s64_41, s64_42, s64_43, s64_46, s64_47, s64_50, s64_53, s64_54, s64_57, s64_58, s64_59, s64_62, s64_63, s64_66, s64_69, s64_70, s64_73, s64_74, s64_77, s64_78, s64_79, s64_82, s64_83, s64_84, s64_87, s64_90, s64_91, s64_92, s64_93, s64_96, s64_97, s64_100, s64_103, s64_104, s64_105, s64_108, s64_109, s64_112, s64_115, s64_118, s64_121, s64_122, s64_123, s64_126, s64_129, s64_130, List.cons_append, List.nil_append, if_true, if_false, true_and, and_true, and_self, eq_self, true_or, or_true, false_or, or_false, tIn, tLe, fLe, tLt, fLt, tEq, fEq, isL, row111.1, c30 row111 y1, y3, tA]
          refine DFI_w i5 hn ea4 _ (fun σ6 o3 B i6 q6 rB lB => ?_)
          have q36 := UEq_tr q5 q6
          have rA' : Ru o3 fa A := (q6.2.2 fa A).mp rA
          have cA : chd fr to o3 t A := ⟨gu, Or.inl (by rw [ea1, Int.toNat_natCast]; exact rA')⟩
          have cB : chd fr to o3 t B := ⟨gu, Or.inr (by rw [ea2, Int.toNat_natCast]; exact rB)⟩
          have oA := (Ru_in i6.2.2.2.2.2.2.1 ea3 rA').2.2
          have oB := (Ru_in i6.2.2.2.2.2.2.1 ea4 rB).2.2
          have F8 := FOK_eq q36 FS2 _ e8
          have FT : ∀ pd : List Nat, (∀ x ∈ pd, x < n ∧ o3 x = x ∧ chd fr to o3 t x ∧ x ≠ t ∧ ∀ f ∈ FS2, x ≠ f.1) → (∀ x, chd fr to o3 t x → upI mk1 t 1 x = 2 ∨ x ∈ pd ∨ (none : Option Nat) = some x) → FOK n fr to o3 (upI mk1 t 1) none ((t, pd) :: FS2) := fun pd p1 p2 => ⟨e3, (q36.2.1 t).mp e4, p1, e6, fun f FS' ef => (chd_eq q36 f.1 t).mp (e7 f FS' ef), p2, FOK_mk m2 FS2 _ F8⟩
          simp (disch := omega) only [s64_0, s64_1, s64_4, s64_7, s64_8, s64_11, s64_12, s64_15, s64_16, s64_18, s64_21, s64_24, s64_25, s64_28, s64_31, s64_34, s64_35, s64_38, s64_41, s64_42, s64_43, s64_46, s64_47, s64_50, s64_53, s64_54, s64_57, s64_58, s64_59, s64_62, s64_63, s64_66, s64_69, s64_70, s64_73, s64_74, s64_77, s64_78, s64_79, s64_82, s64_83, s64_84, s64_87, s64_90, s64_91, s64_92, s64_93, s64_96, s64_97, s64_100, s64_103, s64_104, s64_105, s64_108, s64_109, s64_112, s64_115, s64_118, s64_121, s64_122, s64_123, s64_126, s64_129, s64_130, List.cons_append, List.nil_append, if_true, if_false, true_and, and_true, and_self, eq_self, true_or, or_true, false_or, or_false, tIn, tLe, fLe, tLt, fLt, tEq, fEq, isL]
          refine wr65 i6 lA lB (by simp only [List.length_cons]; omega) _ (fun hbad => ?_) (fun σ7 n1 n2 i7 => ?_)
          · simp (disch := omega) only [s64_0, s64_1, s64_4, s64_7, s64_8, s64_11, s64_12, s64_15, s64_16, s64_18, s64_21, s64_24, s64_25, s64_28, s64_31, s64_34, s64_35, s64_38, s64_41, s64_42, s64_43, s64_46, s64_47, s64_50, s64_53, s64_54, s64_57, s64_58, s64_59, s64_62, s64_63, s64_66, s64_69, s64_70, s64_73, s64_74, s64_77, s64_78, s64_79, s64_82, s64_83, s64_84, s64_87, s64_90, s64_91, s64_92, s64_93, s64_96, s64_97, s64_100, s64_103, s64_104, s64_105, s64_108, s64_109, s64_112, s64_115, s64_118, s64_121, s64_122, s64_123, s64_126, s64_129, s64_130, List.cons_append, List.nil_append, if_true, if_false, true_and, and_true, and_self, eq_self, true_or, or_true, false_or, or_false, tIn, tLe, fLe, tLt, fLt, tEq, fEq, isL]
            refine hq0 ?_ σ6 i6.1 i6.2.2.2.2.2.2.2
            rintro ⟨v, v1, v2⟩
            have hb : ∀ r, (r < n ∧ upI mk1 t 1 r = 1) → r < n ∧ fr r ≠ -1 ∧ ∃ x, (Ru o3 (fr r).toNat x ∨ Ru o3 (to r).toNat x) ∧ (x < n ∧ upI mk1 t 1 x = 1) := by
              intro r hr
              rcases (E2 r hr.1).mp hr.2 with z | ⟨f, z1, z2⟩
              · subst z
                rcases hbad with q | q
                · exact ⟨e3, gu, A, cA.2, lA, q⟩
                · exact ⟨e3, gu, B, cB.2, lB, q⟩
              · cases FS2 with
                | nil => cases z1
                | cons f0 FS3 =>
                  rcases List.mem_cons.mp z1 with rfl | z1
                  · have := (chd_eq q36 f.1 t).mp (e7 f FS3 rfl)
                    rw [z2] at this
                    exact ⟨hr.1, this.1, t, this.2, e3, upI_s⟩
                  · obtain ⟨g, y1, y2⟩ := FOK_next _ _ F8 f z1
                    rw [z2] at y2
                    have gl := FOK_lt _ _ F8 g y1
                    exact ⟨hr.1, y2.1, g.1, y2.2, gl, (E2 g.1 gl).mpr (Or.inr ⟨g, y1, rfl⟩)⟩
            have on3 : onV n o3 v := ((UEq_tr g11 q36).1 v).mp v2
            exact cyc_no hK i6.2.2.2.2.2.2.1 (fun r => r < n ∧ upI mk1 t 1 r = 1) hb ⟨e3, upI_s⟩ ⟨v, v1, on3⟩
          · have nt : ∀ C, C < n → ¬ upI mk1 t 1 C = 1 → C ≠ t ∧ ∀ f ∈ FS2, C ≠ f.1 := by
              intro C hC hne
              refine ⟨fun z => hne ((E2 C hC).mpr (Or.inl z)), fun f hf z => hne ((E2 C hC).mpr (Or.inr ⟨f, hf, z.symm⟩))⟩
            simp (disch := omega) only [s64_0, s64_1, s64_4, s64_7, s64_8, s64_11, s64_12, s64_15, s64_16, s64_18, s64_21, s64_24, s64_25, s64_28, s64_31, s64_34, s64_35, s64_38, s64_41, s64_42, s64_43, s64_46, s64_47, s64_50, s64_53, s64_54, s64_57, s64_58, s64_59, s64_62, s64_63, s64_66, s64_69, s64_70, s64_73, s64_74, s64_77, s64_78, s64_79, s64_82, s64_83, s64_84, s64_87, s64_90, s64_91, s64_92, s64_93, s64_96, s64_97, s64_100, s64_103, s64_104, s64_105, s64_108, s64_109, s64_112, s64_115, s64_118, s64_121, s64_122, s64_123, s64_126, s64_129, s64_130, List.cons_append, List.nil_append, if_true, if_false, true_and, and_true, and_self, eq_self, true_or, or_true, false_or, or_false, tIn, tLe, fLe, tLt, fLt, tEq, fEq, isL]
            refine ih (c + 1) ((t, [B, A]) :: FS2) [] o3 (upI mk1 t 1) σ7 _ (by omega) (by simp [stk]; rw [e2] at g2; omega) (by simp [stk]; rw [e2] at g3; omega) (Or.inl rfl) (k0c [B, A]) V2 (E3 [B, A]) (fun x hx => m2 x (g8 x hx)) (FT [B, A] (fun x hx => ?_) (fun x hx => ?_)) (L2 o3 (Lfk_eq q36 g10)) (UEq_tr g11 q36) (by rw [e2] at i7; exact i7)
            · simp only [List.mem_cons, List.not_mem_nil, or_false] at hx
              rcases hx with rfl | rfl
              · exact ⟨lB, oB, cB, nt _ lB n2⟩
              · exact ⟨lA, oA, cA, nt _ lA n1⟩
            · right; left
              rcases hx.2 with q | q
              · rw [ea1, Int.toNat_natCast] at q
                rw [Ru_un q rA']; simp
              · rw [ea2, Int.toNat_natCast] at q
                rw [Ru_un q rB]; simp
      -- one that was looked at goes
      have leave : ∀ (t : Nat) (st : List Nat) (FS2 : List Fm), stk FS bs = t :: st → st = stk FS2 [] → t < n → ¬ mk1 t = 0 → (mk1 t = 2 ∨ (mk1 t = 1 ∧ o1 t = t ∧ ∀ x, chd fr to o1 t x → mk1 x = 2)) → FOK n fr to o1 (upI mk1 t 2) none FS2 → (∀ x, x < n → (upI mk1 t 2 x = 1 ↔ ∃ f ∈ FS2, f.1 = x)) → ((∃ f ∈ FS2, f.1 = k0) ∨ upI mk1 t 2 k0 = 2) → WP m64 53 [.inr (.inl 108), .inl (k0 : Int), .inl (c : Int), .inl (t : Int)] [] σ3 Q := by
        intro t st FS2 e1 e2 e3 e4 e5 e6 e7 e8
        rw [e1] at g2 g3 g12
        simp only [List.length_cons] at g2 g3
        have nwu := nwN_ne (mk := mk1) (a := t) (v := 2) e4 (by omega) n
        have m2 : ∀ x, mk1 x = 2 → upI mk1 t 2 x = 2 := fun x hx => by
          by_cases z : x = t
          · rw [z, upI_s]
          · rw [upI_n z]; exact hx
        have V2 : ∀ x, x < n → upI mk1 t 2 x = 0 ∨ upI mk1 t 2 x = 1 ∨ upI mk1 t 2 x = 2 := by
          intro x hx
          by_cases z : x = t
          · subst z; rw [upI_s]; omega
          · rw [upI_n z]; exact g6 x hx
        have L2 : Lfk n fr to o1 (upI mk1 t 2) := by
          rcases e5 with q | ⟨q1, q2, q3⟩
          · rw [upI_id q]; exact g10
          · obtain ⟨ht, tt, hh⟩ := g10
            refine ⟨uPd ht t tt, tt + 1, fun r p1 p2 => ?_⟩
            by_cases z : r = t
            · subst z
              have hu : uPd ht r tt r = tt := by unfold uPd; rw [if_pos rfl]
              rw [hu]
              refine ⟨q2, by omega, fun x hx => ?_⟩
              have x2 := q3 x hx
              have xr : x ≠ r := fun z => by rw [z] at x2; omega
              have xl : x < n := by
                obtain ⟨kk1, kk2⟩ := KG_at hK e3 hx.1
                rcases hx.2 with w | w
                · exact (Ru_in b7 kk1 w).1
                · exact (Ru_in b7 kk2 w).1
              have := (hh x xl x2).2.1
              have hu2 : uPd ht r tt x = ht x := by unfold uPd; rw [if_neg xr]
              rw [hu2]
              exact ⟨m2 x x2, this⟩
            · rw [upI_n z] at p2
              obtain ⟨a1, a2, a3⟩ := hh r p1 p2
              have hu : uPd ht t tt r = ht r := by unfold uPd; rw [if_neg z]
              rw [hu]
              refine ⟨a1, by omega, fun x hx => ?_⟩
              obtain ⟨y1, y2⟩ := a3 x hx
              have xt : x ≠ t := fun z => by rw [z] at y1; omega
              have hu2 : uPd ht t tt x = ht x := by unfold uPd; rw [if_neg xt]
              rw [hu2]
              exact ⟨m2 x y1, y2⟩
        simp (disch := omega) only [s64_0, s64_1, s64_4, s64_7, s64_8, s64_11, s64_12, s64_15, s64_16, s64_18, s64_21, s64_24, s64_25, s64_28, s64_31, s64_34, s64_35, s64_38, s64_41, s64_42, s64_43, s64_46, s64_47, s64_50, s64_53, s64_54, s64_57, s64_58, s64_59, s64_62, s64_63, s64_66, s64_69, s64_70, s64_73, s64_74, s64_77, s64_78, s64_79, s64_82, s64_83, s64_84, s64_87, s64_90, s64_91, s64_92, s64_93, s64_96, s64_97, s64_100, s64_103, s64_104, s64_105, s64_108, s64_109, s64_112, s64_115, s64_118, s64_121, s64_122, s64_123, s64_126, s64_129, s64_130, List.cons_append, List.nil_append, if_true, if_false, true_and, and_true, and_self, eq_self, true_or, or_true, false_or, or_false, tIn, tLe, fLe, tLt, fLt, tEq, fEq, isL, row121.1]
        refine DFI_m (v := 2) g12 e3 _ (fun σ4 i4 => ?_)
        simp (disch := omega) only [s64_0, s64_1, s64_4, s64_7, s64_8, s64_11, s64_12, s64_15, s64_16, s64_18, s64_21, s64_24, s64_25, s64_28, s64_31, s64_34, s64_35, s64_38, s64_41, s64_42, s64_43, s64_46, s64_47, s64_50, s64_53, s64_54, s64_57, s64_58, s64_59, s64_62, s64_63, s64_66, s64_69, s64_70, s64_73, s64_74, s64_77, s64_78, s64_79, s64_82, s64_83, s64_84, s64_87, s64_90, s64_91, s64_92, s64_93, s64_96, s64_97, s64_100, s64_103, s64_104, s64_105, s64_108, s64_109, s64_112, s64_115, s64_118, s64_121, s64_122, s64_123, s64_126, s64_129, s64_130, List.cons_append, List.nil_append, if_true, if_false, true_and, and_true, and_self, eq_self, true_or, or_true, false_or, or_false, tIn, tLe, fLe, tLt, fLt, tEq, fEq, isL, row119.1]
        refine DFI_p i4 _ (fun σ5 i5 => ?_)
        simp (disch := omega) only [s64_0, s64_1, s64_4, s64_7, s64_8, s64_11, s64_12, s64_15, s64_16, s64_18, s64_21, s64_24, s64_25, s64_28, s64_31, s64_34, s64_35, s64_38, s64_41, s64_42, s64_43, s64_46, s64_47, s64_50, s64_53, s64_54, s64_57, s64_58, s64_59, s64_62, s64_63, s64_66, s64_69, s64_70, s64_73, s64_74, s64_77, s64_78, s64_79, s64_82, s64_83, s64_84, s64_87, s64_90, s64_91, s64_92, s64_93, s64_96, s64_97, s64_100, s64_103, s64_104, s64_105, s64_108, s64_109, s64_112, s64_115, s64_118, s64_121, s64_122, s64_123, s64_126, s64_129, s64_130, List.cons_append, List.nil_append, if_true, if_false, true_and, and_true, and_self, eq_self, true_or, or_true, false_or, or_false, tIn, tLe, fLe, tLt, fLt, tEq, fEq, isL]
        refine ih (c + 1) FS2 [] o1 (upI mk1 t 2) σ5 _ (by omega) (by rw [← e2]; omega) (by rw [← e2]; omega) (Or.inl rfl) (by rcases e8 with q | q; exact Or.inl q; exact Or.inr (Or.inl q)) V2 e7 (fun x hx => m2 x (g8 x hx)) e6 L2 g11 (by rw [← e2]; exact i5)
      cases FS with
      | nil =>
        rcases g4 with hb | ⟨-, hb, hk⟩
        · subst hb
          have hk2 : mk1 k0 = 2 := by
            rcases g5 with ⟨f, hf, -⟩ | q | q
            · cases hf
            · exact q
            · cases q
          have z0 : ((lNI (stk [] [])).reverse.length : Int) = 0 := rfl
          simp (disch := omega) only [s64_0, s64_1, s64_4, s64_7, s64_8, s64_11, s64_12, s64_15, s64_16, s64_18, s64_21, s64_24, s64_25, s64_28, s64_31, s64_34, s64_35, s64_38, s64_41, s64_42, s64_43, s64_46, s64_47, s64_50, s64_53, s64_54, s64_57, s64_58, s64_59, s64_62, s64_63, s64_66, s64_69, s64_70, s64_73, s64_74, s64_77, s64_78, s64_79, s64_82, s64_83, s64_84, s64_87, s64_90, s64_91, s64_92, s64_93, s64_96, s64_97, s64_100, s64_103, s64_104, s64_105, s64_108, s64_109, s64_112, s64_115, s64_118, s64_121, s64_122, s64_123, s64_126, s64_129, s64_130, List.cons_append, List.nil_append, if_true, if_false, true_and, and_true, and_self, eq_self, true_or, or_true, false_or, or_false, tIn, tLe, fLe, tLt, fLt, tEq, fEq, isL, row119.1, c28 row119 b1, b6, z0]
          refine hq1 σ3 o1 mk1 g12 g11 hk2 g8 (fun x hx => ?_) g10
          rcases g6 x hx with q | q | q
          · exact Or.inl q
          · obtain ⟨f, hf, -⟩ := (g7 x hx).mp q; cases hf
          · exact Or.inr q
        · subst hb
          have hs : stk [] [k0] = k0 :: [] := rfl
          have b6' : rv σ3 119 = (lNI (k0 :: [])).reverse := b6
          have z1 : ((lNI (k0 :: [])).reverse.length : Int) = 1 := rfl
          have ll := llast_rev (a := k0) (st := [])
          have em := mpI_at (f := mk1) hk0
          rw [hk] at em
          simp (disch := omega) only [s64_0, s64_1, s64_4, s64_7, s64_8, s64_11, s64_12, s64_15, s64_16, s64_18, s64_21, s64_24, s64_25, s64_28, s64_31, s64_34, s64_35, s64_38, s64_41, s64_42, s64_43, s64_46, s64_47, s64_50, s64_53, s64_54, s64_57, s64_58, s64_59, s64_62, s64_63, s64_66, s64_69, s64_70, s64_74, s64_77, s64_78, s64_79, s64_82, s64_83, s64_84, s64_87, s64_90, s64_91, s64_92, s64_93, s64_96, s64_97, s64_100, s64_103, s64_104, s64_105, s64_108, s64_109, s64_112, s64_115, s64_118, s64_121, s64_122, s64_123, s64_126, s64_129, s64_130, List.cons_append, List.nil_append, if_true, if_false, true_and, and_true, and_self, eq_self, true_or, or_true, false_or, or_false, tIn, tLe, fLe, tLt, fLt, tEq, fEq, isL, row119.1, c28 row119 b1, b6', z1, c32 row119 b1, ll, row121.1, c30 row121 b1, b5, em]
          exact enter k0 [] [] hs rfl hk0 ((g11.2.1 k0).mp hr0) hk (fun f hf => by cases hf) (fun f FS' e => by cases e) trivial g7 (Or.inl rfl)
      | cons f FS =>
        obtain ⟨u, pd⟩ := f
        have hbs : bs = [] := by
          rcases g4 with q | q
          · exact q
          · exact absurd q.1 (by simp)
        subst hbs
        obtain ⟨p1, p2, p3, p4, p5, p6, p7⟩ := id g9
        cases pd with
        | nil =>
          have hs : stk ((u, []) :: FS) [] = u :: stk FS [] := rfl
          have hu1 : mk1 u = 1 := (g7 u p1).mpr ⟨_, List.mem_cons_self .., rfl⟩
          have b6' : rv σ3 119 = (lNI (u :: stk FS [])).reverse := b6
          have z1 : ((lNI (u :: stk FS [])).reverse.length : Int) = ((stk FS []).length : Int) + 1 := by simp [lNI]
          have ll := llast_rev (a := u) (st := stk FS [])
          have em := mpI_at (f := mk1) p1
          rw [hu1] at em
          simp (disch := omega) only [s64_0, s64_1, s64_4, s64_7, s64_8, s64_11, s64_12, s64_15, s64_16, s64_18, s64_21, s64_24, s64_25, s64_28, s64_31, s64_34, s64_35, s64_38, s64_41, s64_42, s64_43, s64_46, s64_47, s64_50, s64_54, s64_57, s64_58, s64_59, s64_62, s64_63, s64_66, s64_69, s64_70, s64_73, s64_74, s64_77, s64_78, s64_79, s64_82, s64_83, s64_84, s64_87, s64_90, s64_91, s64_92, s64_93, s64_96, s64_97, s64_100, s64_103, s64_104, s64_105, s64_108, s64_109, s64_112, s64_115, s64_118, s64_121, s64_122, s64_123, s64_126, s64_129, s64_130, List.cons_append, List.nil_append, if_true, if_false, true_and, and_true, and_self, eq_self, true_or, or_true, false_or, or_false, tIn, tLe, fLe, tLt, fLt, tEq, fEq, isL, row119.1, c28 row119 b1, b6', z1, c32 row119 b1, ll, row121.1, c30 row121 b1, b5, em]
          refine leave u (stk FS []) FS hs rfl p1 (by omega) (Or.inr ⟨hu1, p2, fun x hx => ?_⟩) (FOK_pop upI_s (fun x hx => ?_) FS p7) (fun x hx => ?_) ?_
          · rcases p6 x hx with q | q | q
            · exact q
            · cases q
            · cases q
          · by_cases z : x = u
            · rw [z, upI_s]
            · rw [upI_n z]; exact hx
          · by_cases z : x = u
            · subst z
              rw [upI_s]
              exact ⟨fun q => by omega, fun ⟨f, f1, f2⟩ => absurd f2.symm (p4 f f1)⟩
            · rw [upI_n z, g7 x hx]
              constructor
              · rintro ⟨f, f1, f2⟩
                rcases List.mem_cons.mp f1 with rfl | f1
                · exact absurd f2.symm z
                · exact ⟨f, f1, f2⟩
              · rintro ⟨f, f1, f2⟩
                exact ⟨f, List.mem_cons_of_mem _ f1, f2⟩
          · rcases g5 with ⟨f, f1, f2⟩ | q | q
            · rcases List.mem_cons.mp f1 with rfl | f1
              · right
                have : k0 = u := f2.symm
                rw [this, upI_s]
              · exact Or.inl ⟨f, f1, f2⟩
            · right
              by_cases z : k0 = u
              · rw [z, upI_s]
              · rw [upI_n z]; exact q
            · cases q
        | cons x pd =>
          obtain ⟨x1, x2, x3, x4, x5⟩ := p3 x (List.mem_cons_self ..)
          have hs : stk ((u, x :: pd) :: FS) [] = x :: (pd ++ u :: stk FS []) := rfl
          have hs2 : pd ++ u :: stk FS [] = stk ((u, pd) :: FS) [] := rfl
          have nx1 : ¬ mk1 x = 1 := by
            intro z
            obtain ⟨f, f1, f2⟩ := (g7 x x1).mp z
            rcases List.mem_cons.mp f1 with rfl | f1
            · exact x4 f2.symm
            · exact x5 f f1 f2.symm
          have b6' : rv σ3 119 = (lNI (x :: (pd ++ u :: stk FS []))).reverse := b6
          have z1 : ((lNI (x :: (pd ++ u :: stk FS []))).reverse.length : Int) = ((pd ++ u :: stk FS []).length : Int) + 1 := by simp [lNI]; omega
          have ll := llast_rev (a := x) (st := pd ++ u :: stk FS [])
          have em := mpI_at (f := mk1) x1
          have E7 : ∀ y, y < n → (mk1 y = 1 ↔ ∃ f ∈ (u, pd) :: FS, f.1 = y) := by
            intro y hy
            rw [g7 y hy]
            constructor
            · rintro ⟨f, f1, f2⟩
              rcases List.mem_cons.mp f1 with rfl | f1
              · exact ⟨(u, pd), List.mem_cons_self .., f2⟩
              · exact ⟨f, List.mem_cons_of_mem _ f1, f2⟩
            · rintro ⟨f, f1, f2⟩
              rcases List.mem_cons.mp f1 with rfl | f1
              · exact ⟨(u, x :: pd), List.mem_cons_self .., f2⟩
              · exact ⟨f, List.mem_cons_of_mem _ f1, f2⟩
          have K5 : (∃ f ∈ (u, pd) :: FS, f.1 = k0) ∨ mk1 k0 = 2 := by
            rcases g5 with ⟨f, f1, f2⟩ | q | q
            · left
              rcases List.mem_cons.mp f1 with rfl | f1
              · exact ⟨(u, pd), List.mem_cons_self .., f2⟩
              · exact ⟨f, List.mem_cons_of_mem _ f1, f2⟩
            · exact Or.inr q
            · cases q
          have P3 : ∀ y ∈ pd, y < n ∧ o1 y = y ∧ chd fr to o1 u y ∧ y ≠ u ∧ ∀ f ∈ FS, y ≠ f.1 := fun y hy => p3 y (List.mem_cons_of_mem _ hy)
          rcases g6 x x1 with hx0 | hx0 | hx0
          · rw [hx0] at em
            simp (disch := omega) only [s64_0, s64_1, s64_4, s64_7, s64_8, s64_11, s64_12, s64_15, s64_16, s64_18, s64_21, s64_24, s64_25, s64_28, s64_31, s64_34, s64_35, s64_38, s64_41, s64_42, s64_43, s64_46, s64_47, s64_50, s64_53, s64_54, s64_57, s64_58, s64_59, s64_62, s64_63, s64_66, s64_69, s64_70, s64_74, s64_77, s64_78, s64_79, s64_82, s64_83, s64_84, s64_87, s64_90, s64_91, s64_92, s64_93, s64_96, s64_97, s64_100, s64_103, s64_104, s64_105, s64_108, s64_109, s64_112, s64_115, s64_118, s64_121, s64_122, s64_123, s64_126, s64_129, s64_130, List.cons_append, List.nil_append, if_true, if_false, true_and, and_true, and_self, eq_self, true_or, or_true, false_or, or_false, tIn, tLe, fLe, tLt, fLt, tEq, fEq, isL, row119.1, c28 row119 b1, b6', z1, c32 row119 b1, ll, row121.1, c30 row121 b1, b5, em]
            refine enter x _ ((u, pd) :: FS) hs hs2 x1 x2 hx0 (fun f hf => ?_) (fun f FS' e => ?_) ⟨p1, p2, P3, p4, p5, fun y hy => ?_, p7⟩ E7 (Or.inr K5)
            · rcases List.mem_cons.mp hf with rfl | hf
              · exact x4
              · exact x5 f hf
            · cases e; exact x3
            · rcases p6 y hy with q | q | q
              · exact Or.inl q
              · rcases List.mem_cons.mp q with rfl | q
                · exact Or.inr (Or.inr rfl)
                · exact Or.inr (Or.inl q)
              · cases q
          · exact absurd hx0 nx1
          · rw [hx0] at em
            have ui := upI_id (mk := mk1) (a := x) hx0
            simp (disch := omega) only [s64_0, s64_1, s64_4, s64_7, s64_8, s64_11, s64_12, s64_15, s64_16, s64_18, s64_21, s64_24, s64_25, s64_28, s64_31, s64_34, s64_35, s64_38, s64_41, s64_42, s64_43, s64_46, s64_47, s64_50, s64_54, s64_57, s64_58, s64_59, s64_62, s64_63, s64_66, s64_69, s64_70, s64_73, s64_74, s64_77, s64_78, s64_79, s64_82, s64_83, s64_84, s64_87, s64_90, s64_91, s64_92, s64_93, s64_96, s64_97, s64_100, s64_103, s64_104, s64_105, s64_108, s64_109, s64_112, s64_115, s64_118, s64_121, s64_122, s64_123, s64_126, s64_129, s64_130, List.cons_append, List.nil_append, if_true, if_false, true_and, and_true, and_self, eq_self, true_or, or_true, false_or, or_false, tIn, tLe, fLe, tLt, fLt, tEq, fEq, isL, row119.1, c28 row119 b1, b6', z1, c32 row119 b1, ll, row121.1, c30 row121 b1, b5, em]
            refine leave x _ ((u, pd) :: FS) hs hs2 x1 (by omega) (Or.inl hx0) ?_ ?_ ?_
            · rw [ui]
              refine ⟨p1, p2, P3, p4, p5, fun y hy => ?_, p7⟩
              rcases p6 y hy with q | q | q
              · exact Or.inl q
              · rcases List.mem_cons.mp q with rfl | q
                · exact Or.inl hx0
                · exact Or.inr (Or.inl q)
              · cases q
            · rw [ui]; exact E7
            · rw [ui]; exact K5
  refine lp 2880 0 [] [k0] o mk σ2 _ (by omega) (by simp [stk]; omega) (by simp [stk]; omega) (Or.inr ⟨rfl, rfl, hm0⟩) (Or.inr (Or.inr rfl)) (fun x hx => ?_) (fun x hx => ?_) (fun _ q => q) trivial hL UEq_rf i2
  · rcases hmk x hx with q | q
    · exact Or.inl q
    · exact Or.inr (Or.inr q)
  · constructor
    · intro q
      rcases hmk x hx with z | z <;> omega
    · rintro ⟨f, hf, -⟩; cases hf
/-- whether none has itself within it -/
theorem wr63 (hk : RK σ) (h1 : rv σ 109 = mpI n fr) (h2 : rv σ 111 = mpI n to) (h3 : rv σ 113 = mpN n o) (hK : KGr n fr to) (hU : UFr n o ρ) (hn : n ≤ 700) (Q : List AV → aSg → Prop) (hq0 : (¬ ∃ v, apV n fr to v ∧ onV n o v) → ∀ σ', RK σ' → FrD3 σ σ' → Q [.inl 0] σ') (hq1 : ∀ (σ' : aSg) (o' : Nat → Nat), RK σ' → rv σ' 113 = mpN n o' → UFr n o' ρ → UEq n o o' → Acy n fr to o' → FrD3 σ σ' → Q [.inl 1] σ') : CA m63 [.inr (.inl 108)] σ Q := by
  rw [e63]
  have c21 := cp121
  have e0 : ((mpN n o).length : Int) = (n : Int) := by rw [mpN_len]
  have eR : List.replicate (min n (cp 121)) (0 : Int) = mpI n (fun _ => 0) := by
    rw [Nat.min_eq_left (by omega)]
    unfold mpI
    apply List.ext_getElem?
    intro i
    rw [List.getElem?_replicate, List.getElem?_map]
    by_cases hi : i < n
    · rw [if_pos hi, List.getElem?_range hi]; rfl
    · rw [if_neg hi, List.getElem?_eq_none (by simpa using hi)]; rfl
  simp (disch := omega) only [s63_0, s63_1, s63_4, s63_5, s63_8, s63_11, s63_12, s63_15, s63_16, s63_18, s63_19, s63_22, s63_25, s63_28, s63_29, s63_32, s63_33, s63_34, s63_37, s63_40, s63_43, s63_44, s63_45, s63_46, s63_49, s63_52, s63_55, s63_56, s63_57, s63_60, s63_63, s63_64, List.cons_append, List.nil_append, if_true, if_false, true_and, and_true, and_self, eq_self, true_or, or_true, false_or, or_false, tIn, tLe, fLe, tLt, fLt, tEq, fEq, isL, row121.1, row113.1, c28 row113 hk, h3, e0, c37 row121 hk, Int.toNat_natCast, eR]
  have kk : RK (rs σ 121 (mpI n (fun _ => 0))) := RK_rs hk row121 (by rw [mpI_len]; omega)
  have f0 : FrW 121 σ (rs σ 121 (mpI n (fun _ => 0))) := fun a q1 q2 => rs_at q1 q2
  obtain ⟨st0, hst0⟩ : ∃ st0 : List Int, rv σ 119 = st0 := ⟨_, rfl⟩
  have lp : ∀ (m c : Nat) (o1 : Nat → Nat) (mk1 : Nat → Int) (σ3 : aSg), c + m = n → RK σ3 → rv σ3 109 = mpI n fr → rv σ3 111 = mpI n to → rv σ3 113 = mpN n o1 → rv σ3 121 = mpI n mk1 → UFr n o1 ρ → UEq n o o1 → (∀ x, x < n → mk1 x = 0 ∨ mk1 x = 2) → Lfk n fr to o1 mk1 → (∀ i r, i < c → Ru o1 i r → mk1 r = 2) → FrD3 σ σ3 → WP m63 17 [.inr (.inl 108), .inl (c : Int)] [] σ3 Q := by
    intro m
    induction m with
    | zero =>
      intro c o1 mk1 σ3 g1 g2 g3 g4 g5 g6 g7 g8 g9 g10 g11 g12
      have e1 : ((mpN n o1).length : Int) = (n : Int) := by rw [mpN_len]
      rw [s63_17]
      simp (disch := omega) only [s63_0, s63_1, s63_4, s63_5, s63_8, s63_11, s63_12, s63_15, s63_16, s63_18, s63_19, s63_22, s63_25, s63_28, s63_29, s63_32, s63_33, s63_34, s63_37, s63_40, s63_43, s63_44, s63_45, s63_46, s63_49, s63_52, s63_55, s63_56, s63_57, s63_60, s63_63, s63_64, List.cons_append, List.nil_append, if_true, if_false, true_and, and_true, and_self, eq_self, true_or, or_true, false_or, or_false, tIn, tLe, fLe, tLt, fLt, tEq, fEq, isL, row113.1, c28 row113 g2, g5, e1]
      refine hq1 σ3 o1 g2 g5 g7 g8 ?_ g12
      obtain ⟨ht, tt, hh⟩ := g10
      refine ⟨ht, fun r r1 r2 r3 => ?_⟩
      have := hh r r1 (g11 r r (by omega) (Ru_self r2))
      exact ⟨fun x hx => (this.2.2 x ⟨r3, Or.inl hx⟩).2, fun x hx => (this.2.2 x ⟨r3, Or.inr hx⟩).2⟩
    | succ m ih =>
      intro c o1 mk1 σ3 g1 g2 g3 g4 g5 g6 g7 g8 g9 g10 g11 g12
      have hcn : c < n := by omega
      have e1 : ((mpN n o1).length : Int) = (n : Int) := by rw [mpN_len]
      rw [s63_17]
      simp (disch := omega) only [s63_0, s63_1, s63_4, s63_5, s63_8, s63_11, s63_12, s63_15, s63_16, s63_18, s63_19, s63_22, s63_25, s63_28, s63_29, s63_32, s63_33, s63_34, s63_37, s63_40, s63_43, s63_44, s63_45, s63_46, s63_49, s63_52, s63_55, s63_56, s63_57, s63_60, s63_63, s63_64, List.cons_append, List.nil_append, if_true, if_false, true_and, and_true, and_self, eq_self, true_or, or_true, false_or, or_false, tIn, tLe, fLe, tLt, fLt, tEq, fEq, isL, row113.1, c28 row113 g2, g5, e1, row121.1]
      refine wr61 g2 g5 g7 (by omega) hcn _ (fun σ4 o2 r k4 w4 u4 q4 r4 l4 f4 => ?_)
      have y1 : rv σ4 121 = mpI n mk1 := (FrW_rv f4 row113 row121 (by omega)).trans g6
      have y9 : rv σ4 109 = mpI n fr := (FrW_rv f4 row113 row109 (by omega)).trans g3
      have y11 : rv σ4 111 = mpI n to := (FrW_rv f4 row113 row111 (by omega)).trans g4
      have D4 : FrD3 σ σ4 := fun a q1 q2 q3 q4 q5 q6 => (f4 a q1 q2).trans (g12 a q1 q2 q3 q4 q5 q6)
      have em := mpI_at (f := mk1) l4
      have done : ∀ (o3 : Nat → Nat), UEq n o2 o3 → ∀ mk3 : Nat → Int, mk3 r = 2 → (∀ x, mk1 x = 2 → mk3 x = 2) → ∀ i x, i < c + 1 → Ru o3 i x → mk3 x = 2 := by
        intro o3 q3 mk3 hr hm i x hi hx
        have hx1 : Ru o1 i x := (q4.2.2 i x).mpr ((q3.2.2 i x).mpr hx)
        by_cases z : i = c
        · subst z
          rw [Ru_un ((q3.2.2 _ x).mpr hx) r4]; exact hr
        · exact hm x (g11 i x (by omega) hx1)
      rcases g9 r l4 with hr | hr
      · rw [hr] at em
        simp (disch := omega) only [s63_0, s63_1, s63_4, s63_5, s63_8, s63_11, s63_12, s63_15, s63_16, s63_18, s63_19, s63_22, s63_25, s63_28, s63_29, s63_32, s63_33, s63_34, s63_37, s63_40, s63_43, s63_44, s63_45, s63_46, s63_49, s63_52, s63_55, s63_56, s63_57, s63_60, s63_63, s63_64, List.cons_append, List.nil_append, if_true, if_false, true_and, and_true, and_self, eq_self, true_or, or_true, false_or, or_false, tIn, tLe, fLe, tLt, fLt, tEq, fEq, isL, row121.1, c30 row121 k4, y1, em]
        refine wr61 k4 w4 u4 (by omega) hcn _ (fun σ5 o3 r' k5 w5 u5 q5 r5 l5 f5 => ?_)
        have er : r' = r := Ru_un r5 ((q5.2.2 c r).mp r4)
        subst er
        obtain ⟨rr1, rr2, rr3⟩ := Ru_in u5 hcn r5
        have D5 : FrD3 σ σ5 := fun a q1 q2 q3 q4 q5 q6 => (f5 a q1 q2).trans (D4 a q1 q2 q3 q4 q5 q6)
        obtain ⟨stn, hst⟩ : ∃ stn : List Nat, True := ⟨[], trivial⟩
        -- the row of the looking is cleared first
        have i5 : RK σ5 ∧ rv σ5 109 = mpI n fr ∧ rv σ5 111 = mpI n to ∧ rv σ5 113 = mpN n o3 ∧ rv σ5 121 = mpI n mk1 := ⟨k5, (FrW_rv f5 row113 row109 (by omega)).trans y9, (FrW_rv f5 row113 row111 (by omega)).trans y11, w5, (FrW_rv f5 row113 row121 (by omega)).trans y1⟩
        have q15 := UEq_tr q4 q5
        simp (disch := omega) only [s63_0, s63_1, s63_4, s63_5, s63_8, s63_11, s63_12, s63_15, s63_16, s63_18, s63_19, s63_22, s63_25, s63_28, s63_29, s63_32, s63_33, s63_34, s63_37, s63_40, s63_43, s63_44, s63_45, s63_46, s63_49, s63_52, s63_55, s63_56, s63_57, s63_60, s63_63, s63_64, List.cons_append, List.nil_append, if_true, if_false, true_and, and_true, and_self, eq_self, true_or, or_true, false_or, or_false, tIn, tLe, fLe, tLt, fLt, tEq, fEq, isL]
        refine wr64 (σ0 := σ) (o := o3) (ρ := ρ) (mk := mk1) i5.1 i5.2.1 i5.2.2.1 i5.2.2.2.1 i5.2.2.2.2 u5 D5 hK hn l5 rr3 hr g9 (Lfk_eq q15 g10) _ (fun hno σ6 k6 D6 => ?_) (fun σ6 o4 mk4 i6 q6 m6 hm6 v6 L6 => ?_)
        · simp (disch := omega) only [s63_0, s63_1, s63_4, s63_5, s63_8, s63_11, s63_12, s63_15, s63_16, s63_18, s63_19, s63_22, s63_25, s63_28, s63_29, s63_32, s63_33, s63_34, s63_37, s63_40, s63_43, s63_44, s63_45, s63_46, s63_49, s63_52, s63_55, s63_56, s63_57, s63_60, s63_63, s63_64, List.cons_append, List.nil_append, if_true, if_false, true_and, and_true, and_self, eq_self, true_or, or_true, false_or, or_false, tIn, tLe, fLe, tLt, fLt, tEq, fEq, isL]
          refine hq0 ?_ σ6 k6 D6
          rintro ⟨v, v1, v2⟩
          exact hno ⟨v, v1, ((UEq_tr g8 q15).1 v).mp v2⟩
        · obtain ⟨z1, z2, z3, z4, z5, z6, z7, z8⟩ := i6
          simp (disch := omega) only [s63_0, s63_1, s63_4, s63_5, s63_8, s63_11, s63_12, s63_15, s63_16, s63_18, s63_19, s63_22, s63_25, s63_28, s63_29, s63_32, s63_33, s63_34, s63_37, s63_40, s63_43, s63_44, s63_45, s63_46, s63_49, s63_52, s63_55, s63_56, s63_57, s63_60, s63_63, s63_64, List.cons_append, List.nil_append, if_true, if_false, true_and, and_true, and_self, eq_self, true_or, or_true, false_or, or_false, tIn, tLe, fLe, tLt, fLt, tEq, fEq, isL]
          exact ih (c + 1) o4 mk4 σ6 (by omega) z1 z2 z3 z4 z5 z7 (UEq_tr (UEq_tr g8 q15) q6) v6 L6 (done o4 (UEq_tr q5 q6) mk4 m6 hm6) z8
      · rw [hr] at em
        simp (disch := omega) only [s63_0, s63_1, s63_4, s63_5, s63_8, s63_11, s63_12, s63_15, s63_16, s63_18, s63_19, s63_22, s63_25, s63_28, s63_29, s63_32, s63_33, s63_34, s63_37, s63_40, s63_43, s63_44, s63_45, s63_46, s63_49, s63_52, s63_55, s63_56, s63_57, s63_60, s63_63, s63_64, List.cons_append, List.nil_append, if_true, if_false, true_and, and_true, and_self, eq_self, true_or, or_true, false_or, or_false, tIn, tLe, fLe, tLt, fLt, tEq, fEq, isL, row121.1, c30 row121 k4, y1, em]
        exact ih (c + 1) o2 mk1 σ4 (by omega) k4 y9 y11 w4 y1 u4 (UEq_tr g8 q4) g9 (Lfk_eq q4 g10) (done o2 UEq_rf mk1 hr (fun _ q => q)) D4
  refine lp n 0 o (fun _ => 0) _ (by omega) kk ((FrW_rv f0 row121 row109 (by omega)).trans h1) ((FrW_rv f0 row121 row111 (by omega)).trans h2) ((FrW_rv f0 row121 row113 (by omega)).trans h3) rv_rs hU UEq_rf (fun _ _ => Or.inl rfl) ⟨fun _ => 0, 0, fun r _ q => by simp at q⟩ (fun i r hi => by omega) (fun a q1 q2 q3 q4 q5 q6 => f0 a q5 q6)
end DFT
