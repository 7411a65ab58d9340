/-! kinds: the reference's graph -/
abbrev FrN (σ σ' : aSg) : Prop := (∀ a, a ≠ 130 → a ≠ 144 → a ≠ 145 → a ≠ 146 → a ≠ 150 → σ' a = σ a) ∧ ∀ j, j ≠ 29 → σ' 130 j = σ 130 j
def KRm (σ0 σ : aSg) (n : Nat) (fr to : Nat → Int) (o : Nat → Nat) : Prop := σ 130 29 = (n : Int) ∧ (∀ i, i < n → σ 144 i = fr i) ∧ (∀ i, i < n → σ 145 i = to i) ∧ (∀ i, i < n → σ 146 i = (o i : Int)) ∧ GOK n fr to o ∧ FrN σ0 σ
section KRM
variable {σ σ0 σ' : aSg} {K : List AV → aSg → Prop} {x y z c : Int} {n : Nat} {fr to : Nat → Int} {o o' ρ : Nat → Nat} {i j r k l a b p q t : Nat} {P : List (Nat × Nat)}
theorem FrN_tr {σ1 σ2 : aSg} (h : FrN σ σ1) (h' : FrN σ1 σ2) : FrN σ σ2 := ⟨fun a h1 h2 h3 h4 h5 => (h'.1 a h1 h2 h3 h4 h5).trans (h.1 a h1 h2 h3 h4 h5), fun j hj => (h'.2 j hj).trans (h.2 j hj)⟩
theorem FrN_rf : FrN σ σ := ⟨fun _ _ _ _ _ _ => rfl, fun _ _ => rfl⟩
theorem KRm_rf (h : KRm σ0 σ n fr to o) : KRm σ σ n fr to o := ⟨h.1, h.2.1, h.2.2.1, h.2.2.2.1, h.2.2.2.2.1, FrN_rf⟩
theorem wr180 (h : KRm σ0 σ n fr to o) (hn : n < 1600) (hx : x = -1 ∨ ∃ a b : Nat, x = (a : Int) ∧ y = (b : Int) ∧ a < n ∧ b < n) (Q : List AV → aSg → Prop) (hq : ∀ σ', KRm σ0 σ' (n + 1) (upI fr n x) (upI to n y) (uPd o n n) → Q [.inl (n : Int)] σ') : CA m180 [.inr (.inl 130), .inl x, .inl y] σ Q := by
  rw [e180]
  have l4 := ln144
  have l5 := ln145
  have l6 := ln146
  obtain ⟨h1, h2, h3, h4, h5, h6⟩ := h
  have e1 : (aup σ 144 n x) 130 29 = (n : Int) := by rw [aup_n1 (by omega)]; exact h1
  have e2 : (aup (aup σ 144 n x) 145 n y) 130 29 = (n : Int) := by rw [aup_n1 (by omega)]; exact e1
  have e3 : (aup (aup (aup σ 144 n x) 145 n y) 146 n (n : Int)) 130 29 = (n : Int) := by rw [aup_n1 (by omega)]; exact e2
  have e4 : (n : Int) + 1 - 1 = (n : Int) := by omega
  simp (disch := omega) only [s180_0, s180_1, s180_4, s180_5, s180_8, s180_9, s180_10, s180_11, s180_14, s180_15, s180_18, s180_19, s180_20, s180_21, s180_24, s180_25, s180_28, s180_29, s180_32, s180_33, s180_34, s180_35, s180_38, s180_39, s180_40, s180_43, s180_44, s180_47, s180_48, s180_49, List.cons_append, List.nil_append, if_true, if_false, true_and, and_true, and_self, eq_self, true_or, or_true, false_or, or_false, tIn, tLe, fLe, tLt, fLt, tEq, fEq, isL, h1, kd144, ln144, kd145, ln145, kd146, ln146, Int.toNat_natCast, e1, e2, e3, aup_s, e4]
  refine hq _ ⟨by rw [aup_s]; omega, fun i hi => ?_, fun i hi => ?_, fun i hi => ?_, (ext_ok h5 hx).1, fun a q1 q2 q3 q4 q5 => ?_, fun j hj => ?_⟩
  · rw [aup_n1 (by omega), aup_n1 (by omega), aup_n1 (by omega)]
    unfold upI
    by_cases e : i = n
    · rw [if_pos e, e, aup_s]
    · rw [if_neg e, aup_n2 e]; exact h2 i (by omega)
  · rw [aup_n1 (by omega), aup_n1 (by omega)]
    unfold upI
    by_cases e : i = n
    · rw [if_pos e, e, aup_s]
    · rw [if_neg e, aup_n2 e, aup_n1 (by omega)]; exact h3 i (by omega)
  · rw [aup_n1 (by omega)]
    unfold uPd
    by_cases e : i = n
    · rw [if_pos e, e, aup_s]
    · rw [if_neg e, aup_n2 e, aup_n1 (by omega), aup_n1 (by omega)]; exact h4 i (by omega)
  · rw [aup_f q1, aup_f q4, aup_f q3, aup_f q2]; exact h6.1 a q1 q2 q3 q4 q5
  · rw [aup_n2 hj, aup_n1 (by omega), aup_n1 (by omega), aup_n1 (by omega)]; exact h6.2 j hj
theorem wr181 (h : KRm σ0 σ n fr to o) (hn : n < 1600) (Q : List AV → aSg → Prop) (hq : ∀ σ', KRm σ0 σ' (n + 1) (upI fr n (-1)) (upI to n (-1)) (uPd o n n) → Q [.inl (n : Int)] σ') : CA m181 [.inr (.inl 130)] σ Q := by
  rw [e181]
  simp (disch := omega) only [s181_0, s181_1, s181_2, s181_3, s181_6, List.cons_append, List.nil_append, if_true, if_false, true_and, and_true, and_self, eq_self, true_or, or_true, false_or, or_false, tIn, tLe, fLe, tLt, fLt, tEq, fEq, isL]
  refine wr180 h hn (Or.inl rfl) _ (fun σ1 i1 => ?_)
  simp (disch := omega) only [s181_0, s181_1, s181_2, s181_3, s181_6, List.cons_append, List.nil_append, if_true, if_false, true_and, and_true, and_self, eq_self, true_or, or_true, false_or, or_false, tIn, tLe, fLe, tLt, fLt, tEq, fEq, isL]
  exact hq σ1 i1
theorem arw_m (h : KRm σ0 σ n fr to o) (hn : n < 1600) (ha : a < n) (hb : b < n) (Q : List AV → aSg → Prop) (hq : ∀ (σ' : aSg) (fr' to' : Nat → Int) (o' : Nat → Nat), KRm σ0 σ' (n + 1) fr' to' o' → (∀ v, Sl (n + 1) fr' to' o' v ↔ Sl n fr to o v ∧ v n = .op (v a) (v b)) → Q [.inl (n : Int)] σ') : CA m180 [.inr (.inl 130), .inl (a : Int), .inl (b : Int)] σ Q := by
  have hx : ((a : Int) = -1) ∨ ∃ c d : Nat, (a : Int) = (c : Int) ∧ (b : Int) = (d : Int) ∧ c < n ∧ d < n := Or.inr ⟨a, b, rfl, rfl, ha, hb⟩
  refine wr180 h hn hx Q (fun σ1 i1 => hq σ1 _ _ _ i1 (fun v => ?_))
  rw [(ext_ok h.2.2.2.2.1 hx).2 v]
  simp only [Int.toNat_natCast]
  exact ⟨fun q => ⟨q.1, q.2 (by omega)⟩, fun q => ⟨q.1, fun _ => q.2⟩⟩
theorem unk_m (h : KRm σ0 σ n fr to o) (hn : n < 1600) (Q : List AV → aSg → Prop) (hq : ∀ (σ' : aSg) (fr' to' : Nat → Int) (o' : Nat → Nat), KRm σ0 σ' (n + 1) fr' to' o' → (∀ v, Sl (n + 1) fr' to' o' v ↔ Sl n fr to o v) → Q [.inl (n : Int)] σ') : CA m181 [.inr (.inl 130)] σ Q := by
  refine wr181 h hn Q (fun σ1 i1 => hq σ1 _ _ _ i1 (fun v => ?_))
  rw [(ext_ok (y := -1) h.2.2.2.2.1 (Or.inl rfl)).2 v]
  exact ⟨fun q => q.1, fun q => ⟨q, fun z => absurd rfl z⟩⟩
/-- which one it is one with in the end -/
theorem c182 (h4 : ∀ i, i < n → σ 146 i = (o i : Int)) (hU : UFr n o ρ) (hn : n ≤ 1600) (hi : i < n) (hr : Ru o i r) : CA m182 [.inr (.inl 130), .inl (i : Int)] σ K = K [.inl (r : Int)] σ := by
  refine CA_eq ?_
  rw [e182]
  have l6 := ln146
  simp (disch := omega) only [s182_0, s182_1, s182_3, s182_6, s182_7, s182_8, s182_9, s182_12, s182_13, s182_16, s182_17, s182_18, s182_19, s182_22, s182_23, List.cons_append, List.nil_append, if_true, if_false, true_and, and_true, and_self, eq_self, true_or, or_true, false_or, or_false, tIn, tLe, fLe, tLt, fLt, tEq, fEq, isL]
  obtain ⟨f, q1, q2⟩ := hr
  have lp : ∀ (f i : Nat) (z : Int), i < n → itn o f i = r → WP m182 2 [.inr (.inl 130), .inl z, .inl (i : Int)] [] σ (fun v σ' => v = [.inl (r : Int)] ∧ σ' = σ) := by
    intro f
    induction f with
    | zero =>
      intro i z hi hf
      have e : i = r := hf
      subst e
      have e1 := h4 i hi
      rw [q2] at e1
      rw [s182_2]
      simp (disch := omega) only [s182_0, s182_1, s182_3, s182_6, s182_7, s182_8, s182_9, s182_12, s182_13, s182_16, s182_17, s182_18, s182_19, s182_22, s182_23, List.cons_append, List.nil_append, if_true, if_false, true_and, and_true, and_self, eq_self, true_or, or_true, false_or, or_false, tIn, tLe, fLe, tLt, fLt, tEq, fEq, isL, kd146, ln146, Int.toNat_natCast, e1]
    | succ f ih =>
      intro i z hi hf
      have e1 := h4 i hi
      by_cases g : o i = i
      · have e : i = r := by rw [← hf]; exact (itn_stop g (f + 1)).symm
        subst e
        rw [q2] at e1
        rw [s182_2]
        simp (disch := omega) only [s182_0, s182_1, s182_3, s182_6, s182_7, s182_8, s182_9, s182_12, s182_13, s182_16, s182_17, s182_18, s182_19, s182_22, s182_23, List.cons_append, List.nil_append, if_true, if_false, true_and, and_true, and_self, eq_self, true_or, or_true, false_or, or_false, tIn, tLe, fLe, tLt, fLt, tEq, fEq, isL, kd146, ln146, Int.toNat_natCast, e1]
      · have g' : ¬ ((o i : Nat) : Int) = (i : Int) := by omega
        rw [s182_2]
        simp (disch := omega) only [s182_0, s182_1, s182_3, s182_6, s182_7, s182_8, s182_9, s182_12, s182_13, s182_16, s182_17, s182_18, s182_19, s182_22, s182_23, List.cons_append, List.nil_append, if_true, if_false, true_and, and_true, and_self, eq_self, true_or, or_true, false_or, or_false, tIn, tLe, fLe, tLt, fLt, tEq, fEq, isL, kd146, ln146, Int.toNat_natCast, e1]
        exact ih (o i) z (hU i hi).1 hf
  exact lp f i _ hi q1
/-- two kinds made one -/
theorem wr185 (h : KRm σ0 σ n fr to o) (hn : n ≤ 1590) (hkk : k < n) (hll : l < n) (Q : List AV → aSg → Prop) (hq : ∀ (σ' : aSg) (o' : Nat → Nat), KRm σ0 σ' n fr to o' → (∀ v, Sl n fr to o' v ↔ Sl n fr to o v ∧ v k = v l) → Q [] σ') : CA m185 [.inr (.inl 130), .inl (k : Int), .inl (l : Int)] σ Q := by
  rw [e185]
  have l4 := ln144
  have l5 := ln145
  have l6 := ln146
  have l0 := ln150
  obtain ⟨h1, h2, h3, h4, ⟨hK, ⟨ρ, hU⟩, hC⟩, h6⟩ := h
  have rt0 := rtN_le (o := o) n
  simp (disch := omega) only [s185_0, s185_1, s185_2, s185_3, s185_6, s185_7, s185_8, s185_9, s185_10, s185_13, s185_14, s185_15, s185_17, s185_20, s185_23, s185_24, s185_25, s185_28, s185_29, s185_30, s185_33, s185_35, s185_36, s185_37, s185_40, s185_41, s185_42, s185_43, s185_44, s185_47, s185_49, s185_51, s185_53, s185_56, s185_57, s185_60, s185_62, s185_63, s185_64, s185_67, s185_68, s185_71, s185_72, s185_74, s185_75, s185_78, s185_80, s185_83, s185_85, s185_88, s185_90, s185_92, s185_95, s185_97, s185_100, s185_102, s185_103, s185_105, s185_108, s185_109, s185_112, s185_114, s185_115, s185_116, s185_119, s185_120, s185_123, s185_124, s185_125, s185_128, s185_130, s185_131, s185_132, s185_133, s185_136, s185_137, s185_138, s185_139, s185_140, s185_143, s185_145, s185_146, s185_147, s185_148, s185_151, s185_152, s185_153, s185_154, s185_155, s185_158, s185_160, s185_161, s185_162, s185_163, s185_166, s185_167, s185_168, s185_169, s185_170, s185_173, s185_175, s185_176, s185_177, s185_180, s185_183, List.cons_append, List.nil_append, if_true, if_false, true_and, and_true, and_self, eq_self, true_or, or_true, false_or, or_false, tIn, tLe, fLe, tLt, fLt, tEq, fEq, isL, kd150, ln150, Int.toNat_natCast]
  have fin : ∀ (o1 ρ1 : Nat → Nat) (σ4 : aSg), (∀ i, i < n → σ4 144 i = fr i) → (∀ i, i < n → σ4 145 i = to i) → (∀ i, i < n → σ4 146 i = (o1 i : Int)) → UFr n o1 ρ1 → UIv n fr to o k l o1 [] → CCm n fr to o1 [] → FrN σ0 σ4 → σ4 130 29 = (n : Int) → Q [] σ4 := by
    intro o1 ρ1 σ4 g6 g7 g8 g9 g10 g11 g12 g13
    refine hq σ4 o1 ⟨g13, g6, g7, g8, ⟨hK, ⟨ρ1, g9⟩, g11⟩, g12⟩ (fun v => ?_)
    constructor
    · intro s
      have := (g10 v s.1).mpr ⟨s.2, fun q hq => by cases hq⟩
      exact ⟨⟨s.1, this.1⟩, this.2⟩
    · intro s
      exact ⟨s.1.1, ((g10 v s.1.1).mp ⟨s.1.2, s.2⟩).1⟩
  have lnk : ∀ (σ4 : aSg) (o1 : Nat → Nat) (A B : Nat), (∀ i, i < n → σ4 146 i = (o1 i : Int)) → ∀ i, i < n → (aup σ4 146 A (B : Int)) 146 i = (uPd o1 A B i : Int) := by
    intro σ4 o1 A B g i hi
    unfold uPd
    by_cases e : i = A
    · rw [if_pos e, e, aup_s]
    · rw [if_neg e, aup_n2 e]; exact g i hi
  have lp : ∀ (m d : Nat) (P : List (Nat × Nat)) (o1 ρ1 : Nat → Nat) (σ4 : aSg) (l4 l5 l6 : AV), d = 2 * P.length → P.length + 2 * rtN o1 n ≤ m → P.length + rtN o1 n ≤ n + 1 → (∀ q ∈ P, q.1 < n ∧ q.2 < n) → (∀ (j : Nat) (x : Int), (opn P)[j]? = some x → σ4 150 j = x) → (∀ i, i < n → σ4 144 i = fr i) → (∀ i, i < n → σ4 145 i = to i) → (∀ i, i < n → σ4 146 i = (o1 i : Int)) → UFr n o1 ρ1 → UIv n fr to o k l o1 P → CCm n fr to o1 P → FrN σ0 σ4 → σ4 130 29 = (n : Int) → WP m185 16 [.inr (.inl 130), .inl (k : Int), .inl (l : Int), .inl (d : Int), l4, l5, l6] [] σ4 Q := by
    intro m
    induction m with
    | zero =>
      intro d P o1 ρ1 σ4 l4 l5 l6 hd g2 g3 g4 g5 g6 g7 g8 g9 g10 g11 g12 g13
      have hP : P = [] := List.length_eq_zero_iff.mp (by omega)
      subst hP
      have hd0 : (d : Int) = 0 := by rw [hd]; rfl
      rw [s185_16]
      simp (disch := omega) only [s185_0, s185_1, s185_2, s185_3, s185_6, s185_7, s185_8, s185_9, s185_10, s185_13, s185_14, s185_15, s185_17, s185_20, s185_23, s185_24, s185_25, s185_28, s185_29, s185_30, s185_33, s185_35, s185_36, s185_37, s185_40, s185_41, s185_42, s185_43, s185_44, s185_47, s185_49, s185_51, s185_53, s185_56, s185_57, s185_60, s185_62, s185_63, s185_64, s185_67, s185_68, s185_71, s185_72, s185_74, s185_75, s185_78, s185_80, s185_83, s185_85, s185_88, s185_90, s185_92, s185_95, s185_97, s185_100, s185_102, s185_103, s185_105, s185_108, s185_109, s185_112, s185_114, s185_115, s185_116, s185_119, s185_120, s185_123, s185_124, s185_125, s185_128, s185_130, s185_131, s185_132, s185_133, s185_136, s185_137, s185_138, s185_139, s185_140, s185_143, s185_145, s185_146, s185_147, s185_148, s185_151, s185_152, s185_153, s185_154, s185_155, s185_158, s185_160, s185_161, s185_162, s185_163, s185_166, s185_167, s185_168, s185_169, s185_170, s185_173, s185_175, s185_176, s185_177, s185_180, s185_183, List.cons_append, List.nil_append, if_true, if_false, true_and, and_true, and_self, eq_self, true_or, or_true, false_or, or_false, tIn, tLe, fLe, tLt, fLt, tEq, fEq, isL, hd0]
      exact fin o1 ρ1 σ4 g6 g7 g8 g9 g10 g11 g12 g13
    | succ m ih =>
      intro d P o1 ρ1 σ4 l4 l5 l6 hd g2 g3 g4 g5 g6 g7 g8 g9 g10 g11 g12 g13
      rw [s185_16]
      cases P with
      | nil =>
        have hd0 : (d : Int) = 0 := by rw [hd]; rfl
        simp (disch := omega) only [s185_0, s185_1, s185_2, s185_3, s185_6, s185_7, s185_8, s185_9, s185_10, s185_13, s185_14, s185_15, s185_17, s185_20, s185_23, s185_24, s185_25, s185_28, s185_29, s185_30, s185_33, s185_35, s185_36, s185_37, s185_40, s185_41, s185_42, s185_43, s185_44, s185_47, s185_49, s185_51, s185_53, s185_56, s185_57, s185_60, s185_62, s185_63, s185_64, s185_67, s185_68, s185_71, s185_72, s185_74, s185_75, s185_78, s185_80, s185_83, s185_85, s185_88, s185_90, s185_92, s185_95, s185_97, s185_100, s185_102, s185_103, s185_105, s185_108, s185_109, s185_112, s185_114, s185_115, s185_116, s185_119, s185_120, s185_123, s185_124, s185_125, s185_128, s185_130, s185_131, s185_132, s185_133, s185_136, s185_137, s185_138, s185_139, s185_140, s185_143, s185_145, s185_146, s185_147, s185_148, s185_151, s185_152, s185_153, s185_154, s185_155, s185_158, s185_160, s185_161, s185_162, s185_163, s185_166, s185_167, s185_168, s185_169, s185_170, s185_173, s185_175, s185_176, s185_177, s185_180, s185_183, List.cons_append, List.nil_append, if_true, if_false, true_and, and_true, and_self, eq_self, true_or, or_true, false_or, or_false, tIn, tLe, fLe, tLt, fLt, tEq, fEq, isL, hd0]
        exact fin o1 ρ1 σ4 g6 g7 g8 g9 g10 g11 g12 g13
      | cons q P =>
        obtain ⟨k', l'⟩ := q
        obtain ⟨hk', hl'⟩ : k' < n ∧ l' < n := g4 _ (List.mem_cons_self ..)
        have g4' : ∀ q ∈ P, q.1 < n ∧ q.2 < n := fun u hu => g4 u (List.mem_cons_of_mem _ hu)
        simp only [List.length_cons] at g2 g3 hd
        obtain ⟨e, he⟩ : ∃ e, e = 2 * P.length := ⟨_, rfl⟩
        have oP := opn_len P
        have y0 : σ4 150 e = (k' : Int) := g5 e _ (by rw [opn, List.getElem?_append_right (by omega), show e - (opn P).length = 0 by omega]; rfl)
        have y1 : σ4 150 (e + 1) = (l' : Int) := g5 (e + 1) _ (by rw [opn, List.getElem?_append_right (by omega), show e + 1 - (opn P).length = 1 by omega]; rfl)
        have gP : ∀ (j : Nat) (x : Int), (opn P)[j]? = some x → σ4 150 j = x ∧ j < e := fun j x hj => by
          have hlt : j < (opn P).length := by
            rcases Nat.lt_or_ge j (opn P).length with z | z
            · exact z
            · rw [List.getElem?_eq_none z] at hj; exact absurd hj (by simp)
          exact ⟨g5 j x (by rw [opn, List.getElem?_append_left hlt]; exact hj), by omega⟩
        have e0 : (d : Int) + -2 = (e : Int) := by omega
        have e1 : (e : Int) + 1 = ((e + 1 : Nat) : Int) := by omega
        have e2 : (e : Int) + 2 = ((e + 2 : Nat) : Int) := by omega
        have e3 : (e : Int) + 3 = ((e + 3 : Nat) : Int) := by omega
        have e4 : (e : Int) + 4 = ((e + 4 : Nat) : Int) := by omega
        obtain ⟨A, rA, lA, -⟩ := Ru_ex g9 (ρ1 k') k' (Nat.le_refl _) hk'
        obtain ⟨B, rB, lB, -⟩ := Ru_ex g9 (ρ1 l') l' (Nat.le_refl _) hl'
        have oA := (Ru_in g9 hk' rA).2.2
        have oB := (Ru_in g9 hl' rB).2.2
        have cA := fun K => c182 (K := K) g8 g9 (by omega) hk' rA
        have cB := fun K => c182 (K := K) g8 g9 (by omega) hl' rB
        have fA := g6 A lA
        have fB := g6 B lB
        by_cases gAB : A = B
        · subst gAB
          obtain ⟨I4, C4⟩ := un_same g9 hk' hl' rA rB g10 g11
          simp (disch := omega) only [s185_0, s185_1, s185_2, s185_3, s185_6, s185_7, s185_8, s185_9, s185_10, s185_13, s185_14, s185_15, s185_17, s185_20, s185_23, s185_24, s185_25, s185_28, s185_29, s185_30, s185_33, s185_35, s185_36, s185_37, s185_40, s185_41, s185_42, s185_43, s185_44, s185_47, s185_49, s185_51, s185_53, s185_56, s185_57, s185_60, s185_62, s185_63, s185_64, s185_67, s185_68, s185_71, s185_72, s185_74, s185_75, s185_78, s185_80, s185_83, s185_85, s185_88, s185_90, s185_92, s185_95, s185_97, s185_100, s185_102, s185_103, s185_105, s185_108, s185_109, s185_112, s185_114, s185_115, s185_116, s185_119, s185_120, s185_123, s185_124, s185_125, s185_128, s185_130, s185_131, s185_132, s185_133, s185_136, s185_137, s185_138, s185_139, s185_140, s185_143, s185_145, s185_146, s185_147, s185_148, s185_151, s185_152, s185_153, s185_154, s185_155, s185_158, s185_160, s185_161, s185_162, s185_163, s185_166, s185_167, s185_168, s185_169, s185_170, s185_173, s185_175, s185_176, s185_177, s185_180, s185_183, List.cons_append, List.nil_append, if_true, if_false, true_and, and_true, and_self, eq_self, true_or, or_true, false_or, or_false, tIn, tLe, fLe, tLt, fLt, tEq, fEq, isL, e0, e1, kd150, ln150, Int.toNat_natCast, y0, y1, cA, cB]
          exact ih e P o1 ρ1 σ4 _ _ _ he (by omega) (by omega) g4' (fun j x hj => (gP j x hj).1) g6 g7 g8 g9 I4 C4 g12 g13
        · have nAB : ¬ (A : Int) = (B : Int) := by omega
          obtain ⟨⟨ρA, LA1⟩, -, -, LA4⟩ := link_ok g9 lA lB oA oB gAB
          obtain ⟨⟨ρB, LB1⟩, -, -, LB4⟩ := link_ok g9 lB lA oB oA (fun e => gAB e.symm)
          by_cases uA : fr A = -1
          · rw [uA] at fA
            obtain ⟨I4, C4⟩ := un_open (x := A) (y := B) g9 hk' hl' rA rB (Or.inl ⟨rfl, rfl⟩) gAB uA g10 g11
            simp (disch := omega) only [s185_0, s185_1, s185_2, s185_3, s185_6, s185_7, s185_8, s185_9, s185_10, s185_13, s185_14, s185_15, s185_17, s185_20, s185_23, s185_24, s185_25, s185_28, s185_29, s185_30, s185_33, s185_35, s185_36, s185_37, s185_40, s185_41, s185_42, s185_43, s185_44, s185_47, s185_49, s185_51, s185_53, s185_56, s185_57, s185_60, s185_62, s185_63, s185_64, s185_67, s185_68, s185_71, s185_72, s185_74, s185_75, s185_78, s185_80, s185_83, s185_85, s185_88, s185_90, s185_92, s185_95, s185_97, s185_100, s185_102, s185_103, s185_105, s185_108, s185_109, s185_112, s185_114, s185_115, s185_116, s185_119, s185_120, s185_123, s185_124, s185_125, s185_128, s185_130, s185_131, s185_132, s185_133, s185_136, s185_137, s185_138, s185_139, s185_140, s185_143, s185_145, s185_146, s185_147, s185_148, s185_151, s185_152, s185_153, s185_154, s185_155, s185_158, s185_160, s185_161, s185_162, s185_163, s185_166, s185_167, s185_168, s185_169, s185_170, s185_173, s185_175, s185_176, s185_177, s185_180, s185_183, List.cons_append, List.nil_append, if_true, if_false, true_and, and_true, and_self, eq_self, true_or, or_true, false_or, or_false, tIn, tLe, fLe, tLt, fLt, tEq, fEq, isL, e0, e1, kd150, ln150, Int.toNat_natCast, y0, y1, cA, cB, kd144, ln144, fA, kd146, ln146]
            exact ih e P (uPd o1 A B) ρA (aup σ4 146 A (B : Int)) _ _ _ he (by omega) (by omega) g4' (fun j x hj => by rw [aup_n1 (by omega)]; exact (gP j x hj).1) (fun i hi => by rw [aup_n1 (by omega)]; exact g6 i hi) (fun i hi => by rw [aup_n1 (by omega)]; exact g7 i hi) (lnk σ4 o1 A B g8) LA1 I4 C4 (FrN_tr g12 ⟨fun a _ _ _ q4 _ => aup_f q4, fun j _ => by rw [aup_n1 (by omega)]⟩) (by rw [aup_n1 (by omega)]; exact g13)
          · have fA' : ¬ σ4 144 A = -1 := by rw [fA]; exact uA
            have M5 : ∀ i, i < n → (aup σ4 146 B (A : Int)) 146 i = (uPd o1 B A i : Int) := lnk σ4 o1 B A g8
            have G6 : ∀ i, i < n → (aup σ4 146 B (A : Int)) 144 i = fr i := fun i hi => by rw [aup_n1 (by omega)]; exact g6 i hi
            have G7 : ∀ i, i < n → (aup σ4 146 B (A : Int)) 145 i = to i := fun i hi => by rw [aup_n1 (by omega)]; exact g7 i hi
            have GP : ∀ (j : Nat) (x : Int), (opn P)[j]? = some x → (aup σ4 146 B (A : Int)) 150 j = x ∧ j < e := fun j x hj => ⟨by rw [aup_n1 (by omega)]; exact (gP j x hj).1, (gP j x hj).2⟩
            have F5 : FrN σ0 (aup σ4 146 B (A : Int)) := FrN_tr g12 ⟨fun a _ _ _ q4 _ => aup_f q4, fun j _ => by rw [aup_n1 (by omega)]⟩
            have G13 : (aup σ4 146 B (A : Int)) 130 29 = (n : Int) := by rw [aup_n1 (by omega)]; exact g13
            have FB := G6 B lB
            by_cases uB : fr B = -1
            · rw [uB] at FB
              obtain ⟨I4, C4⟩ := un_open (x := B) (y := A) g9 hk' hl' rA rB (Or.inr ⟨rfl, rfl⟩) gAB uB g10 g11
              simp (disch := omega) only [s185_0, s185_1, s185_2, s185_3, s185_6, s185_7, s185_8, s185_9, s185_10, s185_13, s185_14, s185_15, s185_17, s185_20, s185_23, s185_24, s185_25, s185_28, s185_29, s185_30, s185_33, s185_35, s185_36, s185_37, s185_40, s185_41, s185_42, s185_43, s185_44, s185_47, s185_49, s185_51, s185_53, s185_56, s185_57, s185_60, s185_62, s185_63, s185_64, s185_67, s185_68, s185_71, s185_72, s185_74, s185_75, s185_78, s185_80, s185_83, s185_85, s185_88, s185_90, s185_92, s185_95, s185_97, s185_100, s185_102, s185_103, s185_105, s185_108, s185_109, s185_112, s185_114, s185_115, s185_116, s185_119, s185_120, s185_123, s185_124, s185_125, s185_128, s185_130, s185_131, s185_132, s185_133, s185_136, s185_137, s185_138, s185_139, s185_140, s185_143, s185_145, s185_146, s185_147, s185_148, s185_151, s185_152, s185_153, s185_154, s185_155, s185_158, s185_160, s185_161, s185_162, s185_163, s185_166, s185_167, s185_168, s185_169, s185_170, s185_173, s185_175, s185_176, s185_177, s185_180, s185_183, List.cons_append, List.nil_append, if_true, if_false, true_and, and_true, and_self, eq_self, true_or, or_true, false_or, or_false, tIn, tLe, fLe, tLt, fLt, tEq, fEq, isL, e0, e1, kd150, ln150, Int.toNat_natCast, y0, y1, cA, cB, kd144, ln144, fA', kd146, ln146, FB]
              exact ih e P (uPd o1 B A) ρB (aup σ4 146 B (A : Int)) _ _ _ he (by omega) (by omega) g4' (fun j x hj => (GP j x hj).1) G6 G7 M5 LB1 I4 C4 F5 G13
            · obtain ⟨fa, ta, ea1, ea2, ea3, ea4⟩ : ∃ a b : Nat, fr A = (a : Int) ∧ to A = (b : Int) ∧ a < n ∧ b < n := by rcases hK A lA with q | q; exact absurd q uA; exact q
              obtain ⟨fb, tb, eb1, eb2, eb3, eb4⟩ : ∃ a b : Nat, fr B = (a : Int) ∧ to B = (b : Int) ∧ a < n ∧ b < n := by rcases hK B lB with q | q; exact absurd q uB; exact q
              obtain ⟨I4, C4⟩ := un_both (P2 := (ta, tb) :: (fa, fb) :: P) (x := B) (y := A) g9 hk' hl' rA rB (Or.inr ⟨rfl, rfl⟩) gAB ea1 ea2 eb1 eb2 (fun v => by
                rw [prV_cons, prV_cons]
                exact ⟨fun h => ⟨⟨h.2.1, h.1⟩, h.2.2⟩, fun h => ⟨h.1.2, h.1.1, h.2⟩⟩) g10 g11
              have FB' : ¬ (aup σ4 146 B (A : Int)) 144 B = -1 := by rw [FB]; exact uB
              generalize hσ5 : aup σ4 146 B (A : Int) = σ5 at M5 G6 G7 GP F5 G13 FB FB'
              have xA : σ5 144 A = (fa : Int) := (G6 A lA).trans ea1
              have xB : (aup σ5 150 e (fa : Int)) 144 B = (fb : Int) := by rw [aup_n1 (by omega)]; exact FB.trans eb1
              have tA : (aup (aup σ5 150 e (fa : Int)) 150 (e + 1) (fb : Int)) 145 A = (ta : Int) := by rw [aup_n1 (by omega), aup_n1 (by omega)]; exact (G7 A lA).trans ea2
              have tB : (aup (aup (aup σ5 150 e (fa : Int)) 150 (e + 1) (fb : Int)) 150 (e + 2) (ta : Int)) 145 B = (tb : Int) := by rw [aup_n1 (by omega), aup_n1 (by omega), aup_n1 (by omega)]; exact (G7 B lB).trans eb2
              have nfb : ¬ (fb : Int) = -1 := by omega
              have FBx : σ5 144 B = (fb : Int) := FB.trans eb1
              simp (disch := omega) only [s185_0, s185_1, s185_2, s185_3, s185_6, s185_7, s185_8, s185_9, s185_10, s185_13, s185_14, s185_15, s185_17, s185_20, s185_23, s185_24, s185_25, s185_28, s185_29, s185_30, s185_33, s185_35, s185_36, s185_37, s185_40, s185_41, s185_42, s185_43, s185_44, s185_47, s185_49, s185_51, s185_53, s185_56, s185_57, s185_60, s185_62, s185_63, s185_64, s185_67, s185_68, s185_71, s185_72, s185_74, s185_75, s185_78, s185_80, s185_83, s185_85, s185_88, s185_90, s185_92, s185_95, s185_97, s185_100, s185_102, s185_103, s185_105, s185_108, s185_109, s185_112, s185_114, s185_115, s185_116, s185_119, s185_120, s185_123, s185_124, s185_125, s185_128, s185_130, s185_131, s185_132, s185_133, s185_136, s185_137, s185_138, s185_139, s185_140, s185_143, s185_145, s185_146, s185_147, s185_148, s185_151, s185_152, s185_153, s185_154, s185_155, s185_158, s185_160, s185_161, s185_162, s185_163, s185_166, s185_167, s185_168, s185_169, s185_170, s185_173, s185_175, s185_176, s185_177, s185_180, s185_183, List.cons_append, List.nil_append, if_true, if_false, true_and, and_true, and_self, eq_self, true_or, or_true, false_or, or_false, tIn, tLe, fLe, tLt, fLt, tEq, fEq, isL, e0, e1, kd150, ln150, Int.toNat_natCast, y0, y1, cA, cB, kd144, ln144, fA', kd146, ln146, hσ5, FB', FBx, nfb, xA, xB, e2, e3, e4, kd145, ln145, tA, tB]
              obtain ⟨σ9, hσ9⟩ : ∃ σ9, aup (aup (aup (aup σ5 150 e (fa : Int)) 150 (e + 1) (fb : Int)) 150 (e + 2) (ta : Int)) 150 (e + 3) (tb : Int) = σ9 := ⟨_, rfl⟩
              rw [hσ9]
              have ff : ∀ a, a ≠ 150 → σ9 a = σ5 a := fun a ha => by rw [← hσ9, aup_f ha, aup_f ha, aup_f ha, aup_f ha]
              refine ih (e + 4) ((ta, tb) :: (fa, fb) :: P) (uPd o1 B A) ρB σ9 _ _ _ (by simp; omega) (by simp; omega) (by simp; omega) (fun q hq => ?_) (fun j x hj => ?_) (fun i hi => by rw [ff 144 (by omega)]; exact G6 i hi) (fun i hi => by rw [ff 145 (by omega)]; exact G7 i hi) (fun i hi => by rw [ff 146 (by omega)]; exact M5 i hi) LB1 I4 C4 (FrN_tr F5 ⟨fun a _ _ _ _ q5 => ff a q5, fun j _ => by rw [ff 130 (by omega)]⟩) (by rw [ff 130 (by omega)]; exact G13)
              · rcases List.mem_cons.mp hq with rfl | hq
                · exact ⟨ea4, eb4⟩
                rcases List.mem_cons.mp hq with rfl | hq
                · exact ⟨ea3, eb3⟩
                exact g4' q hq
              · have eo : opn ((ta, tb) :: (fa, fb) :: P) = opn P ++ [(fa : Int), (fb : Int), (ta : Int), (tb : Int)] := by simp [opn]
                rw [eo] at hj
                rw [← hσ9]
                rcases Nat.lt_or_ge j (opn P).length with z | z
                · rw [List.getElem?_append_left z] at hj
                  obtain ⟨w1, w2⟩ := GP j x hj
                  rw [aup_n2 (by omega), aup_n2 (by omega), aup_n2 (by omega), aup_n2 (by omega)]
                  exact w1
                · rw [List.getElem?_append_right z] at hj
                  obtain ⟨w, hw⟩ : ∃ w, w = j - (opn P).length := ⟨_, rfl⟩
                  rw [← hw] at hj
                  have ej : j = e + w := by omega
                  rw [ej]
                  match w, hj with
                  | 0, hj => rw [aup_n2 (by omega), aup_n2 (by omega), aup_n2 (by omega)]; simp only [Nat.add_zero, aup_s]; simpa using hj
                  | 1, hj => rw [aup_n2 (by omega), aup_n2 (by omega), aup_s]; simpa using hj
                  | 2, hj => rw [aup_n2 (by omega), aup_s]; simpa using hj
                  | 3, hj => rw [aup_s]; simpa using hj
                  | w + 4, hj => simp at hj
  refine lp (1 + 2 * n) 2 [(k, l)] o ρ _ _ _ _ rfl (by simp; omega) (by simp; omega) (fun q hq => ?_) (fun j x hj => ?_) (fun i hi => by rw [aup_n1 (by omega), aup_n1 (by omega)]; exact h2 i hi) (fun i hi => by rw [aup_n1 (by omega), aup_n1 (by omega)]; exact h3 i hi) (fun i hi => by rw [aup_n1 (by omega), aup_n1 (by omega)]; exact h4 i hi) hU (fun v hv => ?_) (fun i r hi hf hr => ?_) (FrN_tr h6 ⟨fun a _ _ _ _ q5 => by rw [aup_f q5, aup_f q5], fun j _ => by rw [aup_n1 (by omega), aup_n1 (by omega)]⟩) (by rw [aup_n1 (by omega), aup_n1 (by omega)]; exact h1)
  · rcases List.mem_singleton.mp hq with rfl; exact ⟨hkk, hll⟩
  · match j, hj with
    | 0, hj => rw [aup_n2 (by omega), show Int.toNat 0 = 0 from rfl, aup_s]; simpa [opn] using hj
    | 1, hj => rw [show Int.toNat 1 = 1 from rfl, aup_s]; simpa [opn] using hj
    | w + 2, hj => simp [opn] at hj
  · rw [prV_cons]
    exact ⟨fun h => ⟨h.1, h.2, fun q hq => by cases hq⟩, fun h => ⟨h.1, h.2.1⟩⟩
  · obtain ⟨c1, c2⟩ := hC i r hi hf hr
    exact ⟨c1, fun v q1 q2 => c2 v q1 (fun q hq => by cases hq)⟩
end KRM
