/-! Sorter: meant, makeOne -/
def mpN (n : Nat) (o : Nat → Nat) : List Int := (List.range n).map (fun i => (o i : Int))
def mpI (n : Nat) (f : Nat → Int) : List Int := (List.range n).map f
def UEq (n : Nat) (o o' : Nat → Nat) : Prop := (∀ v, onV n o v ↔ onV n o' v) ∧ (∀ j, o j = j ↔ o' j = j) ∧ (∀ j r, Ru o j r ↔ Ru o' j r)
def cnO (o ρ : Nat → Nat) (b : Nat) : Nat → Nat
  | 0 => 0
  | n + 1 => (if ¬ o n = n ∧ ρ n < b then 1 else 0) + cnO o ρ b n
def opn : List (Nat × Nat) → List Int
  | [] => []
  | q :: P => opn P ++ [(q.1 : Int), (q.2 : Int)]
section MNT
variable {σ σ0 σ' : aSg} {K : List AV → aSg → Prop} {x y z c : Int} {n : Nat} {fr to : Nat → Int} {o o' ρ : Nat → Nat} {i j r k l a b p q t : Nat} {P : List (Nat × Nat)}
theorem mpN_at (h : i < n) : lat (mpN n o) (i : Int) = (o i : Int) := by
  unfold mpN
  rw [lat_i2 (by simpa using h)]
  simp
theorem mpI_at {f : Nat → Int} (h : i < n) : lat (mpI n f) (i : Int) = f i := by
  unfold mpI
  rw [lat_i2 (by simpa using h)]
  simp
theorem mpN_set (h : a < n) : lset (mpN n o) (a : Int) (b : Int) = mpN n (uPd o a b) := by
  unfold lset mpN
  rw [if_pos (by omega), Int.toNat_natCast]
  apply List.ext_getElem?
  intro j
  rw [List.getElem?_set]
  by_cases e : a = j
  · subst e
    rw [if_pos rfl, if_pos (by simpa using h), List.getElem?_map, List.getElem?_range h]
    simp [uPd]
  · rw [if_neg e, List.getElem?_map, List.getElem?_map]
    by_cases hj : j < n
    · rw [List.getElem?_range hj]
      simp only [Option.map_some]
      unfold uPd
      rw [if_neg (fun z => e z.symm)]
    · rw [List.getElem?_eq_none (by simpa using hj)]; rfl
theorem mpN_len : (mpN n o).length = n := by simp [mpN]
theorem mpI_len {f : Nat → Int} : (mpI n f).length = n := by simp [mpI]
theorem UEq_rf : UEq n o o := ⟨fun _ => Iff.rfl, fun _ => Iff.rfl, fun _ _ => Iff.rfl⟩
theorem UEq_tr {o2 : Nat → Nat} (h : UEq n o o') (h' : UEq n o' o2) : UEq n o o2 := ⟨fun v => (h.1 v).trans (h'.1 v), fun j => (h.2.1 j).trans (h'.2.1 j), fun j r => (h.2.2 j r).trans (h'.2.2 j r)⟩
theorem cnO_le (b : Nat) : ∀ n, cnO o ρ b n ≤ n := by
  intro n
  induction n with
  | zero => simp [cnO]
  | succ n ih => simp only [cnO]; split <;> omega
theorem cnO_eq (h : ∀ j, o j = j ↔ o' j = j) (b : Nat) : ∀ n, cnO o ρ b n = cnO o' ρ b n := by
  intro n
  induction n with
  | zero => rfl
  | succ n ih =>
    simp only [cnO]
    rw [ih]
    by_cases e : o n = n
    · have e' := (h n).mp e
      rw [if_neg (fun z => z.1 e), if_neg (fun z => z.1 e')]
    · have e' : ¬ o' n = n := fun z => e ((h n).mpr z)
      by_cases g : ρ n < b
      · rw [if_pos ⟨e, g⟩, if_pos ⟨e', g⟩]
      · rw [if_neg (fun z => g z.2), if_neg (fun z => g z.2)]
theorem cnO_lt {b d i : Nat} (hbd : b ≤ d) (h1 : ¬ o i = i) (h2 : ρ i < d) (h3 : ¬ ρ i < b) : ∀ n, i < n → cnO o ρ b n + 1 ≤ cnO o ρ d n := by
  have mono : ∀ n, cnO o ρ b n ≤ cnO o ρ d n := by
    intro n
    induction n with
    | zero => simp [cnO]
    | succ n ih =>
      simp only [cnO]
      by_cases g : ¬ o n = n ∧ ρ n < b
      · rw [if_pos g, if_pos ⟨g.1, by omega⟩]; omega
      · rw [if_neg g]; omega
  intro n
  induction n with
  | zero => intro h; omega
  | succ n ih =>
    intro hi
    simp only [cnO]
    by_cases e : i = n
    · subst e
      have := mono i
      rw [if_neg (fun z => h3 z.2), if_pos ⟨h1, h2⟩]
      omega
    · have := ih (by omega)
      by_cases g : ¬ o n = n ∧ ρ n < b
      · rw [if_pos g, if_pos ⟨g.1, by omega⟩]; omega
      · rw [if_neg g]; omega
theorem wr61 (hk : RK σ) (hv : rv σ 113 = mpN n o) (hU : UFr n o ρ) (hn : n ≤ 720) (hi : k < n) (Q : List AV → aSg → Prop) (hq : ∀ (σ' : aSg) (o' : Nat → Nat) (r : Nat), RK σ' → rv σ' 113 = mpN n o' → UFr n o' ρ → UEq n o o' → Ru o' k r → r < n → FrW 113 σ σ' → Q [.inl (r : Int)] σ') : CA m61 [.inr (.inl 108), .inl (k : Int)] σ Q := by
  rw [e61]
  simp (disch := omega) only [s61_0, s61_1, s61_2, s61_3, s61_5, s61_8, s61_11, s61_12, s61_15, s61_16, s61_19, s61_20, s61_23, s61_24, s61_27, s61_28, s61_29, s61_32, s61_33, s61_36, s61_37, s61_40, s61_43, s61_46, s61_47, s61_50, s61_51, s61_54, s61_55, s61_58, s61_61, s61_62, List.cons_append, List.nil_append, if_true, if_false, true_and, and_true, and_self, eq_self, true_or, or_true, false_or, or_false, tIn, tLe, fLe, tLt, fLt, tEq, fEq, isL]
  have lp : ∀ (m c f : Nat) (o1 : Nat → Nat) (σ1 : aSg), c + m = 720 → f < n → RK σ1 → rv σ1 113 = mpN n o1 → UFr n o1 ρ → UEq n o o1 → (∀ r, Ru o1 k r ↔ Ru o1 f r) → cnO o1 ρ (ρ f + 1) n ≤ m → FrW 113 σ σ1 → WP m61 4 [.inr (.inl 108), .inl (k : Int), .inl (f : Int), .inl (c : Int)] [] σ1 Q := by
    intro m
    induction m with
    | zero =>
      intro c f o1 σ1 h1 h2 h3 h4 h5 h6 h7 h8 h9
      have hr : o1 f = f := by
        apply Classical.byContradiction
        intro z
        have := cnO_lt (o := o1) (ρ := ρ) (b := 0) (d := ρ f + 1) (i := f) (by omega) z (by omega) (by omega) n h2
        omega
      rw [s61_4]
      simp (disch := omega) only [s61_0, s61_1, s61_2, s61_3, s61_5, s61_8, s61_11, s61_12, s61_15, s61_16, s61_19, s61_20, s61_23, s61_24, s61_27, s61_28, s61_29, s61_32, s61_33, s61_36, s61_37, s61_40, s61_43, s61_46, s61_47, s61_50, s61_51, s61_54, s61_55, s61_58, s61_61, s61_62, List.cons_append, List.nil_append, if_true, if_false, true_and, and_true, and_self, eq_self, true_or, or_true, false_or, or_false, tIn, tLe, fLe, tLt, fLt, tEq, fEq, isL]
      exact hq σ1 o1 f h3 h4 h5 h6 ((h7 f).mpr (Ru_self hr)) h2 h9
    | succ m ih =>
      intro c f o1 σ1 h1 h2 h3 h4 h5 h6 h7 h8 h9
      have e1 := mpN_at (o := o1) h2
      rw [s61_4]
      by_cases g : o1 f = f
      · rw [g] at e1
        simp (disch := omega) only [s61_0, s61_1, s61_2, s61_3, s61_5, s61_8, s61_11, s61_12, s61_15, s61_16, s61_19, s61_20, s61_23, s61_24, s61_27, s61_28, s61_29, s61_32, s61_33, s61_36, s61_37, s61_40, s61_43, s61_46, s61_47, s61_50, s61_51, s61_54, s61_55, s61_58, s61_61, s61_62, List.cons_append, List.nil_append, if_true, if_false, true_and, and_true, and_self, eq_self, true_or, or_true, false_or, or_false, tIn, tLe, fLe, tLt, fLt, tEq, fEq, isL, row113.1, c30 row113 h3, h4, e1]
        exact hq σ1 o1 f h3 h4 h5 h6 ((h7 f).mpr (Ru_self g)) h2 h9
      · obtain ⟨f1, f2⟩ := h5 f h2
        have f3 := f2 g
        have e2 := mpN_at (o := o1) f1
        obtain ⟨g1, g2, g3, g4⟩ := half_ok h5 h2
        have ff : uPd o1 f (o1 (o1 f)) f = o1 (o1 f) := by unfold uPd; rw [if_pos rfl]
        have ne : ¬ ((o1 f : Nat) : Int) = (f : Int) := by omega
        have lt2 := (h5 _ f1).1
        have rk2 : ρ (o1 (o1 f)) < ρ f := by
          by_cases z : o1 (o1 f) = o1 f
          · rw [z]; exact f3
          · have := (h5 _ f1).2 z; omega
        simp (disch := omega) only [s61_0, s61_1, s61_2, s61_3, s61_5, s61_8, s61_11, s61_12, s61_15, s61_16, s61_19, s61_20, s61_23, s61_24, s61_27, s61_28, s61_29, s61_32, s61_33, s61_36, s61_37, s61_40, s61_43, s61_46, s61_47, s61_50, s61_51, s61_54, s61_55, s61_58, s61_61, s61_62, List.cons_append, List.nil_append, if_true, if_false, true_and, and_true, and_self, eq_self, true_or, or_true, false_or, or_false, tIn, tLe, fLe, tLt, fLt, tEq, fEq, isL, row113.1, c30 row113 h3, h4, e1, e2]
        refine rset_ok row113 h3 h4 _ (fun σ2 k2 w2 f2' => ?_)
        rw [mpN_set h2] at w2
        have e3 := mpN_at (o := uPd o1 f (o1 (o1 f))) h2
        rw [ff] at e3
        simp (disch := omega) only [s61_0, s61_1, s61_2, s61_3, s61_5, s61_8, s61_11, s61_12, s61_15, s61_16, s61_19, s61_20, s61_23, s61_24, s61_27, s61_28, s61_29, s61_32, s61_33, s61_36, s61_37, s61_40, s61_43, s61_46, s61_47, s61_50, s61_51, s61_54, s61_55, s61_58, s61_61, s61_62, List.cons_append, List.nil_append, if_true, if_false, true_and, and_true, and_self, eq_self, true_or, or_true, false_or, or_false, tIn, tLe, fLe, tLt, fLt, tEq, fEq, isL, row113.1, c30 row113 k2, w2, e3]
        have cc := cnO_eq (o := o1) (o' := uPd o1 f (o1 (o1 f))) (ρ := ρ) g3 (ρ (o1 (o1 f)) + 1) n
        have cl := cnO_lt (o := o1) (ρ := ρ) (b := ρ (o1 (o1 f)) + 1) (d := ρ f + 1) (i := f) (by omega) g (by omega) (by omega) n h2
        refine ih (c + 1) (o1 (o1 f)) (uPd o1 f (o1 (o1 f))) σ2 (by omega) lt2 k2 w2 g1 (UEq_tr h6 ⟨g2, g3, g4⟩) (fun r => ?_) (by omega) (FrW_tr h9 f2')
        rw [← g4, ← g4, h7]
        exact ⟨fun z => Ru_dn (Ru_dn z), fun z => Ru_up (Ru_up z)⟩
  exact lp 720 0 k o σ (by omega) hi hk hv hU UEq_rf (fun r => Iff.rfl) (by have := cnO_le (o := o) (ρ := ρ) (ρ k + 1) n; omega) (fun _ _ _ => rfl)
theorem c60 {f : Nat → Int} (hk : RK σ) (hv : rv σ 109 = mpI n f) (hi : i < n) : CA m60 [.inr (.inl 108), .inl (i : Int)] σ K = K [.inl (if f i = -1 then 1 else 0)] σ := by
  rw [e60]
  have e1 := mpI_at (f := f) hi
  by_cases g : f i = -1
  · rw [if_pos g]
    rw [g] at e1
    simp (disch := omega) only [s60_0, s60_1, s60_4, s60_5, s60_8, s60_9, s60_12, s60_13, s60_16, s60_17, List.cons_append, List.nil_append, if_true, if_false, true_and, and_true, and_self, eq_self, true_or, or_true, false_or, or_false, tIn, tLe, fLe, tLt, fLt, tEq, fEq, isL, row109.1, c30 row109 hk, hv, e1]
  · rw [if_neg g]
    simp (disch := omega) only [s60_0, s60_1, s60_4, s60_5, s60_8, s60_9, s60_12, s60_13, s60_16, s60_17, List.cons_append, List.nil_append, if_true, if_false, true_and, and_true, and_self, eq_self, true_or, or_true, false_or, or_false, tIn, tLe, fLe, tLt, fLt, tEq, fEq, isL, row109.1, c30 row109 hk, hv, e1]
theorem opn_len : ∀ P : List (Nat × Nat), (opn P).length = 2 * P.length := by
  intro P
  induction P with
  | nil => rfl
  | cons q P ih => simp only [opn, List.length_append, List.length_cons, List.length_nil, ih]; omega
theorem rtN_le : ∀ n, rtN o n ≤ n := by
  intro n
  induction n with
  | zero => simp [rtN]
  | succ n ih => simp only [rtN]; split <;> omega
theorem UI_eq {o0 : Nat → Nat} (h : UEq n o o') (hI : UIv n fr to o0 k l o P) (hC : CCm n fr to o P) : UIv n fr to o0 k l o' P ∧ CCm n fr to o' P := by
  refine ⟨fun v hv => by rw [hI v hv, h.1 v], fun i r hi hf hr => ?_⟩
  obtain ⟨c1, c2⟩ := hC i r hi hf ((h.2.2 i r).mpr hr)
  exact ⟨c1, fun v h1 h2 => c2 v ((h.1 v).mpr h1) h2⟩
theorem rtN_eq (h : ∀ j, o j = j ↔ o' j = j) : ∀ n, rtN o n = rtN o' n := by
  intro n
  induction n with
  | zero => rfl
  | succ n ih =>
    simp only [rtN]
    rw [ih]
    by_cases e : o n = n
    · rw [if_pos e, if_pos ((h n).mp e)]
    · rw [if_neg e, if_neg (fun z => e ((h n).mpr z))]
abbrev FrY (σ σ' : aSg) : Prop := ∀ a, a ≠ 113 → a ≠ 114 → a ≠ 119 → a ≠ 120 → σ' a = σ a
theorem wr62 (hk : RK σ) (h1 : rv σ 109 = mpI n fr) (h2 : rv σ 111 = mpI n to) (h3 : rv σ 113 = mpN n o) (hK : KGr n fr to) (hU : UFr n o ρ) (hC : CCm n fr to o []) (hn : n ≤ 700) (hkk : k < n) (hll : l < n) (Q : List AV → aSg → Prop) (hq : ∀ (σ' : aSg) (o' ρ' : Nat → Nat), RK σ' → rv σ' 113 = mpN n o' → UFr n o' ρ' → CCm n fr to o' [] → (∀ v, apV n fr to v → ((onV n o v ∧ v k = v l) ↔ onV n o' v)) → FrY σ σ' → Q [] σ') : CA m62 [.inr (.inl 108), .inl (k : Int), .inl (l : Int)] σ Q := by
  rw [e62]
  have c19 := cp119
  simp (disch := omega) only [s62_0, s62_1, s62_4, s62_7, s62_8, s62_11, s62_12, s62_15, s62_16, s62_19, s62_20, s62_23, s62_24, s62_26, s62_29, s62_32, s62_33, s62_36, s62_39, s62_40, s62_43, s62_44, s62_45, s62_48, s62_51, s62_54, s62_56, s62_57, s62_58, s62_61, s62_64, s62_67, s62_69, s62_71, s62_73, s62_76, s62_79, s62_80, s62_82, s62_85, s62_88, s62_89, s62_92, s62_94, s62_96, s62_99, s62_102, s62_103, s62_106, s62_108, s62_110, s62_113, s62_114, s62_116, s62_119, s62_122, s62_123, s62_126, s62_127, s62_130, s62_132, s62_135, s62_138, s62_139, s62_142, s62_143, s62_146, s62_148, s62_151, s62_154, s62_155, s62_158, s62_159, s62_162, s62_164, s62_167, s62_170, s62_171, s62_174, s62_175, s62_178, s62_180, s62_183, s62_186, s62_189, s62_192, List.cons_append, List.nil_append, if_true, if_false, true_and, and_true, and_self, eq_self, true_or, or_true, false_or, or_false, tIn, tLe, fLe, tLt, fLt, tEq, fEq, isL, row119.1]
  refine rclr_ok row119 hk _ (fun σ1 k1 w1 f1 => ?_)
  simp (disch := omega) only [s62_0, s62_1, s62_4, s62_7, s62_8, s62_11, s62_12, s62_15, s62_16, s62_19, s62_20, s62_23, s62_24, s62_26, s62_29, s62_32, s62_33, s62_36, s62_39, s62_40, s62_43, s62_44, s62_45, s62_48, s62_51, s62_54, s62_56, s62_57, s62_58, s62_61, s62_64, s62_67, s62_69, s62_71, s62_73, s62_76, s62_79, s62_80, s62_82, s62_85, s62_88, s62_89, s62_92, s62_94, s62_96, s62_99, s62_102, s62_103, s62_106, s62_108, s62_110, s62_113, s62_114, s62_116, s62_119, s62_122, s62_123, s62_126, s62_127, s62_130, s62_132, s62_135, s62_138, s62_139, s62_142, s62_143, s62_146, s62_148, s62_151, s62_154, s62_155, s62_158, s62_159, s62_162, s62_164, s62_167, s62_170, s62_171, s62_174, s62_175, s62_178, s62_180, s62_183, s62_186, s62_189, s62_192, List.cons_append, List.nil_append, if_true, if_false, true_and, and_true, and_self, eq_self, true_or, or_true, false_or, or_false, tIn, tLe, fLe, tLt, fLt, tEq, fEq, isL, row119.1]
  refine radd_ok row119 k1 w1 (by simp; omega) _ (fun σ2 k2 w2 f2 => ?_)
  simp (disch := omega) only [s62_0, s62_1, s62_4, s62_7, s62_8, s62_11, s62_12, s62_15, s62_16, s62_19, s62_20, s62_23, s62_24, s62_26, s62_29, s62_32, s62_33, s62_36, s62_39, s62_40, s62_43, s62_44, s62_45, s62_48, s62_51, s62_54, s62_56, s62_57, s62_58, s62_61, s62_64, s62_67, s62_69, s62_71, s62_73, s62_76, s62_79, s62_80, s62_82, s62_85, s62_88, s62_89, s62_92, s62_94, s62_96, s62_99, s62_102, s62_103, s62_106, s62_108, s62_110, s62_113, s62_114, s62_116, s62_119, s62_122, s62_123, s62_126, s62_127, s62_130, s62_132, s62_135, s62_138, s62_139, s62_142, s62_143, s62_146, s62_148, s62_151, s62_154, s62_155, s62_158, s62_159, s62_162, s62_164, s62_167, s62_170, s62_171, s62_174, s62_175, s62_178, s62_180, s62_183, s62_186, s62_189, s62_192, List.cons_append, List.nil_append, if_true, if_false, true_and, and_true, and_self, eq_self, true_or, or_true, false_or, or_false, tIn, tLe, fLe, tLt, fLt, tEq, fEq, isL, row119.1]
  refine radd_ok row119 k2 w2 (by simp; omega) _ (fun σ3 k3 w3 f3 => ?_)
  have F3 := FrW_tr (FrW_tr f1 f2) f3
  have Y3 : FrY σ σ3 := fun a q1 q2 q3 q4 => F3 a q3 q4
  have rt0 := rtN_le (o := o) n
  simp (disch := omega) only [s62_0, s62_1, s62_4, s62_7, s62_8, s62_11, s62_12, s62_15, s62_16, s62_19, s62_20, s62_23, s62_24, s62_26, s62_29, s62_32, s62_33, s62_36, s62_39, s62_40, s62_43, s62_44, s62_45, s62_48, s62_51, s62_54, s62_56, s62_57, s62_58, s62_61, s62_64, s62_67, s62_69, s62_71, s62_73, s62_76, s62_79, s62_80, s62_82, s62_85, s62_88, s62_89, s62_92, s62_94, s62_96, s62_99, s62_102, s62_103, s62_106, s62_108, s62_110, s62_113, s62_114, s62_116, s62_119, s62_122, s62_123, s62_126, s62_127, s62_130, s62_132, s62_135, s62_138, s62_139, s62_142, s62_143, s62_146, s62_148, s62_151, s62_154, s62_155, s62_158, s62_159, s62_162, s62_164, s62_167, s62_170, s62_171, s62_174, s62_175, s62_178, s62_180, s62_183, s62_186, s62_189, s62_192, List.cons_append, List.nil_append, if_true, if_false, true_and, and_true, and_self, eq_self, true_or, or_true, false_or, or_false, tIn, tLe, fLe, tLt, fLt, tEq, fEq, isL]
  have lp : ∀ (m c : Nat) (P : List (Nat × Nat)) (o1 ρ1 : Nat → Nat) (σ4 : aSg) (l4 l5 : AV), c + m = 1442 → P.length + 2 * rtN o1 n ≤ m → P.length + rtN o1 n ≤ n + 1 → (∀ q ∈ P, q.1 < n ∧ q.2 < n) → RK σ4 → rv σ4 113 = mpN n o1 → rv σ4 119 = opn P → UFr n o1 ρ1 → UIv n fr to o k l o1 P → CCm n fr to o1 P → FrY σ σ4 → WP m62 25 [.inr (.inl 108), .inl (k : Int), .inl (l : Int), .inl (c : Int), l4, l5] [] σ4 Q := by
    intro m
    induction m with
    | zero =>
      intro c P o1 ρ1 σ4 l4 l5 g1 g2 g3 g4 g5 g6 g7 g8 g9 g10 g11
      have hP : P = [] := List.length_eq_zero_iff.mp (by omega)
      subst hP
      rw [s62_25]
      simp (disch := omega) only [s62_0, s62_1, s62_4, s62_7, s62_8, s62_11, s62_12, s62_15, s62_16, s62_19, s62_20, s62_23, s62_24, s62_26, s62_29, s62_32, s62_33, s62_36, s62_39, s62_40, s62_43, s62_44, s62_45, s62_48, s62_51, s62_54, s62_56, s62_57, s62_58, s62_61, s62_64, s62_67, s62_69, s62_71, s62_73, s62_76, s62_79, s62_80, s62_82, s62_85, s62_88, s62_89, s62_92, s62_94, s62_96, s62_99, s62_102, s62_103, s62_106, s62_108, s62_110, s62_113, s62_114, s62_116, s62_119, s62_122, s62_123, s62_126, s62_127, s62_130, s62_132, s62_135, s62_138, s62_139, s62_142, s62_143, s62_146, s62_148, s62_151, s62_154, s62_155, s62_158, s62_159, s62_162, s62_164, s62_167, s62_170, s62_171, s62_174, s62_175, s62_178, s62_180, s62_183, s62_186, s62_189, s62_192, List.cons_append, List.nil_append, if_true, if_false, true_and, and_true, and_self, eq_self, true_or, or_true, false_or, or_false, tIn, tLe, fLe, tLt, fLt, tEq, fEq, isL]
      exact hq σ4 o1 ρ1 g5 g6 g8 g10 (fun v hv => (g9 v hv).trans ⟨fun h => h.1, fun h => ⟨h, fun q hq => by cases hq⟩⟩) g11
    | succ m ih =>
      intro c P o1 ρ1 σ4 l4 l5 g1 g2 g3 g4 g5 g6 g7 g8 g9 g10 g11
      rw [s62_25]
      cases P with
      | nil =>
        have z0 : ((opn []).length : Int) = 0 := rfl
        simp (disch := omega) only [s62_0, s62_1, s62_4, s62_7, s62_8, s62_11, s62_12, s62_15, s62_16, s62_19, s62_20, s62_23, s62_24, s62_26, s62_29, s62_32, s62_33, s62_36, s62_39, s62_40, s62_43, s62_44, s62_45, s62_48, s62_51, s62_54, s62_56, s62_57, s62_58, s62_61, s62_64, s62_67, s62_69, s62_71, s62_73, s62_76, s62_79, s62_80, s62_82, s62_85, s62_88, s62_89, s62_92, s62_94, s62_96, s62_99, s62_102, s62_103, s62_106, s62_108, s62_110, s62_113, s62_114, s62_116, s62_119, s62_122, s62_123, s62_126, s62_127, s62_130, s62_132, s62_135, s62_138, s62_139, s62_142, s62_143, s62_146, s62_148, s62_151, s62_154, s62_155, s62_158, s62_159, s62_162, s62_164, s62_167, s62_170, s62_171, s62_174, s62_175, s62_178, s62_180, s62_183, s62_186, s62_189, s62_192, List.cons_append, List.nil_append, if_true, if_false, true_and, and_true, and_self, eq_self, true_or, or_true, false_or, or_false, tIn, tLe, fLe, tLt, fLt, tEq, fEq, isL, row119.1, c28 row119 g5, g7, z0]
        exact hq σ4 o1 ρ1 g5 g6 g8 g10 (fun v hv => (g9 v hv).trans ⟨fun h => h.1, fun h => ⟨h, fun q hq => by cases hq⟩⟩) g11
      | cons q P =>
        obtain ⟨k', l'⟩ := q
        obtain ⟨hk', hl'⟩ : k' < n ∧ l' < n := g4 _ (List.mem_cons_self ..)
        have g4' : ∀ q ∈ P, q.1 < n ∧ q.2 < n := fun u hu => g4 u (List.mem_cons_of_mem _ hu)
        simp only [List.length_cons] at g2 g3
        have z1 : ((opn ((k', l') :: P)).length : Int) = 2 * (P.length : Int) + 2 := by rw [opn_len]; simp; omega
        have eo : opn ((k', l') :: P) = (opn P ++ [(k' : Int)]) ++ [(l' : Int)] := by simp [opn]
        simp (disch := omega) only [s62_0, s62_1, s62_4, s62_7, s62_8, s62_11, s62_12, s62_15, s62_16, s62_19, s62_20, s62_23, s62_24, s62_26, s62_29, s62_32, s62_33, s62_36, s62_39, s62_40, s62_43, s62_44, s62_45, s62_48, s62_51, s62_54, s62_56, s62_57, s62_58, s62_61, s62_64, s62_67, s62_69, s62_71, s62_73, s62_76, s62_79, s62_80, s62_82, s62_85, s62_88, s62_89, s62_92, s62_94, s62_96, s62_99, s62_102, s62_103, s62_106, s62_108, s62_110, s62_113, s62_114, s62_116, s62_119, s62_122, s62_123, s62_126, s62_127, s62_130, s62_132, s62_135, s62_138, s62_139, s62_142, s62_143, s62_146, s62_148, s62_151, s62_154, s62_155, s62_158, s62_159, s62_162, s62_164, s62_167, s62_170, s62_171, s62_174, s62_175, s62_178, s62_180, s62_183, s62_186, s62_189, s62_192, List.cons_append, List.nil_append, if_true, if_false, true_and, and_true, and_self, eq_self, true_or, or_true, false_or, or_false, tIn, tLe, fLe, tLt, fLt, tEq, fEq, isL, row119.1, c28 row119 g5, g7, z1]
        refine rpop_ok row119 g5 (by rw [g7]; exact eo) _ (fun σ5 k5 w5 f5 => ?_)
        have a3 : rv σ5 113 = mpN n o1 := (FrW_rv f5 row119 row113 (by omega)).trans g6
        simp (disch := omega) only [s62_0, s62_1, s62_4, s62_7, s62_8, s62_11, s62_12, s62_15, s62_16, s62_19, s62_20, s62_23, s62_24, s62_26, s62_29, s62_32, s62_33, s62_36, s62_39, s62_40, s62_43, s62_44, s62_45, s62_48, s62_51, s62_54, s62_56, s62_57, s62_58, s62_61, s62_64, s62_67, s62_69, s62_71, s62_73, s62_76, s62_79, s62_80, s62_82, s62_85, s62_88, s62_89, s62_92, s62_94, s62_96, s62_99, s62_102, s62_103, s62_106, s62_108, s62_110, s62_113, s62_114, s62_116, s62_119, s62_122, s62_123, s62_126, s62_127, s62_130, s62_132, s62_135, s62_138, s62_139, s62_142, s62_143, s62_146, s62_148, s62_151, s62_154, s62_155, s62_158, s62_159, s62_162, s62_164, s62_167, s62_170, s62_171, s62_174, s62_175, s62_178, s62_180, s62_183, s62_186, s62_189, s62_192, List.cons_append, List.nil_append, if_true, if_false, true_and, and_true, and_self, eq_self, true_or, or_true, false_or, or_false, tIn, tLe, fLe, tLt, fLt, tEq, fEq, isL]
        refine wr61 k5 a3 g8 (by omega) hl' _ (fun σ6 o2 A k6 w6 u6 q6 rA lA f6 => ?_)
        have a9 : rv σ6 119 = opn P ++ [(k' : Int)] := (FrW_rv f6 row113 row119 (by omega)).trans w5
        simp (disch := omega) only [s62_0, s62_1, s62_4, s62_7, s62_8, s62_11, s62_12, s62_15, s62_16, s62_19, s62_20, s62_23, s62_24, s62_26, s62_29, s62_32, s62_33, s62_36, s62_39, s62_40, s62_43, s62_44, s62_45, s62_48, s62_51, s62_54, s62_56, s62_57, s62_58, s62_61, s62_64, s62_67, s62_69, s62_71, s62_73, s62_76, s62_79, s62_80, s62_82, s62_85, s62_88, s62_89, s62_92, s62_94, s62_96, s62_99, s62_102, s62_103, s62_106, s62_108, s62_110, s62_113, s62_114, s62_116, s62_119, s62_122, s62_123, s62_126, s62_127, s62_130, s62_132, s62_135, s62_138, s62_139, s62_142, s62_143, s62_146, s62_148, s62_151, s62_154, s62_155, s62_158, s62_159, s62_162, s62_164, s62_167, s62_170, s62_171, s62_174, s62_175, s62_178, s62_180, s62_183, s62_186, s62_189, s62_192, List.cons_append, List.nil_append, if_true, if_false, true_and, and_true, and_self, eq_self, true_or, or_true, false_or, or_false, tIn, tLe, fLe, tLt, fLt, tEq, fEq, isL, row119.1]
        refine rpop_ok row119 k6 a9 _ (fun σ7 k7 w7 f7 => ?_)
        have b3 : rv σ7 113 = mpN n o2 := (FrW_rv f7 row119 row113 (by omega)).trans w6
        simp (disch := omega) only [s62_0, s62_1, s62_4, s62_7, s62_8, s62_11, s62_12, s62_15, s62_16, s62_19, s62_20, s62_23, s62_24, s62_26, s62_29, s62_32, s62_33, s62_36, s62_39, s62_40, s62_43, s62_44, s62_45, s62_48, s62_51, s62_54, s62_56, s62_57, s62_58, s62_61, s62_64, s62_67, s62_69, s62_71, s62_73, s62_76, s62_79, s62_80, s62_82, s62_85, s62_88, s62_89, s62_92, s62_94, s62_96, s62_99, s62_102, s62_103, s62_106, s62_108, s62_110, s62_113, s62_114, s62_116, s62_119, s62_122, s62_123, s62_126, s62_127, s62_130, s62_132, s62_135, s62_138, s62_139, s62_142, s62_143, s62_146, s62_148, s62_151, s62_154, s62_155, s62_158, s62_159, s62_162, s62_164, s62_167, s62_170, s62_171, s62_174, s62_175, s62_178, s62_180, s62_183, s62_186, s62_189, s62_192, List.cons_append, List.nil_append, if_true, if_false, true_and, and_true, and_self, eq_self, true_or, or_true, false_or, or_false, tIn, tLe, fLe, tLt, fLt, tEq, fEq, isL]
        refine wr61 k7 b3 u6 (by omega) hk' _ (fun σ8 o3 B k8 w8 u8 q8 rB lB f8 => ?_)
        have rA' : Ru o3 l' A := (q8.2.2 l' A).mp rA
        obtain ⟨I3, C3⟩ := UI_eq (UEq_tr q6 q8) g9 g10
        have rte : rtN o3 n = rtN o1 n := (rtN_eq (UEq_tr q6 q8).2.1 n).symm
        have Y8 : FrY σ σ8 := fun a p1 p2 p3 p4 => by rw [f8 a p1 p2, f7 a p3 p4, f6 a p1 p2, f5 a p3 p4]; exact g11 a p1 p2 p3 p4
        have d1 : rv σ8 109 = mpI n fr := by rw [rv_same (Y8 109 (by omega) (by omega) (by omega) (by omega)) (Y8 110 (by omega) (by omega) (by omega) (by omega))]; exact h1
        have d2 : rv σ8 111 = mpI n to := by rw [rv_same (Y8 111 (by omega) (by omega) (by omega) (by omega)) (Y8 112 (by omega) (by omega) (by omega) (by omega))]; exact h2
        have d9 : rv σ8 119 = opn P := (FrW_rv f8 row113 row119 (by omega)).trans w7
        have oA := (Ru_in u8 hl' rA').2.2
        have oB := (Ru_in u8 hk' rB).2.2
        by_cases gAB : A = B
        · subst gAB
          obtain ⟨I4, C4⟩ := un_same u8 hk' hl' rB rA' I3 C3
          simp (disch := omega) only [s62_0, s62_1, s62_4, s62_7, s62_8, s62_11, s62_12, s62_15, s62_16, s62_19, s62_20, s62_23, s62_24, s62_26, s62_29, s62_32, s62_33, s62_36, s62_39, s62_40, s62_43, s62_44, s62_45, s62_48, s62_51, s62_54, s62_56, s62_57, s62_58, s62_61, s62_64, s62_67, s62_69, s62_71, s62_73, s62_76, s62_79, s62_80, s62_82, s62_85, s62_88, s62_89, s62_92, s62_94, s62_96, s62_99, s62_102, s62_103, s62_106, s62_108, s62_110, s62_113, s62_114, s62_116, s62_119, s62_122, s62_123, s62_126, s62_127, s62_130, s62_132, s62_135, s62_138, s62_139, s62_142, s62_143, s62_146, s62_148, s62_151, s62_154, s62_155, s62_158, s62_159, s62_162, s62_164, s62_167, s62_170, s62_171, s62_174, s62_175, s62_178, s62_180, s62_183, s62_186, s62_189, s62_192, List.cons_append, List.nil_append, if_true, if_false, true_and, and_true, and_self, eq_self, true_or, or_true, false_or, or_false, tIn, tLe, fLe, tLt, fLt, tEq, fEq, isL]
          exact ih (c + 1) P o3 ρ1 σ8 _ _ (by omega) (by omega) (by omega) g4' k8 w8 d9 u8 I4 C4 Y8
        · have nAB : ¬ (A : Int) = (B : Int) := by omega
          obtain ⟨⟨ρA, LA1⟩, -, -, LA4⟩ := link_ok u8 lA lB oA oB gAB
          obtain ⟨⟨ρB, LB1⟩, -, -, LB4⟩ := link_ok u8 lB lA oB oA (fun e => gAB e.symm)
          by_cases uA : fr A = -1
          · have hc := fun K => c60 (K := K) k8 d1 lA
            rw [if_pos uA] at hc
            obtain ⟨I4, C4⟩ := un_open (x := A) (y := B) u8 hk' hl' rB rA' (Or.inr ⟨rfl, rfl⟩) (fun e => gAB e.symm) uA I3 C3
            simp (disch := omega) only [s62_0, s62_1, s62_4, s62_7, s62_8, s62_11, s62_12, s62_15, s62_16, s62_19, s62_20, s62_23, s62_24, s62_26, s62_29, s62_32, s62_33, s62_36, s62_39, s62_40, s62_43, s62_44, s62_45, s62_48, s62_51, s62_54, s62_56, s62_57, s62_58, s62_61, s62_64, s62_67, s62_69, s62_71, s62_73, s62_76, s62_79, s62_80, s62_82, s62_85, s62_88, s62_89, s62_92, s62_94, s62_96, s62_99, s62_102, s62_103, s62_106, s62_108, s62_110, s62_113, s62_114, s62_116, s62_119, s62_122, s62_123, s62_126, s62_127, s62_130, s62_132, s62_135, s62_138, s62_139, s62_142, s62_143, s62_146, s62_148, s62_151, s62_154, s62_155, s62_158, s62_159, s62_162, s62_164, s62_167, s62_170, s62_171, s62_174, s62_175, s62_178, s62_180, s62_183, s62_186, s62_189, s62_192, List.cons_append, List.nil_append, if_true, if_false, true_and, and_true, and_self, eq_self, true_or, or_true, false_or, or_false, tIn, tLe, fLe, tLt, fLt, tEq, fEq, isL, hc, row113.1]
            refine rset_ok row113 k8 w8 _ (fun σ9 k9 w9 f9 => ?_)
            rw [mpN_set lA] at w9
            simp (disch := omega) only [s62_0, s62_1, s62_4, s62_7, s62_8, s62_11, s62_12, s62_15, s62_16, s62_19, s62_20, s62_23, s62_24, s62_26, s62_29, s62_32, s62_33, s62_36, s62_39, s62_40, s62_43, s62_44, s62_45, s62_48, s62_51, s62_54, s62_56, s62_57, s62_58, s62_61, s62_64, s62_67, s62_69, s62_71, s62_73, s62_76, s62_79, s62_80, s62_82, s62_85, s62_88, s62_89, s62_92, s62_94, s62_96, s62_99, s62_102, s62_103, s62_106, s62_108, s62_110, s62_113, s62_114, s62_116, s62_119, s62_122, s62_123, s62_126, s62_127, s62_130, s62_132, s62_135, s62_138, s62_139, s62_142, s62_143, s62_146, s62_148, s62_151, s62_154, s62_155, s62_158, s62_159, s62_162, s62_164, s62_167, s62_170, s62_171, s62_174, s62_175, s62_178, s62_180, s62_183, s62_186, s62_189, s62_192, List.cons_append, List.nil_append, if_true, if_false, true_and, and_true, and_self, eq_self, true_or, or_true, false_or, or_false, tIn, tLe, fLe, tLt, fLt, tEq, fEq, isL]
            exact ih (c + 1) P (uPd o3 A B) ρA σ9 _ _ (by omega) (by omega) (by omega) g4' k9 w9 ((FrW_rv f9 row113 row119 (by omega)).trans d9) LA1 I4 C4 (fun a p1 p2 p3 p4 => (f9 a p1 p2).trans (Y8 a p1 p2 p3 p4))
          · have hc := fun K => c60 (K := K) k8 d1 lA
            rw [if_neg uA] at hc
            simp (disch := omega) only [s62_0, s62_1, s62_4, s62_7, s62_8, s62_11, s62_12, s62_15, s62_16, s62_19, s62_20, s62_23, s62_24, s62_26, s62_29, s62_32, s62_33, s62_36, s62_39, s62_40, s62_43, s62_44, s62_45, s62_48, s62_51, s62_54, s62_56, s62_57, s62_58, s62_61, s62_64, s62_67, s62_69, s62_71, s62_73, s62_76, s62_79, s62_80, s62_82, s62_85, s62_88, s62_89, s62_92, s62_94, s62_96, s62_99, s62_102, s62_103, s62_106, s62_108, s62_110, s62_113, s62_114, s62_116, s62_119, s62_122, s62_123, s62_126, s62_127, s62_130, s62_132, s62_135, s62_138, s62_139, s62_142, s62_143, s62_146, s62_148, s62_151, s62_154, s62_155, s62_158, s62_159, s62_162, s62_164, s62_167, s62_170, s62_171, s62_174, s62_175, s62_178, s62_180, s62_183, s62_186, s62_189, s62_192, List.cons_append, List.nil_append, if_true, if_false, true_and, and_true, and_self, eq_self, true_or, or_true, false_or, or_false, tIn, tLe, fLe, tLt, fLt, tEq, fEq, isL, hc, row113.1]
            refine rset_ok row113 k8 w8 _ (fun σ9 k9 w9 f9 => ?_)
            rw [mpN_set lB] at w9
            have y1 : rv σ9 109 = mpI n fr := (FrW_rv f9 row113 row109 (by omega)).trans d1
            have y2 : rv σ9 111 = mpI n to := (FrW_rv f9 row113 row111 (by omega)).trans d2
            have y9 : rv σ9 119 = opn P := (FrW_rv f9 row113 row119 (by omega)).trans d9
            have Y9 : FrY σ σ9 := fun a p1 p2 p3 p4 => (f9 a p1 p2).trans (Y8 a p1 p2 p3 p4)
            have hc9 := fun K => c60 (K := K) k9 y1 lB
            by_cases uB : fr B = -1
            · rw [if_pos uB] at hc9
              obtain ⟨I4, C4⟩ := un_open (x := B) (y := A) u8 hk' hl' rB rA' (Or.inl ⟨rfl, rfl⟩) (fun e => gAB e.symm) uB I3 C3
              simp (disch := omega) only [s62_0, s62_1, s62_4, s62_7, s62_8, s62_11, s62_12, s62_15, s62_16, s62_19, s62_20, s62_23, s62_24, s62_26, s62_29, s62_32, s62_33, s62_36, s62_39, s62_40, s62_43, s62_44, s62_45, s62_48, s62_51, s62_54, s62_56, s62_57, s62_58, s62_61, s62_64, s62_67, s62_69, s62_71, s62_73, s62_76, s62_79, s62_80, s62_82, s62_85, s62_88, s62_89, s62_92, s62_94, s62_96, s62_99, s62_102, s62_103, s62_106, s62_108, s62_110, s62_113, s62_114, s62_116, s62_119, s62_122, s62_123, s62_126, s62_127, s62_130, s62_132, s62_135, s62_138, s62_139, s62_142, s62_143, s62_146, s62_148, s62_151, s62_154, s62_155, s62_158, s62_159, s62_162, s62_164, s62_167, s62_170, s62_171, s62_174, s62_175, s62_178, s62_180, s62_183, s62_186, s62_189, s62_192, List.cons_append, List.nil_append, if_true, if_false, true_and, and_true, and_self, eq_self, true_or, or_true, false_or, or_false, tIn, tLe, fLe, tLt, fLt, tEq, fEq, isL, hc9]
              exact ih (c + 1) P (uPd o3 B A) ρB σ9 _ _ (by omega) (by omega) (by omega) g4' k9 w9 y9 LB1 I4 C4 Y9
            · rw [if_neg uB] at hc9
              obtain ⟨fa, ta, ea1, ea2, ea3, ea4⟩ : ∃ a b : Nat, fr A = (a : Int) ∧ to A = (b : Int) ∧ a < n ∧ b < n := by rcases hK A lA with q | q; exact absurd q uA; exact q
              obtain ⟨fb, tb, eb1, eb2, eb3, eb4⟩ : ∃ a b : Nat, fr B = (a : Int) ∧ to B = (b : Int) ∧ a < n ∧ b < n := by rcases hK B lB with q | q; exact absurd q uB; exact q
              obtain ⟨I4, C4⟩ := un_both (P2 := (ta, tb) :: (fa, fb) :: P) (x := B) (y := A) u8 hk' hl' rB rA' (Or.inl ⟨rfl, rfl⟩) (fun e => gAB e.symm) eb1 eb2 ea1 ea2 (fun v => by
                rw [prV_cons, prV_cons]
                exact ⟨fun h => ⟨⟨h.2.1.symm, h.1.symm⟩, h.2.2⟩, fun h => ⟨h.1.2.symm, h.1.1.symm, h.2⟩⟩) I3 C3
              have oP := opn_len P
              have xA := mpI_at (f := fr) lA
              have xB := mpI_at (f := fr) lB
              have tA := mpI_at (f := to) lA
              have tB := mpI_at (f := to) lB
              rw [ea1] at xA
              rw [eb1] at xB
              rw [ea2] at tA
              rw [eb2] at tB
              simp (disch := omega) only [s62_0, s62_1, s62_4, s62_7, s62_8, s62_11, s62_12, s62_15, s62_16, s62_19, s62_20, s62_23, s62_24, s62_26, s62_29, s62_32, s62_33, s62_36, s62_39, s62_40, s62_43, s62_44, s62_45, s62_48, s62_51, s62_54, s62_56, s62_57, s62_58, s62_61, s62_64, s62_67, s62_69, s62_71, s62_73, s62_76, s62_79, s62_80, s62_82, s62_85, s62_88, s62_89, s62_92, s62_94, s62_96, s62_99, s62_102, s62_103, s62_106, s62_108, s62_110, s62_113, s62_114, s62_116, s62_119, s62_122, s62_123, s62_126, s62_127, s62_130, s62_132, s62_135, s62_138, s62_139, s62_142, s62_143, s62_146, s62_148, s62_151, s62_154, s62_155, s62_158, s62_159, s62_162, s62_164, s62_167, s62_170, s62_171, s62_174, s62_175, s62_178, s62_180, s62_183, s62_186, s62_189, s62_192, List.cons_append, List.nil_append, if_true, if_false, true_and, and_true, and_self, eq_self, true_or, or_true, false_or, or_false, tIn, tLe, fLe, tLt, fLt, tEq, fEq, isL, hc9, row119.1, row109.1, c30 row109 k9, y1, xA]
              refine radd_ok row119 k9 y9 (by omega) _ (fun σA kA wA fA => ?_)
              have y1A : rv σA 109 = mpI n fr := (FrW_rv fA row119 row109 (by omega)).trans y1
              simp (disch := omega) only [s62_0, s62_1, s62_4, s62_7, s62_8, s62_11, s62_12, s62_15, s62_16, s62_19, s62_20, s62_23, s62_24, s62_26, s62_29, s62_32, s62_33, s62_36, s62_39, s62_40, s62_43, s62_44, s62_45, s62_48, s62_51, s62_54, s62_56, s62_57, s62_58, s62_61, s62_64, s62_67, s62_69, s62_71, s62_73, s62_76, s62_79, s62_80, s62_82, s62_85, s62_88, s62_89, s62_92, s62_94, s62_96, s62_99, s62_102, s62_103, s62_106, s62_108, s62_110, s62_113, s62_114, s62_116, s62_119, s62_122, s62_123, s62_126, s62_127, s62_130, s62_132, s62_135, s62_138, s62_139, s62_142, s62_143, s62_146, s62_148, s62_151, s62_154, s62_155, s62_158, s62_159, s62_162, s62_164, s62_167, s62_170, s62_171, s62_174, s62_175, s62_178, s62_180, s62_183, s62_186, s62_189, s62_192, List.cons_append, List.nil_append, if_true, if_false, true_and, and_true, and_self, eq_self, true_or, or_true, false_or, or_false, tIn, tLe, fLe, tLt, fLt, tEq, fEq, isL, row119.1, row109.1, c30 row109 kA, y1A, xB]
              refine radd_ok row119 kA wA (by simp; omega) _ (fun σB kB wB fB => ?_)
              have y2B : rv σB 111 = mpI n to := by rw [FrW_rv fB row119 row111 (by omega), FrW_rv fA row119 row111 (by omega)]; exact y2
              simp (disch := omega) only [s62_0, s62_1, s62_4, s62_7, s62_8, s62_11, s62_12, s62_15, s62_16, s62_19, s62_20, s62_23, s62_24, s62_26, s62_29, s62_32, s62_33, s62_36, s62_39, s62_40, s62_43, s62_44, s62_45, s62_48, s62_51, s62_54, s62_56, s62_57, s62_58, s62_61, s62_64, s62_67, s62_69, s62_71, s62_73, s62_76, s62_79, s62_80, s62_82, s62_85, s62_88, s62_89, s62_92, s62_94, s62_96, s62_99, s62_102, s62_103, s62_106, s62_108, s62_110, s62_113, s62_114, s62_116, s62_119, s62_122, s62_123, s62_126, s62_127, s62_130, s62_132, s62_135, s62_138, s62_139, s62_142, s62_143, s62_146, s62_148, s62_151, s62_154, s62_155, s62_158, s62_159, s62_162, s62_164, s62_167, s62_170, s62_171, s62_174, s62_175, s62_178, s62_180, s62_183, s62_186, s62_189, s62_192, List.cons_append, List.nil_append, if_true, if_false, true_and, and_true, and_self, eq_self, true_or, or_true, false_or, or_false, tIn, tLe, fLe, tLt, fLt, tEq, fEq, isL, row119.1, row111.1, c30 row111 kB, y2B, tA]
              refine radd_ok row119 kB wB (by simp; omega) _ (fun σC kC wC fC => ?_)
              have y2C : rv σC 111 = mpI n to := (FrW_rv fC row119 row111 (by omega)).trans y2B
              simp (disch := omega) only [s62_0, s62_1, s62_4, s62_7, s62_8, s62_11, s62_12, s62_15, s62_16, s62_19, s62_20, s62_23, s62_24, s62_26, s62_29, s62_32, s62_33, s62_36, s62_39, s62_40, s62_43, s62_44, s62_45, s62_48, s62_51, s62_54, s62_56, s62_57, s62_58, s62_61, s62_64, s62_67, s62_69, s62_71, s62_73, s62_76, s62_79, s62_80, s62_82, s62_85, s62_88, s62_89, s62_92, s62_94, s62_96, s62_99, s62_102, s62_103, s62_106, s62_108, s62_110, s62_113, s62_114, s62_116, s62_119, s62_122, s62_123, s62_126, s62_127, s62_130, s62_132, s62_135, s62_138, s62_139, s62_142, s62_143, s62_146, s62_148, s62_151, s62_154, s62_155, s62_158, s62_159, s62_162, s62_164, s62_167, s62_170, s62_171, s62_174, s62_175, s62_178, s62_180, s62_183, s62_186, s62_189, s62_192, List.cons_append, List.nil_append, if_true, if_false, true_and, and_true, and_self, eq_self, true_or, or_true, false_or, or_false, tIn, tLe, fLe, tLt, fLt, tEq, fEq, isL, row119.1, row111.1, c30 row111 kC, y2C, tB]
              refine radd_ok row119 kC wC (by simp; omega) _ (fun σD kD wD fD => ?_)
              have FF := FrW_tr (FrW_tr (FrW_tr fA fB) fC) fD
              simp (disch := omega) only [s62_0, s62_1, s62_4, s62_7, s62_8, s62_11, s62_12, s62_15, s62_16, s62_19, s62_20, s62_23, s62_24, s62_26, s62_29, s62_32, s62_33, s62_36, s62_39, s62_40, s62_43, s62_44, s62_45, s62_48, s62_51, s62_54, s62_56, s62_57, s62_58, s62_61, s62_64, s62_67, s62_69, s62_71, s62_73, s62_76, s62_79, s62_80, s62_82, s62_85, s62_88, s62_89, s62_92, s62_94, s62_96, s62_99, s62_102, s62_103, s62_106, s62_108, s62_110, s62_113, s62_114, s62_116, s62_119, s62_122, s62_123, s62_126, s62_127, s62_130, s62_132, s62_135, s62_138, s62_139, s62_142, s62_143, s62_146, s62_148, s62_151, s62_154, s62_155, s62_158, s62_159, s62_162, s62_164, s62_167, s62_170, s62_171, s62_174, s62_175, s62_178, s62_180, s62_183, s62_186, s62_189, s62_192, List.cons_append, List.nil_append, if_true, if_false, true_and, and_true, and_self, eq_self, true_or, or_true, false_or, or_false, tIn, tLe, fLe, tLt, fLt, tEq, fEq, isL]
              refine ih (c + 1) ((ta, tb) :: (fa, fb) :: P) (uPd o3 B A) ρB σD _ _ (by omega) (by simp; omega) (by simp; omega) (fun q hq => ?_) kD ((FrW_rv FF row119 row113 (by omega)).trans w9) (by rw [wD]; simp [opn]) LB1 I4 C4 (fun a p1 p2 p3 p4 => (FF a p3 p4).trans (Y9 a p1 p2 p3 p4))
              rcases List.mem_cons.mp hq with rfl | hq
              · exact ⟨ea4, eb4⟩
              rcases List.mem_cons.mp hq with rfl | hq
              · exact ⟨ea3, eb3⟩
              exact g4' q hq
  refine lp 1442 0 [(k, l)] o ρ σ3 _ _ (by omega) (by simp; omega) (by simp; omega) (fun q hq => ?_) k3 ((FrW_rv F3 row119 row113 (by omega)).trans h3) (by rw [w3]; simp [opn]) hU (fun v hv => ?_) (fun i r hi hf hr => ?_) Y3
  · rcases List.mem_singleton.mp hq with rfl; exact ⟨hkk, hll⟩
  · rw [prV_cons]
    exact ⟨fun h => ⟨h.1, h.2, fun q hq => by cases hq⟩, fun h => ⟨h.1, h.2.1⟩⟩
  · obtain ⟨c1, c2⟩ := hC i r hi hf hr
    exact ⟨c1, fun v q1 q2 => c2 v q1 (fun q hq => by cases hq)⟩
end MNT
