/-! Sorter: write -/
def KWI (σ0 σ : aSg) (n : Nat) (fr to : Nat → Int) (o ρ : Nat → Nat) (L : List Nat) (W out : List Int) : Prop :=
  RK σ ∧ rv σ 109 = mpI n fr ∧ rv σ 111 = mpI n to ∧ rv σ 113 = mpN n o ∧ UFr n o ρ ∧ rv σ 119 = W.reverse ∧ rv σ 121 = mpI n (mkL L) ∧ rv σ 123 = out ∧ σ 108 9 = (L.length : Int) ∧ ∀ a, a < 108 ∨ 129 < a → σ a = σ0 a
section KWC
variable {σ σ0 σ' : aSg} {V : Nat → Ty} {n N E i r : Nat} {A W W' out out' : List Int} {L : List Nat} {fr to : Nat → Int} {o o' ρ : Nat → Nat} {x : Int} {T : List Int} {t : Nat}
theorem kd108 : kdS 108 ≠ 3 := by decide +kernel
theorem row_ne108 (h : isRow r) : r ≠ 108 ∧ r + 1 ≠ 108 := by
  constructor
  · intro e; exact kd108 (by rw [← e]; exact row_kd h)
  · intro e
    have h1 := h.2.2.1
    rw [e] at h1
    exact absurd h1 (by decide +kernel)
theorem rv108 {v : Int} {j : Nat} (h : isRow r) : rv (aup σ 108 j v) r = rv σ r := rv_aup (row_ne108 h).1 (row_ne108 h).2
theorem KWI_o (h : KWI σ0 σ n fr to o ρ L W out) (hk : RK σ') (hv : rv σ' 113 = mpN n o') (hU : UFr n o' ρ) (hf : FrW 113 σ σ') : KWI σ0 σ' n fr to o' ρ L W out := by
  obtain ⟨h1, h2, h3, h4, h5, h6, h7, h8, h9, h10⟩ := h
  exact ⟨hk, (FrW_rv hf row113 row109 (by omega)).trans h2, (FrW_rv hf row113 row111 (by omega)).trans h3, hv, hU, (FrW_rv hf row113 row119 (by omega)).trans h6, (FrW_rv hf row113 row121 (by omega)).trans h7, (FrW_rv hf row113 row123 (by omega)).trans h8, by rw [hf 108 (by omega) (by omega)]; exact h9, fun a ha => (hf a (by omega) (by omega)).trans (h10 a ha)⟩
theorem KWI_s (h : KWI σ0 σ n fr to o ρ L W out) (hk : RK σ') (hv : rv σ' 119 = W'.reverse) (hf : FrW 119 σ σ') : KWI σ0 σ' n fr to o ρ L W' out := by
  obtain ⟨h1, h2, h3, h4, h5, h6, h7, h8, h9, h10⟩ := h
  exact ⟨hk, (FrW_rv hf row119 row109 (by omega)).trans h2, (FrW_rv hf row119 row111 (by omega)).trans h3, (FrW_rv hf row119 row113 (by omega)).trans h4, h5, hv, (FrW_rv hf row119 row121 (by omega)).trans h7, (FrW_rv hf row119 row123 (by omega)).trans h8, by rw [hf 108 (by omega) (by omega)]; exact h9, fun a ha => (hf a (by omega) (by omega)).trans (h10 a ha)⟩
theorem KWI_u (h : KWI σ0 σ n fr to o ρ L W out) (hk : RK σ') (hv : rv σ' 123 = out') (hf : FrW 123 σ σ') : KWI σ0 σ' n fr to o ρ L W out' := by
  obtain ⟨h1, h2, h3, h4, h5, h6, h7, h8, h9, h10⟩ := h
  exact ⟨hk, (FrW_rv hf row123 row109 (by omega)).trans h2, (FrW_rv hf row123 row111 (by omega)).trans h3, (FrW_rv hf row123 row113 (by omega)).trans h4, h5, (FrW_rv hf row123 row119 (by omega)).trans h6, (FrW_rv hf row123 row121 (by omega)).trans h7, hv, by rw [hf 108 (by omega) (by omega)]; exact h9, fun a ha => (hf a (by omega) (by omega)).trans (h10 a ha)⟩
theorem wr53 (h : KWI σ0 σ n fr to o ρ L W out) (hr : r < n) (hL : L.length ≤ 1000) (Q : List AV → aSg → Prop) (hq0 : r ∈ L → Q [.inl (mkL L r)] σ) (hq1 : r ∉ L → ∀ σ', KWI σ0 σ' n fr to o ρ (L ++ [r]) W out → Q [.inl (97 + (L.length : Int))] σ') : CA m53 [.inr (.inl 108), .inl (r : Int)] σ Q := by
  rw [e53]
  obtain ⟨h1, h2, h3, h4, h5, h6, h7, h8, h9, h10⟩ := h
  have e1 := mpI_at (f := mkL L) hr
  by_cases g : r ∈ L
  · have g2 := (mkL_in g).2
    simp (disch := omega) only [s53_0, s53_1, s53_4, s53_5, s53_8, s53_11, s53_12, s53_15, s53_16, s53_18, s53_19, s53_22, s53_23, s53_26, s53_27, s53_28, s53_31, s53_32, s53_33, s53_36, s53_37, s53_40, s53_41, s53_44, List.cons_append, List.nil_append, if_true, if_false, true_and, and_true, and_self, eq_self, true_or, or_true, false_or, or_false, tIn, tLe, fLe, tLt, fLt, tEq, fEq, isL, row121.1, c30 row121 h1, h7, e1]
    exact hq0 g
  · have g2 := mkL_out g
    rw [g2] at e1
    simp (disch := omega) only [s53_0, s53_1, s53_4, s53_5, s53_8, s53_11, s53_12, s53_15, s53_16, s53_18, s53_19, s53_22, s53_23, s53_26, s53_27, s53_28, s53_31, s53_32, s53_33, s53_36, s53_37, s53_40, s53_41, s53_44, List.cons_append, List.nil_append, if_true, if_false, true_and, and_true, and_self, eq_self, true_or, or_true, false_or, or_false, tIn, tLe, fLe, tLt, fLt, tEq, fEq, isL, row121.1, c30 row121 h1, h7, e1, h9]
    refine rset_ok row121 h1 h7 _ (fun σ1 k1 w1 f1 => ?_)
    rw [mpI_set hr, ← mkL_new g] at w1
    have n9 : σ1 108 9 = (L.length : Int) := by rw [f1 108 (by omega) (by omega)]; exact h9
    have k2 : RK (aup σ1 108 9 ((L.length : Int) + 1)) := RK_aup k1 kd108
    have w2 : rv (aup σ1 108 9 ((L.length : Int) + 1)) 121 = mpI n (mkL (L ++ [r])) := (rv108 row121).trans w1
    have e2 := mpI_at (f := mkL (L ++ [r])) hr
    have e3 : mkL (L ++ [r]) r = 97 + (L.length : Int) := by rw [mkL_new g]; unfold upI; rw [if_pos rfl]
    rw [e3] at e2
    simp (disch := omega) only [s53_0, s53_1, s53_4, s53_5, s53_8, s53_11, s53_12, s53_15, s53_16, s53_18, s53_19, s53_22, s53_23, s53_26, s53_27, s53_28, s53_31, s53_32, s53_33, s53_36, s53_37, s53_40, s53_41, s53_44, List.cons_append, List.nil_append, if_true, if_false, true_and, and_true, and_self, eq_self, true_or, or_true, false_or, or_false, tIn, tLe, fLe, tLt, fLt, tEq, fEq, isL, row121.1, n9, c30 row121 k2, w2, e2]
    exact hq1 g _ ⟨k2, by rw [rv108 row109, FrW_rv f1 row121 row109 (by omega)]; exact h2, by rw [rv108 row111, FrW_rv f1 row121 row111 (by omega)]; exact h3, by rw [rv108 row113, FrW_rv f1 row121 row113 (by omega)]; exact h4, h5, by rw [rv108 row119, FrW_rv f1 row121 row119 (by omega)]; exact h6, w2, by rw [rv108 row123, FrW_rv f1 row121 row123 (by omega)]; exact h8, by rw [aup_s]; simp, fun a ha => by rw [aup_f (by omega), f1 a (by omega) (by omega)]; exact h10 a ha⟩
theorem KSh_eq (hS : KSh n fr to o V) (hE : UEq n o o') : KSh n fr to o' V := fun i r hi hr => hS i r hi ((hE.2.2 i r).mpr hr)
theorem wr52 (h : KWI σ0 σ n fr to o ρ L W out) (hw : WkI V n A N ((i : Int) :: W) out L E) (hK : KGr n fr to) (hS : KSh n fr to o V) (hn : n ≤ 720) (hi : i < n) (hr : Ru o i r) (hr2 : r < n) (ho : out.length ≤ 200) (hL : L.length ≤ 1000) (Q : List AV → aSg → Prop) (hq : ∀ (σ' : aSg) (o' : Nat → Nat) (W' out' : List Int) (L' : List Nat) (E' : Nat), KWI σ0 σ' n fr to o' ρ L' W' out' → WkI V n A N W' out' L' E' → KSh n fr to o' V → out'.length + E' = out.length + E + 1 → Q [] σ') : CA m52 [.inr (.inl 108), .inl (r : Int)] σ Q := by
  rw [e52]
  have hk := h.1
  have c60' := fun K => c60 (K := K) hk h.2.1 hr2
  have bd := wk_bd hw ho
  have c19 := cp119
  have c23 := cp123
  simp only [List.length_cons] at bd
  obtain ⟨s1, s2⟩ := hS i r hi hr
  by_cases g : fr r = -1
  · rw [if_pos g] at c60'
    simp (disch := omega) only [s52_0, s52_1, s52_2, s52_5, s52_8, s52_9, s52_12, s52_13, s52_14, s52_17, s52_20, s52_21, s52_22, s52_23, s52_24, s52_27, s52_28, s52_31, s52_34, s52_37, s52_40, s52_41, s52_44, s52_45, s52_46, s52_47, s52_50, s52_51, s52_54, s52_55, s52_58, s52_61, s52_62, s52_65, s52_67, s52_70, s52_71, s52_74, s52_75, s52_78, s52_80, s52_83, s52_84, s52_87, s52_88, s52_91, s52_92, s52_95, s52_98, s52_99, s52_102, s52_103, s52_106, s52_108, s52_111, List.cons_append, List.nil_append, if_true, if_false, true_and, and_true, and_self, eq_self, true_or, or_true, false_or, or_false, tIn, tLe, fLe, tLt, fLt, tEq, fEq, isL, c60', row123.1]
    refine wr53 h hr2 hL _ (fun hm => ?_) (fun hm σ1 h1 => ?_)
    · simp (disch := omega) only [s52_0, s52_1, s52_2, s52_5, s52_8, s52_9, s52_12, s52_13, s52_14, s52_17, s52_20, s52_21, s52_22, s52_23, s52_24, s52_27, s52_28, s52_31, s52_34, s52_37, s52_40, s52_41, s52_44, s52_45, s52_46, s52_47, s52_50, s52_51, s52_54, s52_55, s52_58, s52_61, s52_62, s52_65, s52_67, s52_70, s52_71, s52_74, s52_75, s52_78, s52_80, s52_83, s52_84, s52_87, s52_88, s52_91, s52_92, s52_95, s52_98, s52_99, s52_102, s52_103, s52_106, s52_108, s52_111, List.cons_append, List.nil_append, if_true, if_false, true_and, and_true, and_self, eq_self, true_or, or_true, false_or, or_false, tIn, tLe, fLe, tLt, fLt, tEq, fEq, isL, row123.1]
      refine radd_ok row123 hk h.2.2.2.2.2.2.2.1 (by omega) _ (fun σ1 k1 w1 f1 => ?_)
      simp (disch := omega) only [s52_0, s52_1, s52_2, s52_5, s52_8, s52_9, s52_12, s52_13, s52_14, s52_17, s52_20, s52_21, s52_22, s52_23, s52_24, s52_27, s52_28, s52_31, s52_34, s52_37, s52_40, s52_41, s52_44, s52_45, s52_46, s52_47, s52_50, s52_51, s52_54, s52_55, s52_58, s52_61, s52_62, s52_65, s52_67, s52_70, s52_71, s52_74, s52_75, s52_78, s52_80, s52_83, s52_84, s52_87, s52_88, s52_91, s52_92, s52_95, s52_98, s52_99, s52_102, s52_103, s52_106, s52_108, s52_111, List.cons_append, List.nil_append, if_true, if_false, true_and, and_true, and_self, eq_self, true_or, or_true, false_or, or_false, tIn, tLe, fLe, tLt, fLt, tEq, fEq, isL]
      exact hq σ1 o W _ L E (KWI_u h k1 w1 f1) (wk_old hw (s1 g) hm) hS (by rw [List.length_append, List.length_singleton]; omega)
    · simp (disch := omega) only [s52_0, s52_1, s52_2, s52_5, s52_8, s52_9, s52_12, s52_13, s52_14, s52_17, s52_20, s52_21, s52_22, s52_23, s52_24, s52_27, s52_28, s52_31, s52_34, s52_37, s52_40, s52_41, s52_44, s52_45, s52_46, s52_47, s52_50, s52_51, s52_54, s52_55, s52_58, s52_61, s52_62, s52_65, s52_67, s52_70, s52_71, s52_74, s52_75, s52_78, s52_80, s52_83, s52_84, s52_87, s52_88, s52_91, s52_92, s52_95, s52_98, s52_99, s52_102, s52_103, s52_106, s52_108, s52_111, List.cons_append, List.nil_append, if_true, if_false, true_and, and_true, and_self, eq_self, true_or, or_true, false_or, or_false, tIn, tLe, fLe, tLt, fLt, tEq, fEq, isL, row123.1]
      refine radd_ok row123 h1.1 h1.2.2.2.2.2.2.2.1 (by omega) _ (fun σ2 k2 w2 f2 => ?_)
      simp (disch := omega) only [s52_0, s52_1, s52_2, s52_5, s52_8, s52_9, s52_12, s52_13, s52_14, s52_17, s52_20, s52_21, s52_22, s52_23, s52_24, s52_27, s52_28, s52_31, s52_34, s52_37, s52_40, s52_41, s52_44, s52_45, s52_46, s52_47, s52_50, s52_51, s52_54, s52_55, s52_58, s52_61, s52_62, s52_65, s52_67, s52_70, s52_71, s52_74, s52_75, s52_78, s52_80, s52_83, s52_84, s52_87, s52_88, s52_91, s52_92, s52_95, s52_98, s52_99, s52_102, s52_103, s52_106, s52_108, s52_111, List.cons_append, List.nil_append, if_true, if_false, true_and, and_true, and_self, eq_self, true_or, or_true, false_or, or_false, tIn, tLe, fLe, tLt, fLt, tEq, fEq, isL]
      exact hq σ2 o W _ _ E (KWI_u h1 k2 w2 f2) (wk_new hw (s1 g) hm) hS (by rw [List.length_append, List.length_singleton]; omega)
  · rw [if_neg g] at c60'
    rcases hK r hr2 with z | ⟨a, b, q1, q2, q3, q4⟩
    · exact absurd z g
    have e1 := mpI_at (f := fr) hr2
    have e2 := mpI_at (f := to) hr2
    rw [q1] at e1
    rw [q2] at e2
    have sv := s2 g
    rw [q1, q2, Int.toNat_natCast, Int.toNat_natCast] at sv
    obtain ⟨wa1, wa2⟩ := wk_arr hw sv q3 q4
    simp (disch := omega) only [s52_0, s52_1, s52_2, s52_5, s52_8, s52_9, s52_12, s52_13, s52_14, s52_17, s52_20, s52_21, s52_22, s52_23, s52_24, s52_27, s52_28, s52_31, s52_34, s52_37, s52_40, s52_41, s52_44, s52_45, s52_46, s52_47, s52_50, s52_51, s52_54, s52_55, s52_58, s52_61, s52_62, s52_65, s52_67, s52_70, s52_71, s52_74, s52_75, s52_78, s52_80, s52_83, s52_84, s52_87, s52_88, s52_91, s52_92, s52_95, s52_98, s52_99, s52_102, s52_103, s52_106, s52_108, s52_111, List.cons_append, List.nil_append, if_true, if_false, true_and, and_true, and_self, eq_self, true_or, or_true, false_or, or_false, tIn, tLe, fLe, tLt, fLt, tEq, fEq, isL, c60', row109.1, c30 row109 hk, h.2.1, e1]
    refine wr61 hk h.2.2.2.1 h.2.2.2.2.1 hn q3 _ (fun σ1 o1 x k1 v1 U1 E1 R1 x1 f1 => ?_)
    have h1 := KWI_o h k1 v1 U1 f1
    have S1 := KSh_eq hS E1
    have op := sh_op S1 q3 R1
    have c60x := fun K => c60 (K := K) k1 h1.2.1 x1
    have ls : ∀ l : List Int, l.reverse.length = l.length := fun l => List.length_reverse
    by_cases g2 : fr x = -1
    · rw [if_pos g2] at c60x
      have nop : isOp (V a) = false := by
        cases z : isOp (V a) with
        | false => rfl
        | true => exact absurd g2 (op.mp z)
      simp (disch := omega) only [s52_0, s52_1, s52_2, s52_5, s52_8, s52_9, s52_12, s52_13, s52_14, s52_17, s52_20, s52_21, s52_22, s52_23, s52_24, s52_27, s52_28, s52_31, s52_34, s52_37, s52_40, s52_41, s52_44, s52_45, s52_46, s52_47, s52_50, s52_51, s52_54, s52_55, s52_58, s52_61, s52_62, s52_65, s52_67, s52_70, s52_71, s52_74, s52_75, s52_78, s52_80, s52_83, s52_84, s52_87, s52_88, s52_91, s52_92, s52_95, s52_98, s52_99, s52_102, s52_103, s52_106, s52_108, s52_111, List.cons_append, List.nil_append, if_true, if_false, true_and, and_true, and_self, eq_self, true_or, or_true, false_or, or_false, tIn, tLe, fLe, tLt, fLt, tEq, fEq, isL, c60x, row111.1, row119.1, c30 row111 k1, h1.2.2.1, e2]
      refine radd_ok row119 k1 h1.2.2.2.2.2.1 (by rw [ls]; omega) _ (fun σ2 k2 w2 f2 => ?_)
      have h2 := KWI_s (W' := (b : Int) :: W) h1 k2 (by rw [w2]; simp) f2
      simp (disch := omega) only [s52_0, s52_1, s52_2, s52_5, s52_8, s52_9, s52_12, s52_13, s52_14, s52_17, s52_20, s52_21, s52_22, s52_23, s52_24, s52_27, s52_28, s52_31, s52_34, s52_37, s52_40, s52_41, s52_44, s52_45, s52_46, s52_47, s52_50, s52_51, s52_54, s52_55, s52_58, s52_61, s52_62, s52_65, s52_67, s52_70, s52_71, s52_74, s52_75, s52_78, s52_80, s52_83, s52_84, s52_87, s52_88, s52_91, s52_92, s52_95, s52_98, s52_99, s52_102, s52_103, s52_106, s52_108, s52_111, List.cons_append, List.nil_append, if_true, if_false, true_and, and_true, and_self, eq_self, true_or, or_true, false_or, or_false, tIn, tLe, fLe, tLt, fLt, tEq, fEq, isL, row119.1]
      refine radd_ok row119 k2 h2.2.2.2.2.2.1 (by rw [ls, List.length_cons]; omega) _ (fun σ3 k3 w3 f3 => ?_)
      have h3 := KWI_s (W' := -62 :: (b : Int) :: W) h2 k3 (by rw [w3]; simp) f3
      simp (disch := omega) only [s52_0, s52_1, s52_2, s52_5, s52_8, s52_9, s52_12, s52_13, s52_14, s52_17, s52_20, s52_21, s52_22, s52_23, s52_24, s52_27, s52_28, s52_31, s52_34, s52_37, s52_40, s52_41, s52_44, s52_45, s52_46, s52_47, s52_50, s52_51, s52_54, s52_55, s52_58, s52_61, s52_62, s52_65, s52_67, s52_70, s52_71, s52_74, s52_75, s52_78, s52_80, s52_83, s52_84, s52_87, s52_88, s52_91, s52_92, s52_95, s52_98, s52_99, s52_102, s52_103, s52_106, s52_108, s52_111, List.cons_append, List.nil_append, if_true, if_false, true_and, and_true, and_self, eq_self, true_or, or_true, false_or, or_false, tIn, tLe, fLe, tLt, fLt, tEq, fEq, isL, row119.1, row109.1, c30 row109 k3, h3.2.1, e1]
      refine radd_ok row119 k3 h3.2.2.2.2.2.1 (by rw [ls, List.length_cons, List.length_cons]; omega) _ (fun σ4 k4 w4 f4 => ?_)
      have h4 := KWI_s (W' := (a : Int) :: -62 :: (b : Int) :: W) h3 k4 (by rw [w4]; simp) f4
      simp (disch := omega) only [s52_0, s52_1, s52_2, s52_5, s52_8, s52_9, s52_12, s52_13, s52_14, s52_17, s52_20, s52_21, s52_22, s52_23, s52_24, s52_27, s52_28, s52_31, s52_34, s52_37, s52_40, s52_41, s52_44, s52_45, s52_46, s52_47, s52_50, s52_51, s52_54, s52_55, s52_58, s52_61, s52_62, s52_65, s52_67, s52_70, s52_71, s52_74, s52_75, s52_78, s52_80, s52_83, s52_84, s52_87, s52_88, s52_91, s52_92, s52_95, s52_98, s52_99, s52_102, s52_103, s52_106, s52_108, s52_111, List.cons_append, List.nil_append, if_true, if_false, true_and, and_true, and_self, eq_self, true_or, or_true, false_or, or_false, tIn, tLe, fLe, tLt, fLt, tEq, fEq, isL]
      exact hq σ4 o1 _ out L (E + 1) h4 (wa2 nop) S1 (by omega)
    · rw [if_neg g2] at c60x
      simp (disch := omega) only [s52_0, s52_1, s52_2, s52_5, s52_8, s52_9, s52_12, s52_13, s52_14, s52_17, s52_20, s52_21, s52_22, s52_23, s52_24, s52_27, s52_28, s52_31, s52_34, s52_37, s52_40, s52_41, s52_44, s52_45, s52_46, s52_47, s52_50, s52_51, s52_54, s52_55, s52_58, s52_61, s52_62, s52_65, s52_67, s52_70, s52_71, s52_74, s52_75, s52_78, s52_80, s52_83, s52_84, s52_87, s52_88, s52_91, s52_92, s52_95, s52_98, s52_99, s52_102, s52_103, s52_106, s52_108, s52_111, List.cons_append, List.nil_append, if_true, if_false, true_and, and_true, and_self, eq_self, true_or, or_true, false_or, or_false, tIn, tLe, fLe, tLt, fLt, tEq, fEq, isL, c60x, row111.1, row119.1, c30 row111 k1, h1.2.2.1, e2]
      refine radd_ok row119 k1 h1.2.2.2.2.2.1 (by rw [ls]; omega) _ (fun σ2 k2 w2 f2 => ?_)
      have h2 := KWI_s (W' := (b : Int) :: W) h1 k2 (by rw [w2]; simp) f2
      simp (disch := omega) only [s52_0, s52_1, s52_2, s52_5, s52_8, s52_9, s52_12, s52_13, s52_14, s52_17, s52_20, s52_21, s52_22, s52_23, s52_24, s52_27, s52_28, s52_31, s52_34, s52_37, s52_40, s52_41, s52_44, s52_45, s52_46, s52_47, s52_50, s52_51, s52_54, s52_55, s52_58, s52_61, s52_62, s52_65, s52_67, s52_70, s52_71, s52_74, s52_75, s52_78, s52_80, s52_83, s52_84, s52_87, s52_88, s52_91, s52_92, s52_95, s52_98, s52_99, s52_102, s52_103, s52_106, s52_108, s52_111, List.cons_append, List.nil_append, if_true, if_false, true_and, and_true, and_self, eq_self, true_or, or_true, false_or, or_false, tIn, tLe, fLe, tLt, fLt, tEq, fEq, isL, row119.1]
      refine radd_ok row119 k2 h2.2.2.2.2.2.1 (by rw [ls, List.length_cons]; omega) _ (fun σ3 k3 w3 f3 => ?_)
      have h3 := KWI_s (W' := -62 :: (b : Int) :: W) h2 k3 (by rw [w3]; simp) f3
      simp (disch := omega) only [s52_0, s52_1, s52_2, s52_5, s52_8, s52_9, s52_12, s52_13, s52_14, s52_17, s52_20, s52_21, s52_22, s52_23, s52_24, s52_27, s52_28, s52_31, s52_34, s52_37, s52_40, s52_41, s52_44, s52_45, s52_46, s52_47, s52_50, s52_51, s52_54, s52_55, s52_58, s52_61, s52_62, s52_65, s52_67, s52_70, s52_71, s52_74, s52_75, s52_78, s52_80, s52_83, s52_84, s52_87, s52_88, s52_91, s52_92, s52_95, s52_98, s52_99, s52_102, s52_103, s52_106, s52_108, s52_111, List.cons_append, List.nil_append, if_true, if_false, true_and, and_true, and_self, eq_self, true_or, or_true, false_or, or_false, tIn, tLe, fLe, tLt, fLt, tEq, fEq, isL, row119.1]
      refine radd_ok row119 k3 h3.2.2.2.2.2.1 (by rw [ls, List.length_cons, List.length_cons]; omega) _ (fun σ4 k4 w4 f4 => ?_)
      have h4 := KWI_s (W' := -41 :: -62 :: (b : Int) :: W) h3 k4 (by rw [w4]; simp) f4
      simp (disch := omega) only [s52_0, s52_1, s52_2, s52_5, s52_8, s52_9, s52_12, s52_13, s52_14, s52_17, s52_20, s52_21, s52_22, s52_23, s52_24, s52_27, s52_28, s52_31, s52_34, s52_37, s52_40, s52_41, s52_44, s52_45, s52_46, s52_47, s52_50, s52_51, s52_54, s52_55, s52_58, s52_61, s52_62, s52_65, s52_67, s52_70, s52_71, s52_74, s52_75, s52_78, s52_80, s52_83, s52_84, s52_87, s52_88, s52_91, s52_92, s52_95, s52_98, s52_99, s52_102, s52_103, s52_106, s52_108, s52_111, List.cons_append, List.nil_append, if_true, if_false, true_and, and_true, and_self, eq_self, true_or, or_true, false_or, or_false, tIn, tLe, fLe, tLt, fLt, tEq, fEq, isL, row119.1, row109.1, c30 row109 k4, h4.2.1, e1]
      refine radd_ok row119 k4 h4.2.2.2.2.2.1 (by rw [ls, List.length_cons, List.length_cons, List.length_cons]; omega) _ (fun σ5 k5 w5 f5 => ?_)
      have h5 := KWI_s (W' := (a : Int) :: -41 :: -62 :: (b : Int) :: W) h4 k5 (by rw [w5]; simp) f5
      simp (disch := omega) only [s52_0, s52_1, s52_2, s52_5, s52_8, s52_9, s52_12, s52_13, s52_14, s52_17, s52_20, s52_21, s52_22, s52_23, s52_24, s52_27, s52_28, s52_31, s52_34, s52_37, s52_40, s52_41, s52_44, s52_45, s52_46, s52_47, s52_50, s52_51, s52_54, s52_55, s52_58, s52_61, s52_62, s52_65, s52_67, s52_70, s52_71, s52_74, s52_75, s52_78, s52_80, s52_83, s52_84, s52_87, s52_88, s52_91, s52_92, s52_95, s52_98, s52_99, s52_102, s52_103, s52_106, s52_108, s52_111, List.cons_append, List.nil_append, if_true, if_false, true_and, and_true, and_self, eq_self, true_or, or_true, false_or, or_false, tIn, tLe, fLe, tLt, fLt, tEq, fEq, isL, row119.1]
      refine radd_ok row119 k5 h5.2.2.2.2.2.1 (by rw [ls, List.length_cons, List.length_cons, List.length_cons, List.length_cons]; omega) _ (fun σ6 k6 w6 f6 => ?_)
      have h6 := KWI_s (W' := -40 :: (a : Int) :: -41 :: -62 :: (b : Int) :: W) h5 k6 (by rw [w6]; simp) f6
      simp (disch := omega) only [s52_0, s52_1, s52_2, s52_5, s52_8, s52_9, s52_12, s52_13, s52_14, s52_17, s52_20, s52_21, s52_22, s52_23, s52_24, s52_27, s52_28, s52_31, s52_34, s52_37, s52_40, s52_41, s52_44, s52_45, s52_46, s52_47, s52_50, s52_51, s52_54, s52_55, s52_58, s52_61, s52_62, s52_65, s52_67, s52_70, s52_71, s52_74, s52_75, s52_78, s52_80, s52_83, s52_84, s52_87, s52_88, s52_91, s52_92, s52_95, s52_98, s52_99, s52_102, s52_103, s52_106, s52_108, s52_111, List.cons_append, List.nil_append, if_true, if_false, true_and, and_true, and_self, eq_self, true_or, or_true, false_or, or_false, tIn, tLe, fLe, tLt, fLt, tEq, fEq, isL]
      exact hq σ6 o1 _ out L (E + 1) h6 (wa1 (op.mpr g2)) S1 (by omega)
/-- the signs of the kind of T, if there are not too many -/
theorem wr51 (hk : RK σ) (hv : rv σ t = T) (ht : isRow t) (ht2 : t < 53) (hT : isT T) (hkT : tks T) (hl : T.length ≤ 120) (Q : List AV → aSg → Prop) (hq0 : ¬ hasK T → ∀ σ', RK σ' → (∀ a, a < 108 ∨ 129 < a → σ' a = σ a) → rv σ' 123 = [] → Q [.inl 1] σ') (hq1 : hasK T → ((kW T).length ≤ 200 ∧ kN T ≤ 26) → ∀ σ', RK σ' → (∀ a, a < 108 ∨ 129 < a → σ' a = σ a) → rv σ' 123 = kW T → Q [.inl 1] σ') (hq2 : hasK T → ¬ ((kW T).length ≤ 200 ∧ kN T ≤ 26) → ∀ σ', RK σ' → (∀ a, a < 108 ∨ 129 < a → σ' a = σ a) → Q [.inl 0] σ') : CA m51 [.inr (.inl 108), .inr (.inl t)] σ Q := by
  rw [e51]
  have c19 := cp119
  have c21 := cp121
  have c23 := cp123
  simp (disch := omega) only [s51_0, s51_1, s51_4, s51_7, s51_8, s51_9, s51_12, s51_15, s51_16, s51_17, s51_18, s51_19, s51_22, s51_23, s51_26, s51_27, s51_30, s51_33, s51_34, s51_37, s51_38, s51_41, s51_44, s51_45, s51_48, s51_49, s51_52, s51_53, s51_56, s51_59, s51_60, s51_62, s51_65, s51_68, s51_69, s51_72, s51_75, s51_78, s51_79, s51_82, s51_85, s51_86, s51_87, s51_90, s51_91, s51_94, s51_95, s51_96, s51_99, s51_102, s51_103, s51_104, s51_105, s51_108, s51_111, s51_112, s51_115, s51_118, s51_121, s51_124, s51_125, s51_128, s51_130, s51_133, s51_134, s51_135, s51_138, s51_141, s51_142, List.cons_append, List.nil_append, if_true, if_false, true_and, and_true, and_self, eq_self, true_or, or_true, false_or, or_false, tIn, tLe, fLe, tLt, fLt, tEq, fEq, isL, row123.1]
  refine rclr_ok row123 hk _ (fun σ1 k1 w1 f1 => ?_)
  simp (disch := omega) only [s51_0, s51_1, s51_4, s51_7, s51_8, s51_9, s51_12, s51_15, s51_16, s51_17, s51_18, s51_19, s51_22, s51_23, s51_26, s51_27, s51_30, s51_33, s51_34, s51_37, s51_38, s51_41, s51_44, s51_45, s51_48, s51_49, s51_52, s51_53, s51_56, s51_59, s51_60, s51_62, s51_65, s51_68, s51_69, s51_72, s51_75, s51_78, s51_79, s51_82, s51_85, s51_86, s51_87, s51_90, s51_91, s51_94, s51_95, s51_96, s51_99, s51_102, s51_103, s51_104, s51_105, s51_108, s51_111, s51_112, s51_115, s51_118, s51_121, s51_124, s51_125, s51_128, s51_130, s51_133, s51_134, s51_135, s51_138, s51_141, s51_142, List.cons_append, List.nil_append, if_true, if_false, true_and, and_true, and_self, eq_self, true_or, or_true, false_or, or_false, tIn, tLe, fLe, tLt, fLt, tEq, fEq, isL]
  refine wr50 k1 ((FrW_rv f1 row123 ht (by omega)).trans hv) ht ht2 hT hkT hl _ (fun hno σ2 k2 f2 => ?_) (fun σ2 n fr to o ρ V κ k2 v9 v11 v13 hK hU hS hκ κn hp hn f2 => ?_)
  · simp (disch := omega) only [s51_0, s51_1, s51_4, s51_7, s51_8, s51_9, s51_12, s51_15, s51_16, s51_17, s51_18, s51_19, s51_22, s51_23, s51_26, s51_27, s51_30, s51_33, s51_34, s51_37, s51_38, s51_41, s51_44, s51_45, s51_48, s51_49, s51_52, s51_53, s51_56, s51_59, s51_60, s51_62, s51_65, s51_68, s51_69, s51_72, s51_75, s51_78, s51_79, s51_82, s51_85, s51_86, s51_87, s51_90, s51_91, s51_94, s51_95, s51_96, s51_99, s51_102, s51_103, s51_104, s51_105, s51_108, s51_111, s51_112, s51_115, s51_118, s51_121, s51_124, s51_125, s51_128, s51_130, s51_133, s51_134, s51_135, s51_138, s51_141, s51_142, List.cons_append, List.nil_append, if_true, if_false, true_and, and_true, and_self, eq_self, true_or, or_true, false_or, or_false, tIn, tLe, fLe, tLt, fLt, tEq, fEq, isL]
    refine hq0 hno σ2 k2 (fun a ha => ?_) ?_
    · rw [f2 a (by omega)]; exact f1 a (by omega) (by omega)
    · rw [rv_same (f2 123 (by omega)) (f2 124 (by omega))]; exact w1
  have hh : hasK T := by obtain ⟨⟨β, γ, d⟩, -⟩ := hp; exact ⟨β, γ, _, d⟩
  obtain ⟨eA, eN⟩ := prK_W hp
  have k3 : RK (aup σ2 108 9 0) := RK_aup k2 kd108
  have e0 : ((mpN n o).length : Int) = (n : Int) := by rw [mpN_len]
  have eR : List.replicate (min n (cp 121)) (0 : Int) = mpI n (mkL []) := by
    rw [Nat.min_eq_left (by omega), mkL_nil]
    unfold mpI
    apply List.ext_getElem?
    intro i
    rw [List.getElem?_replicate, List.getElem?_map]
    by_cases hi : i < n
    · rw [if_pos hi, List.getElem?_range hi]; rfl
    · rw [if_neg hi, List.getElem?_eq_none (by simpa using hi)]; rfl
  have v13' : rv (aup σ2 108 9 0) 113 = mpN n o := (rv108 row113).trans v13
  simp (disch := omega) only [s51_0, s51_1, s51_4, s51_7, s51_8, s51_9, s51_12, s51_15, s51_16, s51_17, s51_18, s51_19, s51_22, s51_23, s51_26, s51_27, s51_30, s51_33, s51_34, s51_37, s51_38, s51_41, s51_44, s51_45, s51_48, s51_49, s51_52, s51_53, s51_56, s51_59, s51_60, s51_62, s51_65, s51_68, s51_69, s51_72, s51_75, s51_78, s51_79, s51_82, s51_85, s51_86, s51_87, s51_90, s51_91, s51_94, s51_95, s51_96, s51_99, s51_102, s51_103, s51_104, s51_105, s51_108, s51_111, s51_112, s51_115, s51_118, s51_121, s51_124, s51_125, s51_128, s51_130, s51_133, s51_134, s51_135, s51_138, s51_141, s51_142, List.cons_append, List.nil_append, if_true, if_false, true_and, and_true, and_self, eq_self, true_or, or_true, false_or, or_false, tIn, tLe, fLe, tLt, fLt, tEq, fEq, isL, row121.1, row113.1, c28 row113 k3, v13', e0, c37 row121 k3, Int.toNat_natCast, eR, row119.1]
  have k4 : RK (rs (aup σ2 108 9 0) 121 (mpI n (mkL []))) := RK_rs k3 row121 (by rw [mpI_len]; omega)
  have f4 : FrW 121 (aup σ2 108 9 0) (rs (aup σ2 108 9 0) 121 (mpI n (mkL []))) := fun a q1 q2 => rs_at q1 q2
  refine rclr_ok row119 k4 _ (fun σ5 k5 w5 f5 => ?_)
  have c15 : lat (rv σ5 115) 0 = (κ : Int) := by rw [FrW_rv f5 row119 row115 (by omega), FrW_rv f4 row121 row115 (by omega), rv108 row115]; exact hκ
  simp (disch := omega) only [s51_0, s51_1, s51_4, s51_7, s51_8, s51_9, s51_12, s51_15, s51_16, s51_17, s51_18, s51_19, s51_22, s51_23, s51_26, s51_27, s51_30, s51_33, s51_34, s51_37, s51_38, s51_41, s51_44, s51_45, s51_48, s51_49, s51_52, s51_53, s51_56, s51_59, s51_60, s51_62, s51_65, s51_68, s51_69, s51_72, s51_75, s51_78, s51_79, s51_82, s51_85, s51_86, s51_87, s51_90, s51_91, s51_94, s51_95, s51_96, s51_99, s51_102, s51_103, s51_104, s51_105, s51_108, s51_111, s51_112, s51_115, s51_118, s51_121, s51_124, s51_125, s51_128, s51_130, s51_133, s51_134, s51_135, s51_138, s51_141, s51_142, List.cons_append, List.nil_append, if_true, if_false, true_and, and_true, and_self, eq_self, true_or, or_true, false_or, or_false, tIn, tLe, fLe, tLt, fLt, tEq, fEq, isL, row119.1, row115.1, c30 row115 k5, c15]
  refine radd_ok row119 k5 w5 (by simp; omega) _ (fun σ6 k6 w6 f6 => ?_)
  have I6 : KWI σ σ6 n fr to o ρ [] [(κ : Int)] [] := by
    have rr : ∀ r0, isRow r0 → r0 ≠ 119 → r0 ≠ 121 → rv σ6 r0 = rv σ2 r0 := fun r0 h0 h1 h2 => by rw [FrW_rv f6 row119 h0 h1, FrW_rv f5 row119 h0 h1, FrW_rv f4 row121 h0 h2, rv108 h0]
    refine ⟨k6, (rr 109 row109 (by omega) (by omega)).trans v9, (rr 111 row111 (by omega) (by omega)).trans v11, (rr 113 row113 (by omega) (by omega)).trans v13, hU, by rw [w6]; rfl, ?_, ?_, ?_, fun a ha => ?_⟩
    · rw [FrW_rv f6 row119 row121 (by omega), FrW_rv f5 row119 row121 (by omega)]; exact rv_rs
    · rw [rr 123 row123 (by omega) (by omega), rv_same (f2 123 (by omega)) (f2 124 (by omega))]; exact w1
    · rw [f6 108 (by omega) (by omega), f5 108 (by omega) (by omega), f4 108 (by omega) (by omega), aup_s]; rfl
    · rw [f6 a (by omega) (by omega), f5 a (by omega) (by omega), f4 a (by omega) (by omega), aup_f (by omega), f2 a (by omega)]; exact f1 a (by omega) (by omega)
  have W6 := wk_0 (V := V) κn
  rw [eA, eN] at W6
  have lp : ∀ (m : Nat) (σ7 : aSg) (o7 : Nat → Nat) (W out : List Int) (L : List Nat) (E : Nat) (z : AV), isL z = false → out.length + E + m = 402 → KWI σ σ7 n fr to o7 ρ L W out → WkI V n (kW T) (kN T) W out L E → KSh n fr to o7 V → out.length ≤ 200 → L.length ≤ 26 → WP m51 61 [.inr (.inl 108), .inr (.inl t), .inl ((out.length + E : Nat) : Int), z] [] σ7 Q := by
    intro m
    induction m with
    | zero =>
      intro σ7 o7 W out L E z hz hm h7 hw hs ho hL
      have := wk_bd hw ho
      omega
    | succ m ih =>
      intro σ7 o7 W out L E z hz hm h7 hw hs ho hL
      have hk7 := h7.1
      have bd := wk_bd hw ho
      rw [s51_61]
      cases W with
      | nil =>
        obtain ⟨y1, y2⟩ := wk_end hw
        have e19 : rv σ7 119 = [] := h7.2.2.2.2.2.1
        simp (disch := omega) only [s51_0, s51_1, s51_4, s51_7, s51_8, s51_9, s51_12, s51_15, s51_16, s51_17, s51_18, s51_19, s51_22, s51_23, s51_26, s51_27, s51_30, s51_33, s51_34, s51_37, s51_38, s51_41, s51_44, s51_45, s51_48, s51_49, s51_52, s51_53, s51_56, s51_59, s51_60, s51_62, s51_65, s51_68, s51_69, s51_72, s51_75, s51_78, s51_79, s51_82, s51_85, s51_86, s51_87, s51_90, s51_91, s51_94, s51_95, s51_96, s51_99, s51_102, s51_103, s51_104, s51_105, s51_108, s51_111, s51_112, s51_115, s51_118, s51_121, s51_124, s51_125, s51_128, s51_130, s51_133, s51_134, s51_135, s51_138, s51_141, s51_142, List.cons_append, List.nil_append, if_true, if_false, true_and, and_true, and_self, eq_self, true_or, or_true, false_or, or_false, tIn, tLe, fLe, tLt, fLt, tEq, fEq, isL, row119.1, c28 row119 hk7, e19, List.length_nil, hz, Int.natCast_zero]
        exact hq1 hh ⟨by rw [y1]; exact ho, by rw [y2]; exact hL⟩ σ7 hk7 h7.2.2.2.2.2.2.2.2.2 (h7.2.2.2.2.2.2.2.1.trans y1.symm)
      | cons x W =>
        have e19 : rv σ7 119 = W.reverse ++ [x] := by rw [h7.2.2.2.2.2.1]; simp
        have l19 : (((W.reverse ++ [x]).length : Nat) : Int) = (W.length : Int) + 1 := by simp
        simp (disch := omega) only [s51_0, s51_1, s51_4, s51_7, s51_8, s51_9, s51_12, s51_15, s51_16, s51_17, s51_18, s51_19, s51_22, s51_23, s51_26, s51_27, s51_30, s51_33, s51_34, s51_37, s51_38, s51_41, s51_44, s51_45, s51_48, s51_49, s51_52, s51_53, s51_56, s51_59, s51_60, s51_62, s51_65, s51_68, s51_69, s51_72, s51_75, s51_78, s51_79, s51_82, s51_85, s51_86, s51_87, s51_90, s51_91, s51_94, s51_95, s51_96, s51_99, s51_102, s51_103, s51_104, s51_105, s51_108, s51_111, s51_112, s51_115, s51_118, s51_121, s51_124, s51_125, s51_128, s51_130, s51_133, s51_134, s51_135, s51_138, s51_141, s51_142, List.cons_append, List.nil_append, if_true, if_false, true_and, and_true, and_self, eq_self, true_or, or_true, false_or, or_false, tIn, tLe, fLe, tLt, fLt, tEq, fEq, isL, row119.1, c28 row119 hk7, e19, l19, hz]
        refine rpop_ok row119 hk7 e19 _ (fun σ8 k8 w8 f8 => ?_)
        have h8 := KWI_s h7 k8 w8 f8
        have fin : ∀ (σ9 : aSg) (o9 : Nat → Nat) (W9 out9 : List Int) (L9 : List Nat) (E9 : Nat) (z9 : Int), KWI σ σ9 n fr to o9 ρ L9 W9 out9 → WkI V n (kW T) (kN T) W9 out9 L9 E9 → KSh n fr to o9 V → out9.length + E9 = out.length + E + 1 → WP m51 111 [.inr (.inl 108), .inr (.inl t), .inl ((out.length + E : Nat) : Int), .inl z9] [] σ9 Q := by
          intro σ9 o9 W9 out9 L9 E9 z9 h9 hw9 hs9 he9
          have k9 := h9.1
          have l9 := h9.2.2.2.2.2.2.2.2.1
          have e23 := h9.2.2.2.2.2.2.2.1
          by_cases g1 : 200 < out9.length
          · rw [s51_111]
            simp (disch := omega) only [s51_0, s51_1, s51_4, s51_7, s51_8, s51_9, s51_12, s51_15, s51_16, s51_17, s51_18, s51_19, s51_22, s51_23, s51_26, s51_27, s51_30, s51_33, s51_34, s51_37, s51_38, s51_41, s51_44, s51_45, s51_48, s51_49, s51_52, s51_53, s51_56, s51_59, s51_60, s51_62, s51_65, s51_68, s51_69, s51_72, s51_75, s51_78, s51_79, s51_82, s51_85, s51_86, s51_87, s51_90, s51_91, s51_94, s51_95, s51_96, s51_99, s51_102, s51_103, s51_104, s51_105, s51_108, s51_111, s51_112, s51_115, s51_118, s51_121, s51_124, s51_125, s51_128, s51_130, s51_133, s51_134, s51_135, s51_138, s51_141, s51_142, List.cons_append, List.nil_append, if_true, if_false, true_and, and_true, and_self, eq_self, true_or, or_true, false_or, or_false, tIn, tLe, fLe, tLt, fLt, tEq, fEq, isL, row123.1, c28 row123 k9, e23]
            refine hq2 hh (fun q => ?_) σ9 k9 h9.2.2.2.2.2.2.2.2.2
            have := wk_full hw9 (Or.inl g1)
            omega
          · by_cases g2 : 26 < L9.length
            · rw [s51_111]
              simp (disch := omega) only [s51_0, s51_1, s51_4, s51_7, s51_8, s51_9, s51_12, s51_15, s51_16, s51_17, s51_18, s51_19, s51_22, s51_23, s51_26, s51_27, s51_30, s51_33, s51_34, s51_37, s51_38, s51_41, s51_44, s51_45, s51_48, s51_49, s51_52, s51_53, s51_56, s51_59, s51_60, s51_62, s51_65, s51_68, s51_69, s51_72, s51_75, s51_78, s51_79, s51_82, s51_85, s51_86, s51_87, s51_90, s51_91, s51_94, s51_95, s51_96, s51_99, s51_102, s51_103, s51_104, s51_105, s51_108, s51_111, s51_112, s51_115, s51_118, s51_121, s51_124, s51_125, s51_128, s51_130, s51_133, s51_134, s51_135, s51_138, s51_141, s51_142, List.cons_append, List.nil_append, if_true, if_false, true_and, and_true, and_self, eq_self, true_or, or_true, false_or, or_false, tIn, tLe, fLe, tLt, fLt, tEq, fEq, isL, row123.1, c28 row123 k9, e23, l9]
              refine hq2 hh (fun q => ?_) σ9 k9 h9.2.2.2.2.2.2.2.2.2
              have := wk_full hw9 (Or.inr g2)
              omega
            · have en : ((out.length + E : Nat) : Int) + 1 = ((out9.length + E9 : Nat) : Int) := by omega
              rw [s51_111]
              simp (disch := omega) only [s51_0, s51_1, s51_4, s51_7, s51_8, s51_9, s51_12, s51_15, s51_16, s51_17, s51_18, s51_19, s51_22, s51_23, s51_26, s51_27, s51_30, s51_33, s51_34, s51_37, s51_38, s51_41, s51_44, s51_45, s51_48, s51_49, s51_52, s51_53, s51_56, s51_59, s51_60, s51_62, s51_65, s51_68, s51_69, s51_72, s51_75, s51_78, s51_79, s51_82, s51_85, s51_86, s51_87, s51_90, s51_91, s51_94, s51_95, s51_96, s51_99, s51_102, s51_103, s51_104, s51_105, s51_108, s51_111, s51_112, s51_115, s51_118, s51_121, s51_124, s51_125, s51_128, s51_130, s51_133, s51_134, s51_135, s51_138, s51_141, s51_142, List.cons_append, List.nil_append, if_true, if_false, true_and, and_true, and_self, eq_self, true_or, or_true, false_or, or_false, tIn, tLe, fLe, tLt, fLt, tEq, fEq, isL, row123.1, c28 row123 k9, e23, l9, en]
              exact ih σ9 o9 W9 out9 L9 E9 (.inl z9) rfl (by omega) h9 hw9 hs9 (by omega) (by omega)
        by_cases gx : x < 0
        · have bo : -200 ≤ x := by rcases hw.2.2.2.2 x (List.mem_cons_self ..) with q | q | q | ⟨i, q, -⟩ <;> omega
          simp (disch := omega) only [s51_0, s51_1, s51_4, s51_7, s51_8, s51_9, s51_12, s51_15, s51_16, s51_17, s51_18, s51_19, s51_22, s51_23, s51_26, s51_27, s51_30, s51_33, s51_34, s51_37, s51_38, s51_41, s51_44, s51_45, s51_48, s51_49, s51_52, s51_53, s51_56, s51_59, s51_60, s51_62, s51_65, s51_68, s51_69, s51_72, s51_75, s51_78, s51_79, s51_82, s51_85, s51_86, s51_87, s51_90, s51_91, s51_94, s51_95, s51_96, s51_99, s51_102, s51_103, s51_104, s51_105, s51_108, s51_112, s51_115, s51_118, s51_121, s51_124, s51_125, s51_128, s51_130, s51_133, s51_134, s51_135, s51_138, s51_141, s51_142, List.cons_append, List.nil_append, if_true, if_false, true_and, and_true, and_self, eq_self, true_or, or_true, false_or, or_false, tIn, tLe, fLe, tLt, fLt, tEq, fEq, isL, row123.1]
          refine radd_ok row123 k8 h8.2.2.2.2.2.2.2.1 (by omega) _ (fun σ9 k9 w9 f9 => ?_)
          simp (disch := omega) only [s51_0, s51_1, s51_4, s51_7, s51_8, s51_9, s51_12, s51_15, s51_16, s51_17, s51_18, s51_19, s51_22, s51_23, s51_26, s51_27, s51_30, s51_33, s51_34, s51_37, s51_38, s51_41, s51_44, s51_45, s51_48, s51_49, s51_52, s51_53, s51_56, s51_59, s51_60, s51_62, s51_65, s51_68, s51_69, s51_72, s51_75, s51_78, s51_79, s51_82, s51_85, s51_86, s51_87, s51_90, s51_91, s51_94, s51_95, s51_96, s51_99, s51_102, s51_103, s51_104, s51_105, s51_108, s51_112, s51_115, s51_118, s51_121, s51_124, s51_125, s51_128, s51_130, s51_133, s51_134, s51_135, s51_138, s51_141, s51_142, List.cons_append, List.nil_append, if_true, if_false, true_and, and_true, and_self, eq_self, true_or, or_true, false_or, or_false, tIn, tLe, fLe, tLt, fLt, tEq, fEq, isL]
          exact fin σ9 o7 W _ L E _ (KWI_u h8 k9 w9 f9) (wk_lit hw gx) hs (by rw [List.length_append, List.length_singleton]; omega)
        · obtain ⟨i, ei, hi⟩ : ∃ i : Nat, x = (i : Int) ∧ i < n := by
            rcases hw.2.2.2.2 x (List.mem_cons_self ..) with q | q | q | q
            · omega
            · omega
            · omega
            · exact q
          subst ei
          simp (disch := omega) only [s51_0, s51_1, s51_4, s51_7, s51_8, s51_9, s51_12, s51_15, s51_16, s51_17, s51_18, s51_19, s51_22, s51_23, s51_26, s51_27, s51_30, s51_33, s51_34, s51_37, s51_38, s51_41, s51_44, s51_45, s51_48, s51_49, s51_52, s51_53, s51_56, s51_59, s51_60, s51_62, s51_65, s51_68, s51_69, s51_72, s51_75, s51_78, s51_79, s51_82, s51_85, s51_86, s51_87, s51_90, s51_91, s51_94, s51_95, s51_96, s51_99, s51_102, s51_103, s51_104, s51_105, s51_108, s51_112, s51_115, s51_118, s51_121, s51_124, s51_125, s51_128, s51_130, s51_133, s51_134, s51_135, s51_138, s51_141, s51_142, List.cons_append, List.nil_append, if_true, if_false, true_and, and_true, and_self, eq_self, true_or, or_true, false_or, or_false, tIn, tLe, fLe, tLt, fLt, tEq, fEq, isL]
          refine wr61 k8 h8.2.2.2.1 h8.2.2.2.2.1 (by omega) hi _ (fun σ9 o9 r k9 v9' U9 E9 R9 r9 f9 => ?_)
          simp (disch := omega) only [s51_0, s51_1, s51_4, s51_7, s51_8, s51_9, s51_12, s51_15, s51_16, s51_17, s51_18, s51_19, s51_22, s51_23, s51_26, s51_27, s51_30, s51_33, s51_34, s51_37, s51_38, s51_41, s51_44, s51_45, s51_48, s51_49, s51_52, s51_53, s51_56, s51_59, s51_60, s51_62, s51_65, s51_68, s51_69, s51_72, s51_75, s51_78, s51_79, s51_82, s51_85, s51_86, s51_87, s51_90, s51_91, s51_94, s51_95, s51_96, s51_99, s51_102, s51_103, s51_104, s51_105, s51_108, s51_112, s51_115, s51_118, s51_121, s51_124, s51_125, s51_128, s51_130, s51_133, s51_134, s51_135, s51_138, s51_141, s51_142, List.cons_append, List.nil_append, if_true, if_false, true_and, and_true, and_self, eq_self, true_or, or_true, false_or, or_false, tIn, tLe, fLe, tLt, fLt, tEq, fEq, isL]
          refine wr52 (KWI_o h8 k9 v9' U9 f9) hw hK (KSh_eq hs E9) (by omega) hi R9 r9 ho (by omega) _ (fun σa oa Wa outa La Ea ha hwa hsa hea => ?_)
          simp (disch := omega) only [s51_0, s51_1, s51_4, s51_7, s51_8, s51_9, s51_12, s51_15, s51_16, s51_17, s51_18, s51_19, s51_22, s51_23, s51_26, s51_27, s51_30, s51_33, s51_34, s51_37, s51_38, s51_41, s51_44, s51_45, s51_48, s51_49, s51_52, s51_53, s51_56, s51_59, s51_60, s51_62, s51_65, s51_68, s51_69, s51_72, s51_75, s51_78, s51_79, s51_82, s51_85, s51_86, s51_87, s51_90, s51_91, s51_94, s51_95, s51_96, s51_99, s51_102, s51_103, s51_104, s51_105, s51_108, s51_112, s51_115, s51_118, s51_121, s51_124, s51_125, s51_128, s51_130, s51_133, s51_134, s51_135, s51_138, s51_141, s51_142, List.cons_append, List.nil_append, if_true, if_false, true_and, and_true, and_self, eq_self, true_or, or_true, false_or, or_false, tIn, tLe, fLe, tLt, fLt, tEq, fEq, isL]
          exact fin σa oa Wa outa La Ea _ ha hwa hsa hea
  simp (disch := omega) only [s51_0, s51_1, s51_4, s51_7, s51_8, s51_9, s51_12, s51_15, s51_16, s51_17, s51_18, s51_19, s51_22, s51_23, s51_26, s51_27, s51_30, s51_33, s51_34, s51_37, s51_38, s51_41, s51_44, s51_45, s51_48, s51_49, s51_52, s51_53, s51_56, s51_59, s51_60, s51_62, s51_65, s51_68, s51_69, s51_72, s51_75, s51_78, s51_79, s51_82, s51_85, s51_86, s51_87, s51_90, s51_91, s51_94, s51_95, s51_96, s51_99, s51_102, s51_103, s51_104, s51_105, s51_108, s51_111, s51_112, s51_115, s51_118, s51_121, s51_124, s51_125, s51_128, s51_130, s51_133, s51_134, s51_135, s51_138, s51_141, s51_142, List.cons_append, List.nil_append, if_true, if_false, true_and, and_true, and_self, eq_self, true_or, or_true, false_or, or_false, tIn, tLe, fLe, tLt, fLt, tEq, fEq, isL]
  exact lp 402 σ6 o [(κ : Int)] [] [] 0 _ (by rfl) (by simp) I6 W6 hS (by simp) (by simp)
end KWC
