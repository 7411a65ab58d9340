/-! plainly: both loops -/
section PLN
variable {σ σ0 σ' : aSg} {K : List AV → aSg → Prop} {x y z i n c : Int} {S : SS} {T W st F R s : List Int} {r q t j k p h : Nat} {a b d : Tm}
theorem oNat_1 (h : Nat) : oNat (some h) = (h : Int) := rfl
theorem wr1p (ht : isRow t) (ht2 : t < 53) (hk : RK σ) (hv : rv σ t = T) (hT : isT T) (hkT : tks T) (hn : nbA T) (hl : T.length ≤ 120) {n : Nat} (hn2 : n ≤ 200) (Q : List AV → aSg → Prop) (hq : ∀ σ', RK σ' → rv σ' 78 = (wkP n T).2.take 301 → (∀ a, (a < 77 ∨ 97 < a) → σ' a = σ a) → Q [.inl ((wkP n T).1 : Int)] σ') : CA m1 [.inr (.inl 77), .inr (.inl t), .inl 0, .inl (n : Int)] σ Q := by
  rw [e1]
  simp (disch := omega) only [s1_0, s1_1, s1_4, s1_5, s1_8, s1_9, s1_12, s1_13, s1_16, s1_17, s1_20, s1_21, s1_25, s1_26, s1_29, s1_30, s1_33, s1_35, s1_37, s1_38, s1_41, s1_42, s1_45, s1_48, s1_50, s1_51, s1_52, s1_55, s1_56, s1_59, s1_61, s1_62, s1_65, s1_68, s1_71, s1_72, s1_74, s1_77, s1_80, s1_83, s1_84, List.cons_append, List.nil_append, if_true, if_false, true_and, and_true, and_self, eq_self, true_or, or_true, false_or, or_false, tIn, tLe, fLe, tLt, fLt, tEq, fEq, isL, row78.1, ht.1]
  refine rbec_ok row78 ht (by omega) hk hv (by rw [cp78]; omega) _ (fun σ1 k1 w1 f1 => ?_)
  simp (disch := omega) only [s1_0, s1_1, s1_4, s1_5, s1_8, s1_9, s1_12, s1_13, s1_16, s1_17, s1_20, s1_21, s1_25, s1_26, s1_29, s1_30, s1_33, s1_35, s1_37, s1_38, s1_41, s1_42, s1_45, s1_48, s1_50, s1_51, s1_52, s1_55, s1_56, s1_59, s1_61, s1_62, s1_65, s1_68, s1_71, s1_72, s1_74, s1_77, s1_80, s1_83, s1_84, List.cons_append, List.nil_append, if_true, if_false, true_and, and_true, and_self, eq_self, true_or, or_true, false_or, or_false, tIn, tLe, fLe, tLt, fLt, tEq, fEq, isL]
  have lp : ∀ (m k : Nat) (R : List Int) (σ2 : aSg) (l5 : AV), k + m = n → isT R → tks R → nbA R → R.length ≤ 600 → RK σ2 → rv σ2 78 = R.take 301 → (∀ a, (a < 77 ∨ 97 < a) → σ2 a = σ a) → k + (wkP m R).1 = (wkP n T).1 → (wkP m R).2 = (wkP n T).2 → WP m1 23 [.inr (.inl 77), .inr (.inl t), .inl 0, .inl (n : Int), .inl (k : Int), l5] [] σ2 Q := by
    intro m
    induction m with
    | zero =>
      intro k R σ2 l5 h1 h2 h3 h4 h5 h6 h7 h8 h9 h10
      have : k = n := by omega
      subst this
      simp only [wkP, Nat.add_zero] at h9 h10
      rw [s1_23]
      simp (disch := omega) only [s1_0, s1_1, s1_4, s1_5, s1_8, s1_9, s1_12, s1_13, s1_16, s1_17, s1_20, s1_21, s1_25, s1_26, s1_29, s1_30, s1_33, s1_35, s1_37, s1_38, s1_41, s1_42, s1_45, s1_48, s1_50, s1_51, s1_52, s1_55, s1_56, s1_59, s1_61, s1_62, s1_65, s1_68, s1_71, s1_72, s1_74, s1_77, s1_80, s1_83, s1_84, List.cons_append, List.nil_append, if_true, if_false, true_and, and_true, and_self, eq_self, true_or, or_true, false_or, or_false, tIn, tLe, fLe, tLt, fLt, tEq, fEq, isL]
      rw [h9]
      exact hq σ2 h6 (by rw [h7, h10]) h8
    | succ m ih =>
      intro k R σ2 l5 h1 h2 h3 h4 h5 h6 h7 h8 h9 h10
      simp only [wkP] at h9 h10
      rw [s1_23]
      by_cases g1 : 300 < R.length
      · rw [if_pos g1] at h9 h10
        simp only [Nat.add_zero] at h9 h10
        have gl : 300 < (rv σ2 78).length := by rw [h7, List.length_take]; omega
        have fin := hq σ2 h6 (by rw [h7, h10]) h8
        rw [← h9] at fin
        cases hs : scn (R.take 301) 0 0 with
        | none =>
          have eo : oNat (scn (R.take 301) 0 0) = -1 := by rw [hs]; rfl
          simp (disch := omega) only [s1_0, s1_1, s1_4, s1_5, s1_8, s1_9, s1_12, s1_13, s1_16, s1_17, s1_20, s1_21, s1_25, s1_26, s1_29, s1_30, s1_33, s1_35, s1_37, s1_38, s1_41, s1_42, s1_45, s1_48, s1_50, s1_51, s1_52, s1_55, s1_56, s1_59, s1_61, s1_62, s1_65, s1_68, s1_71, s1_72, s1_74, s1_77, s1_80, s1_83, s1_84, List.cons_append, List.nil_append, if_true, if_false, true_and, and_true, and_self, eq_self, true_or, or_true, false_or, or_false, tIn, tLe, fLe, tLt, fLt, tEq, fEq, isL, c5 h6 h7, eo]
          exact fin
        | some hh =>
          have eo : oNat (scn (R.take 301) 0 0) = (hh : Int) := by rw [hs]; rfl
          simp (disch := omega) only [s1_0, s1_1, s1_4, s1_5, s1_8, s1_9, s1_12, s1_13, s1_16, s1_17, s1_20, s1_21, s1_25, s1_26, s1_29, s1_30, s1_33, s1_35, s1_37, s1_38, s1_41, s1_42, s1_45, s1_48, s1_50, s1_51, s1_52, s1_55, s1_56, s1_59, s1_61, s1_62, s1_65, s1_68, s1_71, s1_72, s1_74, s1_77, s1_80, s1_83, s1_84, List.cons_append, List.nil_append, if_true, if_false, true_and, and_true, and_self, eq_self, true_or, or_true, false_or, or_false, tIn, tLe, fLe, tLt, fLt, tEq, fEq, isL, c5 h6 h7, eo, c3 h6, gl]
          exact fin
      · rw [if_neg g1] at h9 h10
        have et : R.take 301 = R := List.take_of_length_le (by omega)
        rw [et] at h7
        have gl : ¬ 300 < (rv σ2 78).length := by rw [h7]; omega
        cases hs : scn R 0 0 with
        | none =>
          rw [hs] at h9 h10
          simp only [Nat.add_zero] at h9 h10
          have eo : oNat (scn R 0 0) = -1 := by rw [hs]; rfl
          have fin := hq σ2 h6 (by rw [h7, ← h10, et]) h8
          rw [← h9] at fin
          simp (disch := omega) only [s1_0, s1_1, s1_4, s1_5, s1_8, s1_9, s1_12, s1_13, s1_16, s1_17, s1_20, s1_21, s1_25, s1_26, s1_29, s1_30, s1_33, s1_35, s1_37, s1_38, s1_41, s1_42, s1_45, s1_48, s1_50, s1_51, s1_52, s1_55, s1_56, s1_59, s1_61, s1_62, s1_65, s1_68, s1_71, s1_72, s1_74, s1_77, s1_80, s1_83, s1_84, List.cons_append, List.nil_append, if_true, if_false, true_and, and_true, and_self, eq_self, true_or, or_true, false_or, or_false, tIn, tLe, fLe, tLt, fLt, tEq, fEq, isL, c5 h6 h7, eo]
          exact fin
        | some hh =>
          rw [hs] at h9 h10
          simp only at h9 h10
          have eo : oNat (scn R 0 0) = (hh : Int) := by rw [hs]; rfl
          obtain ⟨q1, q2, q3, q4⟩ := stpL_ok h2 h3 h4 hs
          simp (disch := omega) only [s1_0, s1_1, s1_4, s1_5, s1_8, s1_9, s1_12, s1_13, s1_16, s1_17, s1_20, s1_21, s1_25, s1_26, s1_29, s1_30, s1_33, s1_35, s1_37, s1_38, s1_41, s1_42, s1_45, s1_48, s1_50, s1_51, s1_52, s1_55, s1_56, s1_59, s1_61, s1_62, s1_65, s1_68, s1_71, s1_72, s1_74, s1_77, s1_80, s1_83, s1_84, List.cons_append, List.nil_append, if_true, if_false, true_and, and_true, and_self, eq_self, true_or, or_true, false_or, or_false, tIn, tLe, fLe, tLt, fLt, tEq, fEq, isL, c5 h6 h7, eo, c3 h6, gl]
          refine wr6 h6 h7 h2 h4 hs _ (fun σ3 k3 v3 f3 => ?_)
          simp (disch := omega) only [s1_0, s1_1, s1_4, s1_5, s1_8, s1_9, s1_12, s1_13, s1_16, s1_17, s1_20, s1_21, s1_25, s1_26, s1_29, s1_30, s1_33, s1_35, s1_37, s1_38, s1_41, s1_42, s1_45, s1_48, s1_50, s1_51, s1_52, s1_55, s1_56, s1_59, s1_61, s1_62, s1_65, s1_68, s1_71, s1_72, s1_74, s1_77, s1_80, s1_83, s1_84, List.cons_append, List.nil_append, if_true, if_false, true_and, and_true, and_self, eq_self, true_or, or_true, false_or, or_false, tIn, tLe, fLe, tLt, fLt, tEq, fEq, isL]
          exact ih (k + 1) (stpL R hh) σ3 _ (by omega) q1 q2 q3 (by omega) k3 v3 (fun a ha => (f3 a (by omega)).trans (h8 a ha)) (by omega) h10
  exact lp n 0 T σ1 _ (by omega) hT hkT hn (by omega) k1 (by rw [w1, List.take_of_length_le (by omega)]) (fun a ha => f1 a (by omega) (by omega)) (by omega) rfl
def bgZ (Z : List Int) : Int := if 300 < Z.length then 1 else 0
def moZ (Z : List Int) : Int := if 300 < Z.length then 0 else if (scn Z 0 0).isSome = true then 1 else 0
/-- what worksPlainly may change -/
def FrV (σ σ' : aSg) : Prop := FrG σ σ' ∧ ∀ a, a < 130 → σ' a = σ a
theorem FrV_tr {σ1 σ2 : aSg} (h : FrV σ σ1) (h' : FrV σ1 σ2) : FrV σ σ2 := ⟨FrG_tr h.1 h'.1, fun a ha => (h'.2 a ha).trans (h.2 a ha)⟩
theorem FrV_H (h : FrH σ σ') : FrV σ σ' := ⟨⟨fun a h1 h2 => h.1 a (by omega) (by omega) h2, h.2 1 (by omega) (by omega), h.2 4 (by omega) (by omega), h.2 5 (by omega) (by omega)⟩, fun a ha => h.1 a (by omega) (by omega) (by omega)⟩
theorem FrV_D (h : FrD2 σ σ') : FrV σ σ' := ⟨⟨fun a h1 h2 => h.1 a (by omega) (by omega) h2, h.2 1 (by omega) (by omega), h.2 4 (by omega) (by omega), h.2 5 (by omega) (by omega)⟩, fun a ha => h.1 a (by omega) (by omega) (by omega)⟩
theorem FrV_u {j : Nat} {v : Int} (hj : j ≠ 1 ∧ j ≠ 4 ∧ j ≠ 5) : FrV σ (aup σ 130 j v) := ⟨G_up hj, fun a ha => aup_f (by omega)⟩
theorem tmM_u {j : Nat} {v : Int} (h : tmM σ T) (hj : j ≠ 7) : tmM (aup σ 130 j v) T := ⟨by rw [aup_n2 (by omega)]; exact h.1, by rw [aup_f (by omega)]; exact h.2⟩
theorem FdO_u {j : Nat} {v : Int} {o : Option Nat} (h : FdO σ T o) (hj : j ≠ 16) : FdO (aup σ 130 j v) T o := by
  cases o with
  | none => trivial
  | some hh =>
    obtain ⟨c, a, b, d, h1, h2, h3, h4, h5, h6, h7, h8, h9⟩ := h
    exact ⟨c, a, b, d, h1, h2, h3, h4, by rw [aup_n2 (by omega)]; exact h5, by rw [aup_n1 (by omega)]; exact h6, fun q => by rw [aup_n1 (by omega)]; exact h7 q, fun q => by rw [aup_n1 (by omega)]; exact h8 q, by rw [aup_n1 (by omega)]; exact h9⟩
theorem wr168 (hm : tmM σ T) (hT : isT T) (hkT : tks T) (hn : nbA T) (hl : T.length ≤ 120) {n : Nat} (hn2 : n ≤ 200) (Q : List AV → aSg → Prop) (hq : ∀ σ', tmM σ' (wkP n T).2 → σ' 130 18 = bgZ (wkP n T).2 → σ' 130 19 = moZ (wkP n T).2 → (wkP n T).2.length ≤ 600 → FrV σ σ' → Q [.inl ((wkP n T).1 : Int)] σ') : CA m168 [.inr (.inl 130), .inl (n : Int)] σ Q := by
  rw [e168]
  have lp : ∀ (m k : Nat) (R : List Int) (σ2 : aSg), k + m = n → isT R → tks R → nbA R → R.length ≤ 600 → tmM σ2 R → σ2 130 18 = bgZ R → σ2 130 19 = moZ R → (¬ 300 < R.length → FdO σ2 R (scn R 0 0)) → FrV σ σ2 → k + (wkP m R).1 = (wkP n T).1 → (wkP m R).2 = (wkP n T).2 → WP m168 15 [.inr (.inl 130), .inl (n : Int), .inl (k : Int)] [] σ2 Q := by
    intro m
    induction m with
    | zero =>
      intro k R σ2 h1 h2 h3 h4 h5 h6 h7 h8 h9 h10 h11 h12
      have : k = n := by omega
      subst this
      simp only [wkP, Nat.add_zero] at h11 h12
      have fin := hq σ2 (by rw [← h12]; exact h6) (by rw [← h12]; exact h7) (by rw [← h12]; exact h8) (by rw [← h12]; exact h5) h10
      rw [← h11] at fin
      rw [s168_15]
      by_cases g : moZ R = 0
      · simp (disch := omega) only [s168_0, s168_1, s168_2, s168_3, s168_4, s168_7, s168_8, s168_9, s168_12, s168_16, s168_19, s168_22, s168_23, s168_24, s168_27, s168_28, s168_31, s168_34, s168_35, s168_38, s168_41, s168_42, s168_43, s168_46, s168_49, s168_52, s168_53, s168_56, s168_57, s168_60, s168_61, s168_62, s168_65, s168_68, s168_69, s168_72, s168_75, s168_76, s168_79, s168_80, s168_83, s168_86, s168_87, List.cons_append, List.nil_append, if_true, if_false, true_and, and_true, and_self, eq_self, true_or, or_true, false_or, or_false, tIn, tLe, fLe, tLt, fLt, tEq, fEq, isL, h8, g]
        exact fin
      · simp (disch := omega) only [s168_0, s168_1, s168_2, s168_3, s168_4, s168_7, s168_8, s168_9, s168_12, s168_16, s168_19, s168_22, s168_23, s168_24, s168_27, s168_28, s168_31, s168_34, s168_35, s168_38, s168_41, s168_42, s168_43, s168_46, s168_49, s168_52, s168_53, s168_56, s168_57, s168_60, s168_61, s168_62, s168_65, s168_68, s168_69, s168_72, s168_75, s168_76, s168_79, s168_80, s168_83, s168_86, s168_87, List.cons_append, List.nil_append, if_true, if_false, true_and, and_true, and_self, eq_self, true_or, or_true, false_or, or_false, tIn, tLe, fLe, tLt, fLt, tEq, fEq, isL, h8, g]
        exact fin
    | succ m ih =>
      intro k R σ2 h1 h2 h3 h4 h5 h6 h7 h8 h9 h10 h11 h12
      simp only [wkP] at h11 h12
      rw [s168_15]
      by_cases g1 : 300 < R.length
      · rw [if_pos g1] at h11 h12
        simp only [Nat.add_zero] at h11 h12
        have fin := hq σ2 (by rw [← h12]; exact h6) (by rw [← h12]; exact h7) (by rw [← h12]; exact h8) (by rw [← h12]; exact h5) h10
        rw [← h11] at fin
        have e0 : σ2 130 19 = 0 := by rw [h8]; unfold moZ; rw [if_pos g1]
        simp (disch := omega) only [s168_0, s168_1, s168_2, s168_3, s168_4, s168_7, s168_8, s168_9, s168_12, s168_16, s168_19, s168_22, s168_23, s168_24, s168_27, s168_28, s168_31, s168_34, s168_35, s168_38, s168_41, s168_42, s168_43, s168_46, s168_49, s168_52, s168_53, s168_56, s168_57, s168_60, s168_61, s168_62, s168_65, s168_68, s168_69, s168_72, s168_75, s168_76, s168_79, s168_80, s168_83, s168_86, s168_87, List.cons_append, List.nil_append, if_true, if_false, true_and, and_true, and_self, eq_self, true_or, or_true, false_or, or_false, tIn, tLe, fLe, tLt, fLt, tEq, fEq, isL, e0]
        exact fin
      · rw [if_neg g1] at h11 h12
        have fo := h9 g1
        have e18 : σ2 130 18 = 0 := by rw [h7]; unfold bgZ; rw [if_neg g1]
        cases hs : scn R 0 0 with
        | none =>
          rw [hs] at h11 h12
          simp only [Nat.add_zero] at h11 h12
          have e0 : σ2 130 19 = 0 := by rw [h8]; unfold moZ; rw [if_neg g1, hs]; rfl
          have fin := hq σ2 (by rw [← h12]; exact h6) (by rw [← h12]; exact h7) (by rw [← h12]; exact h8) (by rw [← h12]; exact h5) h10
          rw [← h11] at fin
          simp (disch := omega) only [s168_0, s168_1, s168_2, s168_3, s168_4, s168_7, s168_8, s168_9, s168_12, s168_16, s168_19, s168_22, s168_23, s168_24, s168_27, s168_28, s168_31, s168_34, s168_35, s168_38, s168_41, s168_42, s168_43, s168_46, s168_49, s168_52, s168_53, s168_56, s168_57, s168_60, s168_61, s168_62, s168_65, s168_68, s168_69, s168_72, s168_75, s168_76, s168_79, s168_80, s168_83, s168_86, s168_87, List.cons_append, List.nil_append, if_true, if_false, true_and, and_true, and_self, eq_self, true_or, or_true, false_or, or_false, tIn, tLe, fLe, tLt, fLt, tEq, fEq, isL, e0]
          exact fin
        | some hh =>
          rw [hs] at h11 h12 fo
          simp only at h11 h12
          have e0 : σ2 130 19 = 1 := by rw [h8]; unfold moZ; rw [if_neg g1, hs]; rfl
          obtain ⟨q1, q2, q3, q4⟩ := stpL_ok h2 h3 h4 hs
          simp (disch := omega) only [s168_0, s168_1, s168_2, s168_3, s168_4, s168_7, s168_8, s168_9, s168_12, s168_16, s168_19, s168_22, s168_23, s168_24, s168_27, s168_28, s168_31, s168_34, s168_35, s168_38, s168_41, s168_42, s168_43, s168_46, s168_49, s168_52, s168_53, s168_56, s168_57, s168_60, s168_61, s168_62, s168_65, s168_68, s168_69, s168_72, s168_75, s168_76, s168_79, s168_80, s168_83, s168_86, s168_87, List.cons_append, List.nil_append, if_true, if_false, true_and, and_true, and_self, eq_self, true_or, or_true, false_or, or_false, tIn, tLe, fLe, tLt, fLt, tEq, fEq, isL, e0, e18]
          refine wr167 h6 h2 h3 (by omega) fo _ (fun σ3 t3 f3 => ?_)
          have e7 := t3.1
          have V3 := FrV_tr h10 (FrV_D f3)
          by_cases g2 : 300 < (stpL R hh).length
          · have b1 : bgZ (stpL R hh) = 1 := by unfold bgZ; rw [if_pos g2]
            have b2 : moZ (stpL R hh) = 0 := by unfold moZ; rw [if_pos g2]
            have e8 : (aup σ3 130 18 1) 130 18 = 1 := aup_s
            simp (disch := omega) only [s168_0, s168_1, s168_2, s168_3, s168_4, s168_7, s168_8, s168_9, s168_12, s168_16, s168_19, s168_22, s168_23, s168_24, s168_27, s168_28, s168_31, s168_34, s168_35, s168_38, s168_41, s168_42, s168_43, s168_46, s168_49, s168_52, s168_53, s168_56, s168_57, s168_60, s168_61, s168_62, s168_65, s168_68, s168_69, s168_72, s168_75, s168_76, s168_79, s168_80, s168_83, s168_86, s168_87, List.cons_append, List.nil_append, if_true, if_false, true_and, and_true, and_self, eq_self, true_or, or_true, false_or, or_false, tIn, tLe, fLe, tLt, fLt, tEq, fEq, isL, e7, e8]
            exact ih (k + 1) (stpL R hh) _ (by omega) q1 q2 q3 (by omega) (tmM_u (tmM_u t3 (by omega)) (by omega)) (by rw [aup_n2 (by omega), aup_s, b1]) (by rw [aup_s, b2]) (fun q => absurd g2 q) (FrV_tr V3 (FrV_tr (FrV_u (by omega)) (FrV_u (by omega)))) (by omega) h12
          · have b1 : bgZ (stpL R hh) = 0 := by unfold bgZ; rw [if_neg g2]
            have e8 : (aup σ3 130 18 0) 130 18 = 0 := aup_s
            simp (disch := omega) only [s168_0, s168_1, s168_2, s168_3, s168_4, s168_7, s168_8, s168_9, s168_12, s168_16, s168_19, s168_22, s168_23, s168_24, s168_27, s168_28, s168_31, s168_34, s168_35, s168_38, s168_41, s168_42, s168_43, s168_46, s168_49, s168_52, s168_53, s168_56, s168_57, s168_60, s168_61, s168_62, s168_65, s168_68, s168_69, s168_72, s168_75, s168_76, s168_79, s168_80, s168_83, s168_86, s168_87, List.cons_append, List.nil_append, if_true, if_false, true_and, and_true, and_self, eq_self, true_or, or_true, false_or, or_false, tIn, tLe, fLe, tLt, fLt, tEq, fEq, isL, e7, e8]
            refine wr166 (tmM_u t3 (by omega)) q1 q2 q3 (by omega) _ (fun σ4 f4 o4 => ?_)
            have t4 := tmM_H (tmM_u (v := 0) (j := 18) t3 (by omega)) f4
            have V4 := FrV_tr V3 (FrV_tr (FrV_u (v := 0) (j := 18) (by omega)) (FrV_H f4))
            have e18' : σ4 130 18 = 0 := by rw [f4.2 18 (by omega) (by omega)]; exact aup_s
            by_cases g3 : (scn (stpL R hh) 0 0).isSome = true
            · rw [if_pos g3]
              have b2 : moZ (stpL R hh) = 1 := by unfold moZ; rw [if_neg g2, if_pos g3]
              simp (disch := omega) only [s168_0, s168_1, s168_2, s168_3, s168_4, s168_7, s168_8, s168_9, s168_12, s168_16, s168_19, s168_22, s168_23, s168_24, s168_27, s168_28, s168_31, s168_34, s168_35, s168_38, s168_41, s168_42, s168_43, s168_46, s168_49, s168_52, s168_53, s168_56, s168_57, s168_60, s168_61, s168_62, s168_65, s168_68, s168_69, s168_72, s168_75, s168_76, s168_79, s168_80, s168_83, s168_86, s168_87, List.cons_append, List.nil_append, if_true, if_false, true_and, and_true, and_self, eq_self, true_or, or_true, false_or, or_false, tIn, tLe, fLe, tLt, fLt, tEq, fEq, isL]
              exact ih (k + 1) (stpL R hh) _ (by omega) q1 q2 q3 (by omega) (tmM_u t4 (by omega)) (by rw [aup_n2 (by omega), e18', b1]) (by rw [aup_s, b2]) (fun _ => FdO_u o4 (by omega)) (FrV_tr V4 (FrV_u (by omega))) (by omega) h12
            · rw [if_neg g3]
              have b2 : moZ (stpL R hh) = 0 := by unfold moZ; rw [if_neg g2, if_neg g3]
              simp (disch := omega) only [s168_0, s168_1, s168_2, s168_3, s168_4, s168_7, s168_8, s168_9, s168_12, s168_16, s168_19, s168_22, s168_23, s168_24, s168_27, s168_28, s168_31, s168_34, s168_35, s168_38, s168_41, s168_42, s168_43, s168_46, s168_49, s168_52, s168_53, s168_56, s168_57, s168_60, s168_61, s168_62, s168_65, s168_68, s168_69, s168_72, s168_75, s168_76, s168_79, s168_80, s168_83, s168_86, s168_87, List.cons_append, List.nil_append, if_true, if_false, true_and, and_true, and_self, eq_self, true_or, or_true, false_or, or_false, tIn, tLe, fLe, tLt, fLt, tEq, fEq, isL]
              exact ih (k + 1) (stpL R hh) _ (by omega) q1 q2 q3 (by omega) (tmM_u t4 (by omega)) (by rw [aup_n2 (by omega), e18', b1]) (by rw [aup_s, b2]) (fun _ => FdO_u o4 (by omega)) (FrV_tr V4 (FrV_u (by omega))) (by omega) h12
  simp (disch := omega) only [s168_0, s168_1, s168_2, s168_3, s168_4, s168_7, s168_8, s168_9, s168_12, s168_16, s168_19, s168_22, s168_23, s168_24, s168_27, s168_28, s168_31, s168_34, s168_35, s168_38, s168_41, s168_42, s168_43, s168_46, s168_49, s168_52, s168_53, s168_56, s168_57, s168_60, s168_61, s168_62, s168_65, s168_68, s168_69, s168_72, s168_75, s168_76, s168_79, s168_80, s168_83, s168_86, s168_87, List.cons_append, List.nil_append, if_true, if_false, true_and, and_true, and_self, eq_self, true_or, or_true, false_or, or_false, tIn, tLe, fLe, tLt, fLt, tEq, fEq, isL]
  refine wr166 (tmM_u hm (by omega)) hT hkT hn (by omega) _ (fun σ4 f4 o4 => ?_)
  have t4 := tmM_H (tmM_u (v := 0) (j := 18) hm (by omega)) f4
  have V4 := FrV_tr (FrV_u (v := 0) (j := 18) (by omega)) (FrV_H f4)
  have e18' : σ4 130 18 = 0 := by rw [f4.2 18 (by omega) (by omega)]; exact aup_s
  have g2 : ¬ 300 < T.length := by omega
  have b1 : bgZ T = 0 := by unfold bgZ; rw [if_neg g2]
  by_cases g3 : (scn T 0 0).isSome = true
  · rw [if_pos g3]
    have b2 : moZ T = 1 := by unfold moZ; rw [if_neg g2, if_pos g3]
    simp (disch := omega) only [s168_0, s168_1, s168_2, s168_3, s168_4, s168_7, s168_8, s168_9, s168_12, s168_16, s168_19, s168_22, s168_23, s168_24, s168_27, s168_28, s168_31, s168_34, s168_35, s168_38, s168_41, s168_42, s168_43, s168_46, s168_49, s168_52, s168_53, s168_56, s168_57, s168_60, s168_61, s168_62, s168_65, s168_68, s168_69, s168_72, s168_75, s168_76, s168_79, s168_80, s168_83, s168_86, s168_87, List.cons_append, List.nil_append, if_true, if_false, true_and, and_true, and_self, eq_self, true_or, or_true, false_or, or_false, tIn, tLe, fLe, tLt, fLt, tEq, fEq, isL]
    exact lp n 0 T _ (by omega) hT hkT hn (by omega) (tmM_u t4 (by omega)) (by rw [aup_n2 (by omega), e18', b1]) (by rw [aup_s, b2]) (fun _ => FdO_u o4 (by omega)) (FrV_tr V4 (FrV_u (by omega))) (by omega) rfl
  · rw [if_neg g3]
    have b2 : moZ T = 0 := by unfold moZ; rw [if_neg g2, if_neg g3]
    simp (disch := omega) only [s168_0, s168_1, s168_2, s168_3, s168_4, s168_7, s168_8, s168_9, s168_12, s168_16, s168_19, s168_22, s168_23, s168_24, s168_27, s168_28, s168_31, s168_34, s168_35, s168_38, s168_41, s168_42, s168_43, s168_46, s168_49, s168_52, s168_53, s168_56, s168_57, s168_60, s168_61, s168_62, s168_65, s168_68, s168_69, s168_72, s168_75, s168_76, s168_79, s168_80, s168_83, s168_86, s168_87, List.cons_append, List.nil_append, if_true, if_false, true_and, and_true, and_self, eq_self, true_or, or_true, false_or, or_false, tIn, tLe, fLe, tLt, fLt, tEq, fEq, isL]
    exact lp n 0 T _ (by omega) hT hkT hn (by omega) (tmM_u t4 (by omega)) (by rw [aup_n2 (by omega), e18', b1]) (by rw [aup_s, b2]) (fun _ => FdO_u o4 (by omega)) (FrV_tr V4 (FrV_u (by omega))) (by omega) rfl
end PLN
