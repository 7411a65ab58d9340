/-! the reference: behind, copyTerm -/
theorem tau_0 {c : Int} (h : tok c) : tau c = 0 ↔ c = 1 := by
  unfold tok at h; unfold tau
  repeat' split
  all_goals omega
theorem tau_b {c : Int} (h : tok c) : 1000 ≤ tau c ↔ 1000 < c := by
  unfold tok at h; unfold tau
  repeat' split
  all_goals omega
theorem tau_in {c : Int} (h : tok c) : 0 ≤ tau c ∧ tau c ≤ 1122 := by
  unfold tok at h; unfold tau
  repeat' split
  all_goals omega
theorem tau_big {c : Int} (h : 90 ≤ c) : tau c = c := by
  unfold tau
  repeat' split
  all_goals omega
/-- all tokens are tokens -/
abbrev tks (T : List Int) : Prop := ∀ c ∈ T, tok c
section BH
variable {σ : aSg} {K : List AV → aSg → Prop} {x y z i : Int} {S : SS} {T : List Int}
theorem c149 (hm : tmM σ T) (hT : isT T) (hk : tks T) (hl : T.length ≤ 2200) {p : Nat} (hp : p < T.length) : CA m149 [.inr (.inl 130), .inl (p : Int)] σ K = K [.inl (te T p : Int)] σ := by
  refine CA_eq ?_
  rw [e149]
  obtain ⟨t, r, e, ht, h1, h2, -⟩ := at_split hT hp
  have l0 := ln134
  simp (disch := omega) only [s149_0, s149_1, s149_2, s149_3, s149_5, s149_8, s149_9, s149_10, s149_13, s149_14, s149_15, s149_18, s149_19, s149_22, s149_23, s149_26, s149_27, s149_28, s149_31, s149_34, s149_35, s149_38, s149_39, s149_40, s149_41, s149_44, s149_47, s149_48, List.cons_append, List.nil_append, if_true, if_false, true_and, and_true, and_self, eq_self, true_or, or_true, false_or, or_false, tIn, tLe, fLe, tLt, fLt, tEq, fEq, isL]
  have hr : r.length + te T p = T.length := by
    have := congrArg List.length e
    simp only [List.length_drop, List.length_append] at this
    omega
  have lp : ∀ (n q o : Nat), T.length - q = n → q ≤ T.length → o ≤ 3000 → skp o (T.drop q) = some r → WP m149 4 [.inr (.inl 130), .inl (p : Int), .inl (q : Int), .inl (o : Int)] [] σ (fun v σ' => v = [.inl (te T p : Int)] ∧ σ' = σ) := by
    intro n
    induction n with
    | zero =>
      intro q o hn hq ho hs
      rw [List.drop_eq_nil_of_le (by omega)] at hs
      cases o with
      | zero =>
        simp only [skp, Option.some.injEq] at hs
        subst hs
        rw [s149_4]
        simp (disch := omega) only [s149_0, s149_1, s149_2, s149_3, s149_5, s149_8, s149_9, s149_10, s149_13, s149_14, s149_15, s149_18, s149_19, s149_22, s149_23, s149_26, s149_27, s149_28, s149_31, s149_34, s149_35, s149_38, s149_39, s149_40, s149_41, s149_44, s149_47, s149_48, List.cons_append, List.nil_append, if_true, if_false, true_and, and_true, and_self, eq_self, true_or, or_true, false_or, or_false, tIn, tLe, fLe, tLt, fLt, tEq, fEq]
        simp at hr
        simp; omega
      | succ o => simp [skp] at hs
    | succ n ih =>
      intro q o hn hq ho hs
      have hql : q < T.length := by omega
      cases o with
      | zero =>
        simp only [skp, Option.some.injEq] at hs
        have : r.length = T.length - q := by rw [← hs]; simp
        rw [s149_4]
        simp (disch := omega) only [s149_0, s149_1, s149_2, s149_3, s149_5, s149_8, s149_9, s149_10, s149_13, s149_14, s149_15, s149_18, s149_19, s149_22, s149_23, s149_26, s149_27, s149_28, s149_31, s149_34, s149_35, s149_38, s149_39, s149_40, s149_41, s149_44, s149_47, s149_48, List.cons_append, List.nil_append, if_true, if_false, true_and, and_true, and_self, eq_self, true_or, or_true, false_or, or_false, tIn, tLe, fLe, tLt, fLt, tEq, fEq]
        simp; omega
      | succ o =>
        have hd : T.drop q = T[q] :: T.drop (q + 1) := List.drop_eq_getElem_cons hql
        rw [hd] at hs
        simp only [skp] at hs
        have hc := hm.2 q _ (List.getElem?_eq_getElem hql)
        have tk := hk _ (List.getElem_mem hql)
        have ti := tau_in tk
        have hso : o + arT T[q] ≤ 3000 := by
          apply Classical.byContradiction
          intro hbig
          have : ∀ (l : List Int) (n : Nat) (r : List Int), skp n l = some r → n ≤ l.length := by
            intro l
            induction l with
            | nil => intro n r h; cases n with
              | zero => omega
              | succ n => simp [skp] at h
            | cons c l ih => intro n r h; cases n with
              | zero => omega
              | succ n => simp only [skp] at h; have := ih _ _ h; simp; omega
          have := this _ _ _ hs
          simp at this
          omega
        have ih' := ih (q + 1) (o + arT T[q]) (by omega) (by omega) hso hs
        rw [s149_4]
        by_cases g1 : T[q] = 1
        · have g0 : tau T[q] = 0 := (tau_0 tk).mpr g1
          simp (disch := omega) only [s149_0, s149_1, s149_2, s149_3, s149_5, s149_8, s149_9, s149_10, s149_13, s149_14, s149_15, s149_18, s149_19, s149_22, s149_23, s149_26, s149_27, s149_28, s149_31, s149_34, s149_35, s149_38, s149_39, s149_40, s149_41, s149_44, s149_47, s149_48, List.cons_append, List.nil_append, if_true, if_false, true_and, and_true, and_self, eq_self, true_or, or_true, false_or, or_false, tIn, tLe, fLe, tLt, fLt, tEq, fEq, kd134, ln134, Int.toNat_natCast, hc, g0]
          rw [g1] at ih'
          rw [show ((o + 1 : Nat) : Int) + 1 = ((o + arT 1 : Nat) : Int) by simp [arT]; omega, show (q : Int) + 1 = ((q + 1 : Nat) : Int) by omega]
          exact ih'
        · have g0 : ¬ tau T[q] = 0 := fun z => g1 ((tau_0 tk).mp z)
          by_cases g2 : 1000 < T[q]
          · have g3 := (tau_b tk).mpr g2
            simp (disch := omega) only [s149_0, s149_1, s149_2, s149_3, s149_5, s149_8, s149_9, s149_10, s149_13, s149_14, s149_15, s149_18, s149_19, s149_22, s149_23, s149_26, s149_27, s149_28, s149_31, s149_34, s149_35, s149_38, s149_39, s149_40, s149_41, s149_44, s149_47, s149_48, List.cons_append, List.nil_append, if_true, if_false, true_and, and_true, and_self, eq_self, true_or, or_true, false_or, or_false, tIn, tLe, fLe, tLt, fLt, tEq, fEq, kd134, ln134, Int.toNat_natCast, hc, c129]
            rw [arT_b g2] at ih'
            rw [show ((o + 1 : Nat) : Int) + 0 = ((o + 1 : Nat) : Int) by omega, show (q : Int) + 1 = ((q + 1 : Nat) : Int) by omega]
            exact ih'
          · have g3 : ¬ 1000 ≤ tau T[q] := fun z => g2 ((tau_b tk).mp z)
            simp (disch := omega) only [s149_0, s149_1, s149_2, s149_3, s149_5, s149_8, s149_9, s149_10, s149_13, s149_14, s149_15, s149_18, s149_19, s149_22, s149_23, s149_26, s149_27, s149_28, s149_31, s149_34, s149_35, s149_38, s149_39, s149_40, s149_41, s149_44, s149_47, s149_48, List.cons_append, List.nil_append, if_true, if_false, true_and, and_true, and_self, eq_self, true_or, or_true, false_or, or_false, tIn, tLe, fLe, tLt, fLt, tEq, fEq, kd134, ln134, Int.toNat_natCast, hc, c129]
            rw [arT_0 g1 g2] at ih'
            rw [show ((o + 1 : Nat) : Int) + -1 = ((o + 0 : Nat) : Int) by omega, show (q : Int) + 1 = ((q + 1 : Nat) : Int) by omega]
            exact ih'
  exact lp (T.length - p) p 1 rfl (by omega) (by omega) (by rw [e]; exact skp_app ht)
/-- the term at a place -/
def subT (T : List Int) (p : Nat) : List Int := (T.drop p).take (te T p - p)
theorem subT_len (hT : isT T) {p : Nat} (hp : p < T.length) : (subT T p).length = te T p - p := by
  have := te_gt hT hp
  simp [subT]
  omega
theorem subT_isT (hT : isT T) {p : Nat} (hp : p < T.length) : isT (subT T p) := by
  obtain ⟨t, r, e, ht, h1, -⟩ := at_split hT hp
  have : subT T p = t := by
    unfold subT
    rw [e, h1, show p + t.length - p = t.length by omega, List.take_left]
  rw [this]; exact ht
theorem copyTerm_ok (hm : tmM σ T) (hT : isT T) (hk : tks T) (hl : T.length ≤ 2200) {p : Nat} (hp : p < T.length) {l : List Int} (hd : mdM σ l) (hll : l.length + T.length ≤ 2200) (Q : List AV → aSg → Prop) (hq : ∀ σ', mdM σ' (l ++ subT T p) → FrK σ σ' → Q [] σ') : CA m151 [.inr (.inl 130), .inl (p : Int)] σ Q := by
  rw [e151]
  have tg := te_gt hT hp
  have l0 := ln134
  simp (disch := omega) only [s151_0, s151_1, s151_2, s151_5, s151_6, s151_7, s151_9, s151_10, s151_13, s151_14, s151_15, s151_18, s151_19, s151_20, s151_23, s151_26, s151_29, List.cons_append, List.nil_append, if_true, if_false, true_and, and_true, and_self, eq_self, true_or, or_true, false_or, or_false, tIn, tLe, fLe, tLt, fLt, tEq, fEq, isL, c149 hm hT hk hl hp]
  have lp : ∀ (n q : Nat) (σ1 : aSg), te T p - q = n → p ≤ q → q ≤ te T p → mdM σ1 (l ++ (T.drop p).take (q - p)) → FrK σ σ1 → WP m151 8 [.inr (.inl 130), .inl (p : Int), .inl (te T p : Int), .inl (q : Int)] [] σ1 Q := by
    intro n
    induction n with
    | zero =>
      intro q σ1 hn h1 h2 g1 g2
      have : q = te T p := by omega
      subst this
      rw [s151_8]
      simp (disch := omega) only [s151_0, s151_1, s151_2, s151_5, s151_6, s151_7, s151_9, s151_10, s151_13, s151_14, s151_15, s151_18, s151_19, s151_20, s151_23, s151_26, s151_29, List.cons_append, List.nil_append, if_true, if_false, true_and, and_true, and_self, eq_self, true_or, or_true, false_or, or_false, tIn, tLe, fLe, tLt, fLt, tEq, fEq]
      exact hq σ1 g1 g2
    | succ n ih =>
      intro q σ1 hn h1 h2 g1 g2
      have hql : q < T.length := by omega
      have e134 : σ1 134 q = tau T[q] := by rw [g2.1 134 (by omega) (by omega)]; exact hm.2 q _ (List.getElem?_eq_getElem hql)
      rw [s151_8]
      simp (disch := omega) only [s151_0, s151_1, s151_2, s151_5, s151_6, s151_7, s151_9, s151_10, s151_13, s151_14, s151_15, s151_18, s151_19, s151_20, s151_23, s151_26, s151_29, List.cons_append, List.nil_append, if_true, if_false, true_and, and_true, and_self, eq_self, true_or, or_true, false_or, or_false, tIn, tLe, fLe, tLt, fLt, tEq, fEq, kd134, ln134, Int.toNat_natCast, e134]
      refine make_ok g1 rfl (by simp; omega) _ (fun σ2 k1 k2 => ?_)
      simp (disch := omega) only [s151_0, s151_1, s151_2, s151_5, s151_6, s151_7, s151_9, s151_10, s151_13, s151_14, s151_15, s151_18, s151_19, s151_20, s151_23, s151_26, s151_29, List.cons_append, List.nil_append, if_true, if_false, true_and, and_true, and_self, eq_self, true_or, or_true, false_or, or_false, tIn, tLe, fLe, tLt, fLt, tEq, fEq]
      refine ih (q + 1) σ2 (by omega) (by omega) (by omega) ?_ (g2.trans k2)
      rw [show q + 1 - p = (q - p) + 1 by omega, List.take_succ, List.getElem?_drop, show p + (q - p) = q by omega, List.getElem?_eq_getElem hql]
      simpa using k1
  exact lp (te T p - p) p σ rfl (by omega) (by omega) (by simpa using hd) FrK.rfl'
end BH
