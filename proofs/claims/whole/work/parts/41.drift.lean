/-! drift: terms by lots, both sides -/
def nxL (x : Int) : Int := x * 16807 % 2147483647
def drL : Nat → Int → List Int → List Int
  | 0, _, l => l
  | k + 1, x, l => drL k (nxL (nxL x)) (if nxL x % 2 = 1 then 1 :: signF (nxL (nxL x) % 5) :: l else 1 :: (l ++ [signF (nxL (nxL x) % 5)]))
def f96 (S : SS) (x n sd : Int) : Int × SS := if ¬ (0 ≤ x ∧ x < 4) then (UNK, S) else if n < 1 ∨ 40 < n ∨ sd < 1 ∨ 999999 < sd then (OUT, S) else layS S x.toNat (drL (n.toNat - 1) (nxL sd) [signF (nxL sd % 5)])
theorem nxL_def (x : Int) : x * 16807 % 2147483647 = nxL x := rfl
theorem nxL_in (x : Int) : 0 ≤ nxL x ∧ nxL x < 2147483647 := by unfold nxL; omega
theorem sg_tok {x : Int} (h0 : 0 ≤ x) (h1 : x < 5) : tok (signF x) ∧ arT (signF x) = 0 ∧ tau (signF x) = 1 + x := by
  have : x = 0 ∨ x = 1 ∨ x = 2 ∨ x = 3 ∨ x = 4 := by omega
  rcases this with rfl | rfl | rfl | rfl | rfl <;> exact ⟨by unfold tok signF; simp, by decide, by decide⟩
theorem drL_ok : ∀ (k : Nat) (x : Int) (l : List Int), isT l → tks l → isT (drL k x l) ∧ tks (drL k x l) ∧ (drL k x l).length = l.length + 2 * k := by
  intro k
  induction k with
  | zero => intro x l h1 h2; exact ⟨h1, h2, rfl⟩
  | succ k ih =>
    intro x l h1 h2
    have hr := nxL_in (nxL x)
    obtain ⟨t1, t2, -⟩ := sg_tok (x := nxL (nxL x) % 5) (by omega) (by omega)
    unfold drL
    split
    · obtain ⟨a, b, c⟩ := ih (nxL (nxL x)) (1 :: signF (nxL (nxL x) % 5) :: l) (isT_2 (a := [signF (nxL (nxL x) % 5)]) rfl (isT_0 t2) h1) (fun d hd => by
        rcases List.mem_cons.mp hd with e | hd
        · exact Or.inl e
        · rcases List.mem_cons.mp hd with e | hd
          · rw [e]; exact t1
          · exact h2 d hd)
      exact ⟨a, b, by rw [c]; simp; omega⟩
    · obtain ⟨a, b, c⟩ := ih (nxL (nxL x)) (1 :: (l ++ [signF (nxL (nxL x) % 5)])) (isT_2 rfl h1 (isT_0 t2)) (fun d hd => by
        rcases List.mem_cons.mp hd with e | hd
        · exact Or.inl e
        · rcases List.mem_append.mp hd with hd | hd
          · exact h2 d hd
          · rw [List.mem_singleton.mp hd]; exact t1)
      exact ⟨a, b, by rw [c]; simp; omega⟩
theorem tIL {x : Int} (h : -9223372036854775808 ≤ x ∧ x ≤ 9223372036854775807) : inL x = True := eq_true h
section DR
variable {σ : aSg} {K : List AV → aSg → Prop} {x y z i : Int} {S : SS} {T : List Int}
theorem c122 (h : 0 ≤ x ∧ x ≤ 2147483647) : CA m122 [.inr (.inr (.inl x))] σ K = K [.inr (.inr (.inl (nxL x)))] σ := by
  rw [e122]
  simp (disch := omega) only [s122_0, s122_1, s122_4, s122_5, s122_8, s122_9, List.cons_append, List.nil_append, if_true, if_false, true_and, and_true, and_self, eq_self, true_or, or_true, false_or, or_false, tIn, tLe, fLe, tLt, fLt, tEq, fEq, tIL]
  rfl
theorem c123 (h : 0 ≤ x ∧ x ≤ 2147483647) : CA m123 [.inr (.inr (.inl x))] σ K = K [.inl (signF (x % 5))] σ := by
  rw [e123]
  simp (disch := omega) only [s123_0, s123_1, s123_4, s123_5, s123_6, s123_9, List.cons_append, List.nil_append, if_true, if_false, true_and, and_true, and_self, eq_self, true_or, or_true, false_or, or_false, tIn, tLe, fLe, tLt, fLt, tEq, fEq, tIL]
theorem lots_ok {n : Nat} {sd : Int} (hk : RK σ) (hn : 1 ≤ n ∧ n ≤ 40) (hs : 1 ≤ sd ∧ sd ≤ 999999) : CA m109 [.inr (.inl 0), .inl (n : Int), .inl sd] σ K = K [] (rs σ 53 (drL (n - 1) (nxL sd) [signF (nxL sd % 5)])) := by
  refine CA_eq ?_
  rw [e109]
  have r0 := nxL_in sd
  have k1 : RK (rs σ 53 []) := RK_rs hk row53 (by simp)
  have e1 : ladd (cp 53) [] (signF (nxL sd % 5)) = [signF (nxL sd % 5)] := by rw [cp53]; rfl
  have g0 : rs (rs σ 53 []) 53 [signF (nxL sd % 5)] = rs σ 53 [signF (nxL sd % 5)] := rs_grow (by simp)
  simp (disch := omega) only [s109_0, s109_1, s109_2, s109_5, s109_6, s109_7, s109_10, s109_13, s109_14, s109_17, s109_18, s109_21, s109_24, s109_25, s109_29, s109_30, s109_33, s109_34, s109_37, s109_38, s109_39, s109_42, s109_43, s109_44, s109_45, s109_48, s109_49, s109_52, s109_53, s109_55, s109_56, s109_59, s109_60, s109_61, s109_64, s109_66, s109_69, s109_70, s109_73, s109_74, s109_77, s109_80, s109_81, s109_84, s109_87, s109_88, s109_91, s109_92, s109_93, s109_96, s109_99, s109_102, List.cons_append, List.nil_append, if_true, if_false, true_and, and_true, and_self, eq_self, true_or, or_true, false_or, or_false, tIn, tLe, fLe, tLt, fLt, tEq, fEq, tIL, c122, oR53, c29 row53 hk, c123, c34 row53 k1, rv_rs, e1, g0]
  rw [s109_25 rfl]
  have lp : ∀ (k : Nat) (w : Int) (l : List Int) (l6 : AV), k ≤ n - 1 → 0 ≤ w ∧ w < 2147483647 → l.length = 1 + 2 * (n - 1 - k) → isL l6 = false → WP m109 27 [.inr (.inl 0), .inl (n : Int), .inl sd, .inr (.inr (.inl w)), vU, .inl ((n - k : Nat) : Int), l6] [] (rs σ 53 l) (fun v σ' => v = [] ∧ σ' = rs σ 53 (drL k w l)) := by
    intro k
    induction k with
    | zero =>
      intro w l l6 hkn hw hl h6
      rw [s109_27]
      simp (disch := omega) only [s109_0, s109_1, s109_2, s109_5, s109_6, s109_7, s109_10, s109_13, s109_14, s109_17, s109_18, s109_21, s109_24, s109_25, s109_29, s109_30, s109_33, s109_34, s109_37, s109_38, s109_39, s109_42, s109_43, s109_44, s109_45, s109_48, s109_49, s109_52, s109_53, s109_55, s109_56, s109_59, s109_60, s109_61, s109_64, s109_66, s109_69, s109_70, s109_73, s109_74, s109_77, s109_80, s109_81, s109_84, s109_87, s109_88, s109_91, s109_92, s109_93, s109_96, s109_99, s109_102, List.cons_append, List.nil_append, if_true, if_false, true_and, and_true, and_self, eq_self, true_or, or_true, false_or, or_false, tIn, tLe, fLe, tLt, fLt, tEq, fEq]
      rfl
    | succ k ih =>
      intro w l l6 hkn hw hl h6
      have r1 := nxL_in w
      have r2 := nxL_in (nxL w)
      have kl : RK (rs σ 53 l) := RK_rs hk row53 (by rw [cp53]; omega)
      have hll : l.length < 1032 := by omega
      rw [s109_27]
      unfold drL
      have q : ∀ a b : Int, cmpL a b = 0 ↔ a = b := by intro a b; unfold cmpL; split <;> (try split) <;> omega
      have en : ((n - (k + 1) : Nat) : Int) + 1 = ((n - k : Nat) : Int) := by omega
      by_cases hm : nxL w % 2 = 1
      · rw [if_pos hm]
        have i1 : lins (cp 53) l 0 (signF (nxL (nxL w) % 5)) = signF (nxL (nxL w) % 5) :: l := by
          unfold lins
          rw [cp53, if_pos (by omega)]
          rfl
        have k2 : RK (rs σ 53 (signF (nxL (nxL w) % 5) :: l)) := RK_rs hk row53 (by rw [cp53]; simp; omega)
        have i2 : lins (cp 53) (signF (nxL (nxL w) % 5) :: l) 0 1 = 1 :: signF (nxL (nxL w) % 5) :: l := by
          unfold lins
          rw [cp53, if_pos (by simp; omega)]
          rfl
        have g1 : rs (rs σ 53 l) 53 (signF (nxL (nxL w) % 5) :: l) = rs σ 53 (signF (nxL (nxL w) % 5) :: l) := rs_grow (by simp)
        have g2 : rs (rs σ 53 (signF (nxL (nxL w) % 5) :: l)) 53 (1 :: signF (nxL (nxL w) % 5) :: l) = rs σ 53 (1 :: signF (nxL (nxL w) % 5) :: l) := rs_grow (by simp)
        simp (disch := omega) only [s109_0, s109_1, s109_2, s109_5, s109_6, s109_7, s109_10, s109_13, s109_14, s109_17, s109_18, s109_21, s109_24, s109_25, s109_29, s109_30, s109_33, s109_34, s109_37, s109_38, s109_39, s109_42, s109_43, s109_44, s109_45, s109_48, s109_49, s109_52, s109_53, s109_55, s109_56, s109_59, s109_60, s109_61, s109_64, s109_66, s109_69, s109_70, s109_73, s109_74, s109_77, s109_80, s109_81, s109_84, s109_87, s109_88, s109_91, s109_92, s109_93, s109_96, s109_99, s109_102, List.cons_append, List.nil_append, if_true, if_false, true_and, and_true, and_self, eq_self, true_or, or_true, false_or, or_false, tIn, tLe, fLe, tLt, fLt, tEq, fEq, tIL, c122, c123, q, oR53, c36 row53 kl, rv_rs, i1, g1, c36 row53 k2, i2, g2]
        rw [s109_96 rfl]
        simp (disch := omega) only [s109_0, s109_1, s109_2, s109_5, s109_6, s109_7, s109_10, s109_13, s109_14, s109_17, s109_18, s109_21, s109_24, s109_25, s109_29, s109_30, s109_33, s109_34, s109_37, s109_38, s109_39, s109_42, s109_43, s109_44, s109_45, s109_48, s109_49, s109_52, s109_53, s109_55, s109_56, s109_59, s109_60, s109_61, s109_64, s109_66, s109_69, s109_70, s109_73, s109_74, s109_77, s109_80, s109_81, s109_84, s109_87, s109_88, s109_91, s109_92, s109_93, s109_96, s109_99, s109_102, List.cons_append, List.nil_append, if_true, if_false, true_and, and_true, and_self, eq_self, true_or, or_true, false_or, or_false, tIn, tLe, fLe, tLt, fLt, tEq, fEq, en]
        exact ih (nxL (nxL w)) (1 :: signF (nxL (nxL w) % 5) :: l) (.inl 1) (by omega) r2 (by simp; omega) rfl
      · rw [if_neg hm]
        have hm0 : nxL w % 2 = 0 := by omega
        have i1 : lins (cp 53) l (l.length : Int) (signF (nxL (nxL w) % 5)) = l ++ [signF (nxL (nxL w) % 5)] := by
          unfold lins
          rw [cp53, if_pos (by omega)]
          simp
        have k2 : RK (rs σ 53 (l ++ [signF (nxL (nxL w) % 5)])) := RK_rs hk row53 (by rw [cp53]; simp; omega)
        have i2 : lins (cp 53) (l ++ [signF (nxL (nxL w) % 5)]) 0 1 = 1 :: (l ++ [signF (nxL (nxL w) % 5)]) := by
          unfold lins
          rw [cp53, if_pos (by simp; omega)]
          rfl
        have g1 : rs (rs σ 53 l) 53 (l ++ [signF (nxL (nxL w) % 5)]) = rs σ 53 (l ++ [signF (nxL (nxL w) % 5)]) := rs_grow (by simp)
        have g2 : rs (rs σ 53 (l ++ [signF (nxL (nxL w) % 5)])) 53 (1 :: (l ++ [signF (nxL (nxL w) % 5)])) = rs σ 53 (1 :: (l ++ [signF (nxL (nxL w) % 5)])) := rs_grow (by simp)
        simp (disch := omega) only [s109_0, s109_1, s109_2, s109_5, s109_6, s109_7, s109_10, s109_13, s109_14, s109_17, s109_18, s109_21, s109_24, s109_25, s109_29, s109_30, s109_33, s109_34, s109_37, s109_38, s109_39, s109_42, s109_43, s109_44, s109_45, s109_48, s109_49, s109_52, s109_53, s109_55, s109_56, s109_59, s109_60, s109_61, s109_64, s109_66, s109_69, s109_70, s109_73, s109_74, s109_77, s109_80, s109_81, s109_84, s109_87, s109_88, s109_91, s109_92, s109_93, s109_96, s109_99, s109_102, List.nil_append, List.cons_append, if_true, if_false, true_and, and_self, tIn, tLe, fLe, tLt, fLt, tEq, fEq, tIL, c122, c123, q, oR53, c28 row53 kl, rv_rs]
        simp (disch := omega) only [s109_0, s109_1, s109_2, s109_5, s109_6, s109_7, s109_10, s109_13, s109_14, s109_17, s109_18, s109_21, s109_24, s109_25, s109_29, s109_30, s109_33, s109_34, s109_37, s109_38, s109_39, s109_42, s109_43, s109_44, s109_45, s109_48, s109_49, s109_52, s109_53, s109_55, s109_56, s109_59, s109_60, s109_61, s109_64, s109_66, s109_69, s109_70, s109_73, s109_74, s109_77, s109_80, s109_81, s109_84, s109_87, s109_88, s109_91, s109_92, s109_93, s109_96, s109_99, s109_102, List.nil_append, List.cons_append, if_true, if_false, true_and, and_self, tIn, tLe, fLe, tLt, fLt, tEq, fEq, tIL, c122, c123, oR53, c36 row53 kl, rv_rs, i1, g1, c36 row53 k2, i2, g2]
        rw [s109_96 rfl]
        simp (disch := omega) only [s109_0, s109_1, s109_2, s109_5, s109_6, s109_7, s109_10, s109_13, s109_14, s109_17, s109_18, s109_21, s109_24, s109_25, s109_29, s109_30, s109_33, s109_34, s109_37, s109_38, s109_39, s109_42, s109_43, s109_44, s109_45, s109_48, s109_49, s109_52, s109_53, s109_55, s109_56, s109_59, s109_60, s109_61, s109_64, s109_66, s109_69, s109_70, s109_73, s109_74, s109_77, s109_80, s109_81, s109_84, s109_87, s109_88, s109_91, s109_92, s109_93, s109_96, s109_99, s109_102, List.cons_append, List.nil_append, if_true, if_false, true_and, and_true, and_self, eq_self, true_or, or_true, false_or, or_false, tIn, tLe, fLe, tLt, fLt, tEq, fEq, en]
        exact ih (nxL (nxL w)) (1 :: (l ++ [signF (nxL (nxL w) % 5)])) (.inl 0) (by omega) r2 (by simp; omega) rfl
  have := lp (n - 1) (nxL sd) [signF (nxL sd % 5)] vU (by omega) r0 (by simp) rfl
  rw [show n - (n - 1) = 1 by omega] at this
  exact this
theorem k96 (hR : RepC σ S) : CC m96 [.inr (.inl 0), .inl x, .inl y, .inl z] σ (f96 S x y z).1 (f96 S x y z).2 := by
  unfold CC
  rw [e96]
  unfold f96
  have hk := hR.1
  by_cases h0 : 0 ≤ x ∧ x < 4
  · rw [if_neg (by omega)]
    obtain ⟨s, rfl⟩ := Int.eq_ofNat_of_zero_le h0.1
    have hs : s < 4 := by omega
    rw [Int.toNat_natCast]
    by_cases h1 : y < 1 ∨ 40 < y ∨ z < 1 ∨ 999999 < z
    · rw [if_pos h1]
      by_cases a1 : y < 1
      · simp (disch := omega) only [s96_0, s96_1, s96_4, s96_7, s96_9, s96_10, s96_11, s96_12, s96_15, s96_16, s96_18, s96_21, s96_22, s96_23, s96_26, s96_27, s96_29, s96_32, s96_34, s96_35, s96_36, s96_37, s96_38, s96_41, s96_42, s96_43, s96_46, List.cons_append, List.nil_append, if_true, if_false, true_and, and_true, and_self, eq_self, true_or, or_true, false_or, or_false, tIn, tLe, fLe, tLt, fLt, tEq, fEq, c113]
        exact ⟨hR, fun _ _ => rfl⟩
      by_cases a2 : 40 < y
      · simp (disch := omega) only [s96_0, s96_1, s96_4, s96_7, s96_9, s96_10, s96_11, s96_12, s96_15, s96_16, s96_18, s96_21, s96_22, s96_23, s96_26, s96_27, s96_29, s96_32, s96_34, s96_35, s96_36, s96_37, s96_38, s96_41, s96_42, s96_43, s96_46, List.cons_append, List.nil_append, if_true, if_false, true_and, and_true, and_self, eq_self, true_or, or_true, false_or, or_false, tIn, tLe, fLe, tLt, fLt, tEq, fEq, c113]
        exact ⟨hR, fun _ _ => rfl⟩
      by_cases a3 : z < 1
      · simp (disch := omega) only [s96_0, s96_1, s96_4, s96_7, s96_9, s96_10, s96_11, s96_12, s96_15, s96_16, s96_18, s96_21, s96_22, s96_23, s96_26, s96_27, s96_29, s96_32, s96_34, s96_35, s96_36, s96_37, s96_38, s96_41, s96_42, s96_43, s96_46, List.cons_append, List.nil_append, if_true, if_false, true_and, and_true, and_self, eq_self, true_or, or_true, false_or, or_false, tIn, tLe, fLe, tLt, fLt, tEq, fEq, c113]
        exact ⟨hR, fun _ _ => rfl⟩
      simp (disch := omega) only [s96_0, s96_1, s96_4, s96_7, s96_9, s96_10, s96_11, s96_12, s96_15, s96_16, s96_18, s96_21, s96_22, s96_23, s96_26, s96_27, s96_29, s96_32, s96_34, s96_35, s96_36, s96_37, s96_38, s96_41, s96_42, s96_43, s96_46, List.cons_append, List.nil_append, if_true, if_false, true_and, and_true, and_self, eq_self, true_or, or_true, false_or, or_false, tIn, tLe, fLe, tLt, fLt, tEq, fEq, c113]
      exact ⟨hR, fun _ _ => rfl⟩
    · rw [if_neg h1]
      obtain ⟨n, rfl⟩ := Int.eq_ofNat_of_zero_le (show 0 ≤ y by omega)
      rw [Int.toNat_natCast]
      have r0 := nxL_in z
      obtain ⟨t1, t2, -⟩ := sg_tok (x := nxL z % 5) (by omega) (by omega)
      obtain ⟨d1, d2, d3⟩ := drL_ok (n - 1) (nxL z) [signF (nxL z % 5)] (isT_0 t2) (fun d hd => by rw [List.mem_singleton.mp hd]; exact t1)
      simp at d3
      simp (disch := omega) only [s96_0, s96_1, s96_4, s96_7, s96_9, s96_10, s96_11, s96_12, s96_15, s96_16, s96_18, s96_21, s96_22, s96_23, s96_26, s96_27, s96_29, s96_32, s96_34, s96_35, s96_36, s96_37, s96_38, s96_41, s96_42, s96_43, s96_46, List.cons_append, List.nil_append, if_true, if_false, true_and, and_true, and_self, eq_self, true_or, or_true, false_or, or_false, tIn, tLe, fLe, tLt, fLt, tEq, fEq, c113, lots_ok hk (show 1 ≤ n ∧ n ≤ 40 by omega) (show 1 ≤ z ∧ z ≤ 999999 by omega)]
      refine CA_use (change_ok (hR.made (by omega)) hs rv_rs (fun hl => Or.inr ⟨⟨d1, d2⟩, hl⟩)) (fun v σ' h => ?_)
      obtain ⟨rfl, h2, h3⟩ := h
      simp (disch := omega) only [s96_0, s96_1, s96_4, s96_7, s96_9, s96_10, s96_11, s96_12, s96_15, s96_16, s96_18, s96_21, s96_22, s96_23, s96_26, s96_27, s96_29, s96_32, s96_34, s96_35, s96_36, s96_37, s96_38, s96_41, s96_42, s96_43, s96_46, List.cons_append, List.nil_append, if_true, if_false, true_and, and_true, and_self, eq_self, true_or, or_true, false_or, or_false, tIn, tLe, fLe, tLt, fLt, tEq, fEq]
      exact ⟨h2, fun a ha => (h3 a ha).trans (rs_at (by omega) (by omega))⟩
  · rw [if_pos h0]
    simp (disch := omega) only [s96_0, s96_1, s96_4, s96_7, s96_9, s96_10, s96_11, s96_12, s96_15, s96_16, s96_18, s96_21, s96_22, s96_23, s96_26, s96_27, s96_29, s96_32, s96_34, s96_35, s96_36, s96_37, s96_38, s96_41, s96_42, s96_43, s96_46, List.cons_append, List.nil_append, if_true, if_false, true_and, and_true, and_self, eq_self, true_or, or_true, false_or, or_false, tIn, tLe, fLe, tLt, fLt, tEq, fEq, c113, h0]
    exact ⟨hR, fun _ _ => rfl⟩
set_option maxHeartbeats 4000000 in
theorem m163_ok (hR : RepM σ S) : MM m163 [.inr (.inl 130), .inl x, .inl y, .inl z] σ (f96 S x y z).1 (f96 S x y z).2 := by
  unfold MM
  rw [e163]
  unfold f96
  by_cases h0 : 0 ≤ x ∧ x < 4
  · rw [if_neg (by omega)]
    obtain ⟨s, rfl⟩ := Int.eq_ofNat_of_zero_le h0.1
    have hs : s < 4 := by omega
    rw [Int.toNat_natCast]
    by_cases h1 : y < 1 ∨ 40 < y ∨ z < 1 ∨ 999999 < z
    · rw [if_pos h1]
      by_cases a1 : 1 ≤ y ∧ y ≤ 40
      · have a2 : ¬ (1 ≤ z ∧ z ≤ 999999) := by omega
        simp (disch := omega) only [s163_0, s163_1, s163_4, s163_7, s163_9, s163_10, s163_11, s163_12, s163_13, s163_16, s163_19, s163_22, s163_23, s163_24, s163_25, s163_28, s163_31, s163_34, s163_36, s163_37, s163_38, s163_39, s163_42, s163_43, s163_46, s163_47, s163_49, s163_50, s163_53, s163_54, s163_55, s163_57, s163_60, s163_61, s163_62, s163_63, s163_64, s163_65, s163_66, s163_69, s163_70, s163_74, s163_75, s163_78, s163_80, s163_83, s163_84, s163_87, s163_88, s163_90, s163_92, s163_95, s163_96, s163_97, s163_98, s163_101, s163_102, s163_105, s163_106, s163_108, s163_110, s163_113, s163_114, s163_117, s163_118, s163_120, s163_121, s163_122, s163_125, s163_126, s163_127, s163_130, s163_132, s163_135, s163_136, s163_137, s163_139, s163_142, s163_143, s163_144, s163_145, s163_148, s163_149, s163_150, s163_153, s163_155, s163_158, s163_159, s163_160, s163_162, s163_165, s163_166, s163_167, s163_168, s163_171, s163_172, s163_175, s163_178, s163_181, s163_182, s163_183, s163_186, List.cons_append, List.nil_append, if_true, if_false, true_and, and_true, and_self, eq_self, true_or, or_true, false_or, or_false, tIn, tLe, fLe, tLt, fLt, tEq, fEq, c130, c127, a2]
        exact ⟨hR, fun _ _ => rfl⟩
      · simp (disch := omega) only [s163_0, s163_1, s163_4, s163_7, s163_9, s163_10, s163_11, s163_12, s163_13, s163_16, s163_19, s163_22, s163_23, s163_24, s163_25, s163_28, s163_31, s163_34, s163_36, s163_37, s163_38, s163_39, s163_42, s163_43, s163_46, s163_47, s163_49, s163_50, s163_53, s163_54, s163_55, s163_57, s163_60, s163_61, s163_62, s163_63, s163_64, s163_65, s163_66, s163_69, s163_70, s163_74, s163_75, s163_78, s163_80, s163_83, s163_84, s163_87, s163_88, s163_90, s163_92, s163_95, s163_96, s163_97, s163_98, s163_101, s163_102, s163_105, s163_106, s163_108, s163_110, s163_113, s163_114, s163_117, s163_118, s163_120, s163_121, s163_122, s163_125, s163_126, s163_127, s163_130, s163_132, s163_135, s163_136, s163_137, s163_139, s163_142, s163_143, s163_144, s163_145, s163_148, s163_149, s163_150, s163_153, s163_155, s163_158, s163_159, s163_160, s163_162, s163_165, s163_166, s163_167, s163_168, s163_171, s163_172, s163_175, s163_178, s163_181, s163_182, s163_183, s163_186, List.cons_append, List.nil_append, if_true, if_false, true_and, and_true, and_self, eq_self, true_or, or_true, false_or, or_false, tIn, tLe, fLe, tLt, fLt, tEq, fEq, c130, c127, a1]
        exact ⟨hR, fun _ _ => rfl⟩
    · rw [if_neg h1]
      obtain ⟨n, rfl⟩ := Int.eq_ofNat_of_zero_le (show 0 ≤ y by omega)
      rw [Int.toNat_natCast]
      have r0 := nxL_in z
      have l0 := ln134
      obtain ⟨t1, t2, t3⟩ := sg_tok (x := nxL z % 5) (by omega) (by omega)
      simp (disch := omega) only [s163_0, s163_1, s163_4, s163_7, s163_9, s163_10, s163_11, s163_12, s163_13, s163_16, s163_19, s163_22, s163_23, s163_24, s163_25, s163_28, s163_31, s163_34, s163_36, s163_37, s163_38, s163_39, s163_42, s163_43, s163_46, s163_47, s163_49, s163_50, s163_53, s163_54, s163_55, s163_57, s163_60, s163_61, s163_62, s163_63, s163_64, s163_65, s163_66, s163_69, s163_70, s163_74, s163_75, s163_78, s163_80, s163_83, s163_84, s163_87, s163_88, s163_90, s163_92, s163_95, s163_96, s163_97, s163_98, s163_101, s163_102, s163_105, s163_106, s163_108, s163_110, s163_113, s163_114, s163_117, s163_118, s163_120, s163_121, s163_122, s163_125, s163_126, s163_127, s163_130, s163_132, s163_135, s163_136, s163_137, s163_139, s163_142, s163_143, s163_144, s163_145, s163_148, s163_149, s163_150, s163_153, s163_155, s163_158, s163_159, s163_160, s163_162, s163_165, s163_166, s163_167, s163_168, s163_171, s163_172, s163_175, s163_178, s163_181, s163_182, s163_183, s163_186, List.cons_append, List.nil_append, if_true, if_false, true_and, and_true, and_self, eq_self, true_or, or_true, false_or, or_false, tIn, tLe, fLe, tLt, fLt, tEq, fEq, c130, c127, tIL, nxL_def, kd134, ln134]
      rw [s163_70 rfl]
      have lp : ∀ (k : Nat) (w : Int) (l : List Int) (σ1 : aSg) (l7 : AV), k ≤ n - 1 → 0 ≤ w ∧ w < 2147483647 → l.length = 1 + 2 * (n - 1 - k) → isT l → tks l → tmM σ1 l → RepM σ1 S → FrM σ σ1 → WP m163 72 [.inr (.inl 130), .inl (s : Int), .inl (n : Int), .inl z, .inr (.inr (.inl w)), vU, .inl ((n - k : Nat) : Int), l7] [] σ1 (fun v σ' => v = [.inl (layS S s (drL k w l)).1] ∧ RepM σ' (layS S s (drL k w l)).2 ∧ FrM σ σ') := by
        intro k
        induction k with
        | zero =>
          intro w l σ1 l7 hkn hw hl g1 g2 g3 g4 g5
          rw [s163_72]
          simp (disch := omega) only [s163_0, s163_1, s163_4, s163_7, s163_9, s163_10, s163_11, s163_12, s163_13, s163_16, s163_19, s163_22, s163_23, s163_24, s163_25, s163_28, s163_31, s163_34, s163_36, s163_37, s163_38, s163_39, s163_42, s163_43, s163_46, s163_47, s163_49, s163_50, s163_53, s163_54, s163_55, s163_57, s163_60, s163_61, s163_62, s163_63, s163_64, s163_65, s163_66, s163_69, s163_70, s163_74, s163_75, s163_78, s163_80, s163_83, s163_84, s163_87, s163_88, s163_90, s163_92, s163_95, s163_96, s163_97, s163_98, s163_101, s163_102, s163_105, s163_106, s163_108, s163_110, s163_113, s163_114, s163_117, s163_118, s163_120, s163_121, s163_122, s163_125, s163_126, s163_127, s163_130, s163_132, s163_135, s163_136, s163_137, s163_139, s163_142, s163_143, s163_144, s163_145, s163_148, s163_149, s163_150, s163_153, s163_155, s163_158, s163_159, s163_160, s163_162, s163_165, s163_166, s163_167, s163_168, s163_171, s163_172, s163_175, s163_178, s163_181, s163_182, s163_183, s163_186, List.cons_append, List.nil_append, if_true, if_false, true_and, and_true, and_self, eq_self, true_or, or_true, false_or, or_false, tIn, tLe, fLe, tLt, fLt, tEq, fEq]
          refine CA_use (lay_ok g4 hs g3 (fun hl' => Or.inr ⟨⟨g1, g2⟩, hl'⟩)) (fun v σ' h => ?_)
          obtain ⟨rfl, h2, h3⟩ := h
          simp (disch := omega) only [s163_0, s163_1, s163_4, s163_7, s163_9, s163_10, s163_11, s163_12, s163_13, s163_16, s163_19, s163_22, s163_23, s163_24, s163_25, s163_28, s163_31, s163_34, s163_36, s163_37, s163_38, s163_39, s163_42, s163_43, s163_46, s163_47, s163_49, s163_50, s163_53, s163_54, s163_55, s163_57, s163_60, s163_61, s163_62, s163_63, s163_64, s163_65, s163_66, s163_69, s163_70, s163_74, s163_75, s163_78, s163_80, s163_83, s163_84, s163_87, s163_88, s163_90, s163_92, s163_95, s163_96, s163_97, s163_98, s163_101, s163_102, s163_105, s163_106, s163_108, s163_110, s163_113, s163_114, s163_117, s163_118, s163_120, s163_121, s163_122, s163_125, s163_126, s163_127, s163_130, s163_132, s163_135, s163_136, s163_137, s163_139, s163_142, s163_143, s163_144, s163_145, s163_148, s163_149, s163_150, s163_153, s163_155, s163_158, s163_159, s163_160, s163_162, s163_165, s163_166, s163_167, s163_168, s163_171, s163_172, s163_175, s163_178, s163_181, s163_182, s163_183, s163_186, List.cons_append, List.nil_append, if_true, if_false, true_and, and_true, and_self, eq_self, true_or, or_true, false_or, or_false, tIn, tLe, fLe, tLt, fLt, tEq, fEq]
          exact ⟨rfl, h2, fun a ha => (h3 a ha).trans (g5 a ha)⟩
        | succ k ih =>
          intro w l σ1 l7 hkn hw hl g1 g2 g3 g4 g5
          have r1 := nxL_in w
          have r2 := nxL_in (nxL w)
          obtain ⟨u1, u2, u3⟩ := sg_tok (x := nxL (nxL w) % 5) (by omega) (by omega)
          have q : ∀ a b : Int, cmpL a b = 0 ↔ a = b := by intro a b; unfold cmpL; split <;> (try split) <;> omega
          have en : ((n - (k + 1) : Nat) : Int) + 1 = ((n - k : Nat) : Int) := by omega
          have hpos := isT_pos g1
          have sub0 : subT l 0 = l := by
            unfold subT te
            rw [List.drop_zero, tlen_T g1]
            simp
          have m0 : mdM (aup σ1 130 9 0) [] := ⟨aup_s, fun k c hc => by simp at hc⟩
          have f0 : FrK σ1 (aup σ1 130 9 0) := ⟨fun a h1 h2 => aup_f h2, fun j hj => aup_n2 hj⟩
          have tmk : ∀ {σ2 : aSg}, FrK σ1 σ2 → tmM σ2 l := fun h => ⟨by rw [h.2 7 (by omega)]; exact g3.1, fun j c hc => by rw [h.1 134 (by omega) (by omega)]; exact g3.2 j c hc⟩
          rw [s163_72]
          unfold drL
          by_cases hm : nxL w % 2 = 1
          · rw [if_pos hm]
            simp (disch := omega) only [s163_0, s163_1, s163_4, s163_7, s163_9, s163_10, s163_11, s163_12, s163_13, s163_16, s163_19, s163_22, s163_23, s163_24, s163_25, s163_28, s163_31, s163_34, s163_36, s163_37, s163_38, s163_39, s163_42, s163_43, s163_46, s163_47, s163_49, s163_50, s163_53, s163_54, s163_55, s163_57, s163_60, s163_61, s163_62, s163_63, s163_64, s163_65, s163_66, s163_69, s163_70, s163_74, s163_75, s163_78, s163_80, s163_83, s163_84, s163_87, s163_88, s163_90, s163_92, s163_95, s163_96, s163_97, s163_98, s163_101, s163_102, s163_105, s163_106, s163_108, s163_110, s163_113, s163_114, s163_117, s163_118, s163_120, s163_121, s163_122, s163_125, s163_126, s163_127, s163_130, s163_132, s163_135, s163_136, s163_137, s163_139, s163_142, s163_143, s163_144, s163_145, s163_148, s163_149, s163_150, s163_153, s163_155, s163_158, s163_159, s163_160, s163_162, s163_165, s163_166, s163_167, s163_168, s163_171, s163_172, s163_175, s163_178, s163_181, s163_182, s163_183, s163_186, List.cons_append, List.nil_append, if_true, if_false, true_and, and_true, and_self, eq_self, true_or, or_true, false_or, or_false, tIn, tLe, fLe, tLt, fLt, tEq, fEq, tIL, nxL_def, q]
            refine make_ok (c := 1) m0 rfl (by simp) _ (fun σ2 m1 f1 => ?_)
            have f1 := f0.trans f1
            simp (disch := omega) only [s163_0, s163_1, s163_4, s163_7, s163_9, s163_10, s163_11, s163_12, s163_13, s163_16, s163_19, s163_22, s163_23, s163_24, s163_25, s163_28, s163_31, s163_34, s163_36, s163_37, s163_38, s163_39, s163_42, s163_43, s163_46, s163_47, s163_49, s163_50, s163_53, s163_54, s163_55, s163_57, s163_60, s163_61, s163_62, s163_63, s163_64, s163_65, s163_66, s163_69, s163_70, s163_74, s163_75, s163_78, s163_80, s163_83, s163_84, s163_87, s163_88, s163_90, s163_92, s163_95, s163_96, s163_97, s163_98, s163_101, s163_102, s163_105, s163_106, s163_108, s163_110, s163_113, s163_114, s163_117, s163_118, s163_120, s163_121, s163_122, s163_125, s163_126, s163_127, s163_130, s163_132, s163_135, s163_136, s163_137, s163_139, s163_142, s163_143, s163_144, s163_145, s163_148, s163_149, s163_150, s163_153, s163_155, s163_158, s163_159, s163_160, s163_162, s163_165, s163_166, s163_167, s163_168, s163_171, s163_172, s163_175, s163_178, s163_181, s163_182, s163_183, s163_186, List.cons_append, List.nil_append, if_true, if_false, true_and, and_true, and_self, eq_self, true_or, or_true, false_or, or_false, tIn, tLe, fLe, tLt, fLt, tEq, fEq, tIL]
            refine make_ok (c := signF (nxL (nxL w) % 5)) m1 (by rw [u3]) (by simp) _ (fun σ3 m2 f2 => ?_)
            have f2 := f1.trans f2
            simp (disch := omega) only [s163_0, s163_1, s163_4, s163_7, s163_9, s163_10, s163_11, s163_12, s163_13, s163_16, s163_19, s163_22, s163_23, s163_24, s163_25, s163_28, s163_31, s163_34, s163_36, s163_37, s163_38, s163_39, s163_42, s163_43, s163_46, s163_47, s163_49, s163_50, s163_53, s163_54, s163_55, s163_57, s163_60, s163_61, s163_62, s163_63, s163_64, s163_65, s163_66, s163_69, s163_70, s163_74, s163_75, s163_78, s163_80, s163_83, s163_84, s163_87, s163_88, s163_90, s163_92, s163_95, s163_96, s163_97, s163_98, s163_101, s163_102, s163_105, s163_106, s163_108, s163_110, s163_113, s163_114, s163_117, s163_118, s163_120, s163_121, s163_122, s163_125, s163_126, s163_127, s163_130, s163_132, s163_135, s163_136, s163_137, s163_139, s163_142, s163_143, s163_144, s163_145, s163_148, s163_149, s163_150, s163_153, s163_155, s163_158, s163_159, s163_160, s163_162, s163_165, s163_166, s163_167, s163_168, s163_171, s163_172, s163_175, s163_178, s163_181, s163_182, s163_183, s163_186, List.cons_append, List.nil_append, if_true, if_false, true_and, and_true, and_self, eq_self, true_or, or_true, false_or, or_false, tIn, tLe, fLe, tLt, fLt, tEq, fEq, tIL]
            refine copyTerm_ok (p := 0) (tmk f2) g1 g2 (by omega) hpos m2 (by simp; omega) _ (fun σ4 m3 f3 => ?_)
            have f3 := f2.trans f3
            simp (disch := omega) only [s163_0, s163_1, s163_4, s163_7, s163_9, s163_10, s163_11, s163_12, s163_13, s163_16, s163_19, s163_22, s163_23, s163_24, s163_25, s163_28, s163_31, s163_34, s163_36, s163_37, s163_38, s163_39, s163_42, s163_43, s163_46, s163_47, s163_49, s163_50, s163_53, s163_54, s163_55, s163_57, s163_60, s163_61, s163_62, s163_63, s163_64, s163_65, s163_66, s163_69, s163_70, s163_74, s163_75, s163_78, s163_80, s163_83, s163_84, s163_87, s163_88, s163_90, s163_92, s163_95, s163_96, s163_97, s163_98, s163_101, s163_102, s163_105, s163_106, s163_108, s163_110, s163_113, s163_114, s163_117, s163_118, s163_120, s163_121, s163_122, s163_125, s163_126, s163_127, s163_130, s163_132, s163_135, s163_136, s163_137, s163_139, s163_142, s163_143, s163_144, s163_145, s163_148, s163_149, s163_150, s163_153, s163_155, s163_158, s163_159, s163_160, s163_162, s163_165, s163_166, s163_167, s163_168, s163_171, s163_172, s163_175, s163_178, s163_181, s163_182, s163_183, s163_186, List.cons_append, List.nil_append, if_true, if_false, true_and, and_true, and_self, eq_self, true_or, or_true, false_or, or_false, tIn, tLe, fLe, tLt, fLt, tEq, fEq, tIL]
            refine c139 m3 (by rw [sub0]; simp; omega) _ (fun σ5 t5 p1 p2 => ?_)
            simp (disch := omega) only [s163_0, s163_1, s163_4, s163_7, s163_9, s163_10, s163_11, s163_12, s163_13, s163_16, s163_19, s163_22, s163_23, s163_24, s163_25, s163_28, s163_31, s163_34, s163_36, s163_37, s163_38, s163_39, s163_42, s163_43, s163_46, s163_47, s163_49, s163_50, s163_53, s163_54, s163_55, s163_57, s163_60, s163_61, s163_62, s163_63, s163_64, s163_65, s163_66, s163_69, s163_70, s163_74, s163_75, s163_78, s163_80, s163_83, s163_84, s163_87, s163_88, s163_90, s163_92, s163_95, s163_96, s163_97, s163_98, s163_101, s163_102, s163_105, s163_106, s163_108, s163_110, s163_113, s163_114, s163_117, s163_118, s163_120, s163_121, s163_122, s163_125, s163_126, s163_127, s163_130, s163_132, s163_135, s163_136, s163_137, s163_139, s163_142, s163_143, s163_144, s163_145, s163_148, s163_149, s163_150, s163_153, s163_155, s163_158, s163_159, s163_160, s163_162, s163_165, s163_166, s163_167, s163_168, s163_171, s163_172, s163_175, s163_178, s163_181, s163_182, s163_183, s163_186, List.cons_append, List.nil_append, if_true, if_false, true_and, and_true, and_self, eq_self, true_or, or_true, false_or, or_false, tIn, tLe, fLe, tLt, fLt, tEq, fEq]
            rw [s163_175 rfl]
            simp (disch := omega) only [s163_0, s163_1, s163_4, s163_7, s163_9, s163_10, s163_11, s163_12, s163_13, s163_16, s163_19, s163_22, s163_23, s163_24, s163_25, s163_28, s163_31, s163_34, s163_36, s163_37, s163_38, s163_39, s163_42, s163_43, s163_46, s163_47, s163_49, s163_50, s163_53, s163_54, s163_55, s163_57, s163_60, s163_61, s163_62, s163_63, s163_64, s163_65, s163_66, s163_69, s163_70, s163_74, s163_75, s163_78, s163_80, s163_83, s163_84, s163_87, s163_88, s163_90, s163_92, s163_95, s163_96, s163_97, s163_98, s163_101, s163_102, s163_105, s163_106, s163_108, s163_110, s163_113, s163_114, s163_117, s163_118, s163_120, s163_121, s163_122, s163_125, s163_126, s163_127, s163_130, s163_132, s163_135, s163_136, s163_137, s163_139, s163_142, s163_143, s163_144, s163_145, s163_148, s163_149, s163_150, s163_153, s163_155, s163_158, s163_159, s163_160, s163_162, s163_165, s163_166, s163_167, s163_168, s163_171, s163_172, s163_175, s163_178, s163_181, s163_182, s163_183, s163_186, List.cons_append, List.nil_append, if_true, if_false, true_and, and_true, and_self, eq_self, true_or, or_true, false_or, or_false, tIn, tLe, fLe, tLt, fLt, tEq, fEq, en]
            rw [sub0] at t5
            refine ih (nxL (nxL w)) (1 :: signF (nxL (nxL w) % 5) :: l) σ5 _ (by omega) r2 (by simp; omega) (isT_2 (a := [signF (nxL (nxL w) % 5)]) rfl (isT_0 u2) g1) ?_ t5 ((g4.frK f3).frT ⟨p1, p2⟩) (fun a ha => (p1 a (by omega) (by omega)).trans ((f3.1 a (by omega) (by omega)).trans (g5 a ha)))
            intro d hd
            rcases List.mem_cons.mp hd with e | hd
            · exact Or.inl e
            · rcases List.mem_cons.mp hd with e | hd
              · rw [e]; exact u1
              · exact g2 d hd
          · rw [if_neg hm]
            simp (disch := omega) only [s163_0, s163_1, s163_4, s163_7, s163_9, s163_10, s163_11, s163_12, s163_13, s163_16, s163_19, s163_22, s163_23, s163_24, s163_25, s163_28, s163_31, s163_34, s163_36, s163_37, s163_38, s163_39, s163_42, s163_43, s163_46, s163_47, s163_49, s163_50, s163_53, s163_54, s163_55, s163_57, s163_60, s163_61, s163_62, s163_63, s163_64, s163_65, s163_66, s163_69, s163_70, s163_74, s163_75, s163_78, s163_80, s163_83, s163_84, s163_87, s163_88, s163_90, s163_92, s163_95, s163_96, s163_97, s163_98, s163_101, s163_102, s163_105, s163_106, s163_108, s163_110, s163_113, s163_114, s163_117, s163_118, s163_120, s163_121, s163_122, s163_125, s163_126, s163_127, s163_130, s163_132, s163_135, s163_136, s163_137, s163_139, s163_142, s163_143, s163_144, s163_145, s163_148, s163_149, s163_150, s163_153, s163_155, s163_158, s163_159, s163_160, s163_162, s163_165, s163_166, s163_167, s163_168, s163_171, s163_172, s163_175, s163_178, s163_181, s163_182, s163_183, s163_186, List.cons_append, List.nil_append, if_true, if_false, true_and, and_true, and_self, eq_self, true_or, or_true, false_or, or_false, tIn, tLe, fLe, tLt, fLt, tEq, fEq, tIL, nxL_def, q]
            refine make_ok (c := 1) m0 rfl (by simp) _ (fun σ2 m1 f1 => ?_)
            have f1 := f0.trans f1
            simp (disch := omega) only [s163_0, s163_1, s163_4, s163_7, s163_9, s163_10, s163_11, s163_12, s163_13, s163_16, s163_19, s163_22, s163_23, s163_24, s163_25, s163_28, s163_31, s163_34, s163_36, s163_37, s163_38, s163_39, s163_42, s163_43, s163_46, s163_47, s163_49, s163_50, s163_53, s163_54, s163_55, s163_57, s163_60, s163_61, s163_62, s163_63, s163_64, s163_65, s163_66, s163_69, s163_70, s163_74, s163_75, s163_78, s163_80, s163_83, s163_84, s163_87, s163_88, s163_90, s163_92, s163_95, s163_96, s163_97, s163_98, s163_101, s163_102, s163_105, s163_106, s163_108, s163_110, s163_113, s163_114, s163_117, s163_118, s163_120, s163_121, s163_122, s163_125, s163_126, s163_127, s163_130, s163_132, s163_135, s163_136, s163_137, s163_139, s163_142, s163_143, s163_144, s163_145, s163_148, s163_149, s163_150, s163_153, s163_155, s163_158, s163_159, s163_160, s163_162, s163_165, s163_166, s163_167, s163_168, s163_171, s163_172, s163_175, s163_178, s163_181, s163_182, s163_183, s163_186, List.cons_append, List.nil_append, if_true, if_false, true_and, and_true, and_self, eq_self, true_or, or_true, false_or, or_false, tIn, tLe, fLe, tLt, fLt, tEq, fEq, tIL]
            refine copyTerm_ok (p := 0) (tmk f1) g1 g2 (by omega) hpos m1 (by simp; omega) _ (fun σ4 m3 f3 => ?_)
            have f3 := f1.trans f3
            simp (disch := omega) only [s163_0, s163_1, s163_4, s163_7, s163_9, s163_10, s163_11, s163_12, s163_13, s163_16, s163_19, s163_22, s163_23, s163_24, s163_25, s163_28, s163_31, s163_34, s163_36, s163_37, s163_38, s163_39, s163_42, s163_43, s163_46, s163_47, s163_49, s163_50, s163_53, s163_54, s163_55, s163_57, s163_60, s163_61, s163_62, s163_63, s163_64, s163_65, s163_66, s163_69, s163_70, s163_74, s163_75, s163_78, s163_80, s163_83, s163_84, s163_87, s163_88, s163_90, s163_92, s163_95, s163_96, s163_97, s163_98, s163_101, s163_102, s163_105, s163_106, s163_108, s163_110, s163_113, s163_114, s163_117, s163_118, s163_120, s163_121, s163_122, s163_125, s163_126, s163_127, s163_130, s163_132, s163_135, s163_136, s163_137, s163_139, s163_142, s163_143, s163_144, s163_145, s163_148, s163_149, s163_150, s163_153, s163_155, s163_158, s163_159, s163_160, s163_162, s163_165, s163_166, s163_167, s163_168, s163_171, s163_172, s163_175, s163_178, s163_181, s163_182, s163_183, s163_186, List.cons_append, List.nil_append, if_true, if_false, true_and, and_true, and_self, eq_self, true_or, or_true, false_or, or_false, tIn, tLe, fLe, tLt, fLt, tEq, fEq, tIL]
            refine make_ok (c := signF (nxL (nxL w) % 5)) m3 (by rw [u3]) (by rw [sub0]; simp; omega) _ (fun σ5 m4 f4 => ?_)
            have f4 := f3.trans f4
            simp (disch := omega) only [s163_0, s163_1, s163_4, s163_7, s163_9, s163_10, s163_11, s163_12, s163_13, s163_16, s163_19, s163_22, s163_23, s163_24, s163_25, s163_28, s163_31, s163_34, s163_36, s163_37, s163_38, s163_39, s163_42, s163_43, s163_46, s163_47, s163_49, s163_50, s163_53, s163_54, s163_55, s163_57, s163_60, s163_61, s163_62, s163_63, s163_64, s163_65, s163_66, s163_69, s163_70, s163_74, s163_75, s163_78, s163_80, s163_83, s163_84, s163_87, s163_88, s163_90, s163_92, s163_95, s163_96, s163_97, s163_98, s163_101, s163_102, s163_105, s163_106, s163_108, s163_110, s163_113, s163_114, s163_117, s163_118, s163_120, s163_121, s163_122, s163_125, s163_126, s163_127, s163_130, s163_132, s163_135, s163_136, s163_137, s163_139, s163_142, s163_143, s163_144, s163_145, s163_148, s163_149, s163_150, s163_153, s163_155, s163_158, s163_159, s163_160, s163_162, s163_165, s163_166, s163_167, s163_168, s163_171, s163_172, s163_175, s163_178, s163_181, s163_182, s163_183, s163_186, List.cons_append, List.nil_append, if_true, if_false, true_and, and_true, and_self, eq_self, true_or, or_true, false_or, or_false, tIn, tLe, fLe, tLt, fLt, tEq, fEq, tIL]
            refine c139 m4 (by rw [sub0]; simp; omega) _ (fun σ6 t5 p1 p2 => ?_)
            simp (disch := omega) only [s163_0, s163_1, s163_4, s163_7, s163_9, s163_10, s163_11, s163_12, s163_13, s163_16, s163_19, s163_22, s163_23, s163_24, s163_25, s163_28, s163_31, s163_34, s163_36, s163_37, s163_38, s163_39, s163_42, s163_43, s163_46, s163_47, s163_49, s163_50, s163_53, s163_54, s163_55, s163_57, s163_60, s163_61, s163_62, s163_63, s163_64, s163_65, s163_66, s163_69, s163_70, s163_74, s163_75, s163_78, s163_80, s163_83, s163_84, s163_87, s163_88, s163_90, s163_92, s163_95, s163_96, s163_97, s163_98, s163_101, s163_102, s163_105, s163_106, s163_108, s163_110, s163_113, s163_114, s163_117, s163_118, s163_120, s163_121, s163_122, s163_125, s163_126, s163_127, s163_130, s163_132, s163_135, s163_136, s163_137, s163_139, s163_142, s163_143, s163_144, s163_145, s163_148, s163_149, s163_150, s163_153, s163_155, s163_158, s163_159, s163_160, s163_162, s163_165, s163_166, s163_167, s163_168, s163_171, s163_172, s163_175, s163_178, s163_181, s163_182, s163_183, s163_186, List.cons_append, List.nil_append, if_true, if_false, true_and, and_true, and_self, eq_self, true_or, or_true, false_or, or_false, tIn, tLe, fLe, tLt, fLt, tEq, fEq]
            rw [s163_175 rfl]
            simp (disch := omega) only [s163_0, s163_1, s163_4, s163_7, s163_9, s163_10, s163_11, s163_12, s163_13, s163_16, s163_19, s163_22, s163_23, s163_24, s163_25, s163_28, s163_31, s163_34, s163_36, s163_37, s163_38, s163_39, s163_42, s163_43, s163_46, s163_47, s163_49, s163_50, s163_53, s163_54, s163_55, s163_57, s163_60, s163_61, s163_62, s163_63, s163_64, s163_65, s163_66, s163_69, s163_70, s163_74, s163_75, s163_78, s163_80, s163_83, s163_84, s163_87, s163_88, s163_90, s163_92, s163_95, s163_96, s163_97, s163_98, s163_101, s163_102, s163_105, s163_106, s163_108, s163_110, s163_113, s163_114, s163_117, s163_118, s163_120, s163_121, s163_122, s163_125, s163_126, s163_127, s163_130, s163_132, s163_135, s163_136, s163_137, s163_139, s163_142, s163_143, s163_144, s163_145, s163_148, s163_149, s163_150, s163_153, s163_155, s163_158, s163_159, s163_160, s163_162, s163_165, s163_166, s163_167, s163_168, s163_171, s163_172, s163_175, s163_178, s163_181, s163_182, s163_183, s163_186, List.cons_append, List.nil_append, if_true, if_false, true_and, and_true, and_self, eq_self, true_or, or_true, false_or, or_false, tIn, tLe, fLe, tLt, fLt, tEq, fEq, en]
            rw [sub0] at t5
            refine ih (nxL (nxL w)) (1 :: (l ++ [signF (nxL (nxL w) % 5)])) σ6 _ (by omega) r2 (by simp; omega) (isT_2 rfl g1 (isT_0 u2)) ?_ t5 ((g4.frK f4).frT ⟨p1, p2⟩) (fun a ha => (p1 a (by omega) (by omega)).trans ((f4.1 a (by omega) (by omega)).trans (g5 a ha)))
            intro d hd
            rcases List.mem_cons.mp hd with e | hd
            · exact Or.inl e
            · rcases List.mem_append.mp hd with hd | hd
              · exact g2 d hd
              · rw [List.mem_singleton.mp hd]; exact u1
      have fT : FrT σ (aup (aup σ 134 (0 : Int).toNat (1 + nxL z % 5)) 130 7 1) := ⟨fun a h1 h2 => by rw [aup_f h2, aup_f h1], fun j hj => by rw [aup_n2 hj, aup_n1 (by omega)]⟩
      have := lp (n - 1) (nxL z) [signF (nxL z % 5)] (aup (aup σ 134 (0 : Int).toNat (1 + nxL z % 5)) 130 7 1) vU (by omega) r0 (by simp) (isT_0 t2) (fun d hd => by rw [List.mem_singleton.mp hd]; exact t1) ⟨aup_s, fun k c hc => by
        have hk1 : k = 0 := by have := (List.getElem?_eq_some_iff.mp hc).1; simp at this; exact this
        subst hk1
        cases hc
        rw [aup_n1 (by omega), t3]
        exact aup_s⟩ (hR.frT fT) (fun a ha => fT.1 a (by omega) (by omega))
      rw [show n - (n - 1) = 1 by omega] at this
      exact this
  · rw [if_pos h0]
    have gx : ¬ (0 ≤ x ∧ x ≤ 3) := by omega
    simp (disch := omega) only [s163_0, s163_1, s163_4, s163_7, s163_9, s163_10, s163_11, s163_12, s163_13, s163_16, s163_19, s163_22, s163_23, s163_24, s163_25, s163_28, s163_31, s163_34, s163_36, s163_37, s163_38, s163_39, s163_42, s163_43, s163_46, s163_47, s163_49, s163_50, s163_53, s163_54, s163_55, s163_57, s163_60, s163_61, s163_62, s163_63, s163_64, s163_65, s163_66, s163_69, s163_70, s163_74, s163_75, s163_78, s163_80, s163_83, s163_84, s163_87, s163_88, s163_90, s163_92, s163_95, s163_96, s163_97, s163_98, s163_101, s163_102, s163_105, s163_106, s163_108, s163_110, s163_113, s163_114, s163_117, s163_118, s163_120, s163_121, s163_122, s163_125, s163_126, s163_127, s163_130, s163_132, s163_135, s163_136, s163_137, s163_139, s163_142, s163_143, s163_144, s163_145, s163_148, s163_149, s163_150, s163_153, s163_155, s163_158, s163_159, s163_160, s163_162, s163_165, s163_166, s163_167, s163_168, s163_171, s163_172, s163_175, s163_178, s163_181, s163_182, s163_183, s163_186, List.cons_append, List.nil_append, if_true, if_false, true_and, and_true, and_self, eq_self, true_or, or_true, false_or, or_false, tIn, tLe, fLe, tLt, fLt, tEq, fEq, c130, gx]
    exact ⟨hR, fun _ _ => rfl⟩
end DR
