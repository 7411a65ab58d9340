/-! Row, the rest -/
section ROW2
variable {σ : aSg} {r q : Nat} {K : List AV → aSg → Prop} {x y i : Int}
theorem c36 (h : isRow r) (hk : RK σ) : CA m36 [.inr (.inl r), .inl x, .inl y] σ K = K [] (rs σ r (lins (cp r) (rv σ r) x y)) := by
  refine CA_eq ?_
  rw [e36]
  have h1 := rv_len hk h
  have h2 := hk r h
  have h3 : (ln (r + 1) : Int) = cp r := rfl
  have h5 := cp_le h
  unfold lins
  by_cases h0 : 0 ≤ x ∧ x ≤ (rv σ r).length ∧ (rv σ r).length < cp r
  · rw [if_pos h0]
    obtain ⟨p, rfl⟩ := Int.eq_ofNat_of_zero_le h0.1
    simp (disch := omega) only [s36_0, s36_1, s36_4, s36_5, s36_6, s36_9, s36_12, s36_13, s36_16, s36_17, s36_20, s36_21, s36_24, s36_25, s36_26, s36_29, s36_31, s36_32, s36_35, s36_36, s36_39, s36_40, s36_41, s36_44, s36_45, s36_46, s36_47, s36_48, s36_49, s36_52, s36_55, s36_56, s36_59, s36_60, s36_61, s36_62, s36_63, s36_64, s36_67, s36_68, s36_69, s36_72, h.1, h.2.1.1, h.2.1.2, h.2.2.1, isL, List.cons_append, List.nil_append, if_true, if_false, true_and, and_true, and_self, eq_self, true_or, or_true, false_or, or_false, tIn, tLe, fLe, tLt, fLt, tEq, fEq]
    generalize hc : (rv σ r).length = c at *
    rw [← h1]
    have lp : ∀ (n i : Nat), i - p = n → p ≤ i → i ≤ c → WP m36 30 [.inr (.inl r), .inl (p : Int), .inl y, .inl (i : Int)] [] (aupA σ (r + 1) (fun j => if i < j ∧ j ≤ c then σ (r + 1) (j - 1) else σ (r + 1) j)) (fun v σ' => v = [] ∧ σ' = rs σ r ((rv σ r).take (p : Int).toNat ++ y :: (rv σ r).drop (p : Int).toNat)) := by
      intro n
      induction n with
      | zero =>
        intro i hn h6 h7
        have e : i = p := by omega
        subst e
        have e1 : (aup (aupA σ (r + 1) (fun j => if i < j ∧ j ≤ c then σ (r + 1) (j - 1) else σ (r + 1) j)) (r + 1) (i : Int).toNat y) r 1 = σ r 1 := by simp [aup, aupA]
        rw [s36_30]
        simp (disch := omega) only [s36_0, s36_1, s36_4, s36_5, s36_6, s36_9, s36_12, s36_13, s36_16, s36_17, s36_20, s36_21, s36_24, s36_25, s36_26, s36_29, s36_31, s36_32, s36_35, s36_36, s36_39, s36_40, s36_41, s36_44, s36_45, s36_46, s36_47, s36_48, s36_49, s36_52, s36_55, s36_56, s36_59, s36_60, s36_61, s36_62, s36_63, s36_64, s36_67, s36_68, s36_69, s36_72, h.1, h.2.1.1, h.2.1.2, h.2.2.1, isL, List.cons_append, List.nil_append, if_true, if_false, true_and, and_true, and_self, eq_self, true_or, or_true, false_or, or_false, tIn, tLe, fLe, tLt, fLt, tEq, fEq, e1]
        refine rs_of (fun a i h1 h2 => by simp [aup, aupA, h2, h1]) (fun i hi => by simp [aup, aupA, hi]) (by simp [aup, List.length_take, List.length_drop]; omega) (fun j hj => ?_) (fun j hj => ?_)
        · simp only [List.length_append, List.length_cons, List.length_take, List.length_drop, Int.toNat_natCast] at hj
          rw [List.getD_eq_getElem?_getD]
          simp only [Int.toNat_natCast]
          by_cases e2 : j < i
          · rw [List.getElem?_append_left (by simp; omega), List.getElem?_take, if_pos e2, ← List.getD_eq_getElem?_getD, rv_getD (by omega)]
            simp [aup, aupA, show j ≠ i by omega, show ¬ i < j by omega]
          · rw [List.getElem?_append_right (by simp; omega)]
            simp only [List.length_take]
            rw [show min i (rv σ r).length = i by omega]
            by_cases e3 : j = i
            · subst e3
              simp [aup]
            · rw [show j - i = (j - i - 1) + 1 by omega, List.getElem?_cons_succ, List.getElem?_drop, ← List.getD_eq_getElem?_getD, rv_getD (by omega)]
              simp [aup, aupA, e3, show i < j by omega, show j ≤ c by omega]
              congr 1
              omega
        · simp only [List.length_append, List.length_cons, List.length_take, List.length_drop, Int.toNat_natCast] at hj
          simp [aup, aupA, show j ≠ i by omega, show ¬ (i < j ∧ j ≤ c) by omega]
      | succ n ih =>
        intro i hn h6 h7
        have e1 : (aupA σ (r + 1) (fun j => if i < j ∧ j ≤ c then σ (r + 1) (j - 1) else σ (r + 1) j)) (r + 1) ((i : Int) - 1).toNat = σ (r + 1) (i - 1) := by
          simp only [aupA, if_true]
          rw [if_neg (by omega), show ((i : Int) - 1).toNat = i - 1 by omega]
        rw [s36_30]
        simp (disch := omega) only [s36_0, s36_1, s36_4, s36_5, s36_6, s36_9, s36_12, s36_13, s36_16, s36_17, s36_20, s36_21, s36_24, s36_25, s36_26, s36_29, s36_31, s36_32, s36_35, s36_36, s36_39, s36_40, s36_41, s36_44, s36_45, s36_46, s36_47, s36_48, s36_49, s36_52, s36_55, s36_56, s36_59, s36_60, s36_61, s36_62, s36_63, s36_64, s36_67, s36_68, s36_69, s36_72, h.1, h.2.1.1, h.2.1.2, h.2.2.1, isL, List.cons_append, List.nil_append, if_true, if_false, true_and, and_true, and_self, eq_self, true_or, or_true, false_or, or_false, tIn, tLe, fLe, tLt, fLt, tEq, fEq, e1]
        have e2 : aup (aupA σ (r + 1) (fun j => if i < j ∧ j ≤ c then σ (r + 1) (j - 1) else σ (r + 1) j)) (r + 1) (i : Int).toNat (σ (r + 1) (i - 1)) = aupA σ (r + 1) (fun j => if i - 1 < j ∧ j ≤ c then σ (r + 1) (j - 1) else σ (r + 1) j) := by
          funext a j
          unfold aup aupA
          simp only [Int.toNat_natCast]
          by_cases ea : a = r + 1
          · subst ea
            by_cases ej : j = i
            · subst ej
              rw [if_pos ⟨rfl, rfl⟩, if_pos rfl, if_pos ⟨by omega, by omega⟩]
            · rw [if_neg (fun z => ej z.2), if_pos rfl, if_pos rfl]
              by_cases e3 : i < j ∧ j ≤ c
              · rw [if_pos e3, if_pos ⟨by omega, e3.2⟩]
              · rw [if_neg e3, if_neg (by omega)]
          · rw [if_neg (fun z => ea z.1), if_neg ea, if_neg ea]
        rw [e2, show (i : Int) + -1 = ((i - 1 : Nat) : Int) by omega]
        exact ih (i - 1) (by omega) (by omega) (by omega)
    have e0 : aupA σ (r + 1) (fun j => if c < j ∧ j ≤ c then σ (r + 1) (j - 1) else σ (r + 1) j) = σ := by
      funext a j
      unfold aupA
      split
      · rename_i ea
        subst ea
        dsimp only
        rw [if_neg (by omega)]
      · rfl
    have := lp (c - p) c rfl (by omega) (Nat.le_refl c)
    rw [e0] at this
    exact this
  · rw [if_neg h0, rs_self hk h]
    by_cases g1 : x < 0
    · simp (disch := omega) only [s36_0, s36_1, s36_4, s36_5, s36_6, s36_9, s36_12, s36_13, s36_16, s36_17, s36_20, s36_21, s36_24, s36_25, s36_26, s36_29, s36_31, s36_32, s36_35, s36_36, s36_39, s36_40, s36_41, s36_44, s36_45, s36_46, s36_47, s36_48, s36_49, s36_52, s36_55, s36_56, s36_59, s36_60, s36_61, s36_62, s36_63, s36_64, s36_67, s36_68, s36_69, s36_72, h.1, h.2.1.1, h.2.1.2, h.2.2.1, isL, List.cons_append, List.nil_append, if_true, if_false, true_and, and_true, and_self, eq_self, true_or, or_true, false_or, or_false, tIn, tLe, fLe, tLt, fLt, tEq, fEq]
    · by_cases g2 : σ r 1 < x
      · simp (disch := omega) only [s36_0, s36_1, s36_4, s36_5, s36_6, s36_9, s36_12, s36_13, s36_16, s36_17, s36_20, s36_21, s36_24, s36_25, s36_26, s36_29, s36_31, s36_32, s36_35, s36_36, s36_39, s36_40, s36_41, s36_44, s36_45, s36_46, s36_47, s36_48, s36_49, s36_52, s36_55, s36_56, s36_59, s36_60, s36_61, s36_62, s36_63, s36_64, s36_67, s36_68, s36_69, s36_72, h.1, h.2.1.1, h.2.1.2, h.2.2.1, isL, List.cons_append, List.nil_append, if_true, if_false, true_and, and_true, and_self, eq_self, true_or, or_true, false_or, or_false, tIn, tLe, fLe, tLt, fLt, tEq, fEq]
      · simp (disch := omega) only [s36_0, s36_1, s36_4, s36_5, s36_6, s36_9, s36_12, s36_13, s36_16, s36_17, s36_20, s36_21, s36_24, s36_25, s36_26, s36_29, s36_31, s36_32, s36_35, s36_36, s36_39, s36_40, s36_41, s36_44, s36_45, s36_46, s36_47, s36_48, s36_49, s36_52, s36_55, s36_56, s36_59, s36_60, s36_61, s36_62, s36_63, s36_64, s36_67, s36_68, s36_69, s36_72, h.1, h.2.1.1, h.2.1.2, h.2.2.1, isL, List.cons_append, List.nil_append, if_true, if_false, true_and, and_true, and_self, eq_self, true_or, or_true, false_or, or_false, tIn, tLe, fLe, tLt, fLt, tEq, fEq]
theorem c39 (h : isRow r) (hq : isRow q) (hrq : q ≠ r) (hk : RK σ) (hx : -1000000 ≤ x ∧ x ≤ 1000000) (hy : -1000000 ≤ y ∧ y ≤ 1000000) : CA m39 [.inr (.inl r), .inr (.inl q), .inl x, .inl y] σ K = K [] (rs σ r (lpart (cp r) (rv σ r) (rv σ q) x y)) := by
  rw [e39]
  have h1 := rv_len hk h
  have h2 := hk r h
  have h3 : (ln (r + 1) : Int) = cp r := rfl
  have h5 := cp_le h
  have g1 := rv_len hk hq
  have g2 := hk q hq
  have g3 : (ln (q + 1) : Int) = cp q := rfl
  have g5 := cp_le hq
  have s1 := row_sep h hq
  have s2 := row_sep hq h
  have kr := h.2.2.1
  have kq := hq.2.2.1
  by_cases h0 : min (min y (σ q 1) - max x 0) ((ln (r + 1) : Int) - σ r 1) ≤ 0
  · simp (disch := omega) only [s39_0, s39_1, s39_2, s39_5, s39_7, s39_8, s39_9, s39_12, s39_15, s39_17, s39_18, s39_19, s39_22, s39_23, s39_24, s39_27, s39_28, s39_31, s39_33, s39_35, s39_38, s39_39, s39_42, s39_44, s39_45, s39_48, s39_49, s39_52, s39_54, s39_57, s39_58, s39_59, s39_62, s39_64, s39_65, s39_68, h.1, h.2.1.1, h.2.1.2, h.2.2.1, hq.1, hq.2.1.1, hq.2.1.2, hq.2.2.1, isL, List.cons_append, List.nil_append, if_true, if_false, true_and, and_true, and_self, eq_self, true_or, or_true, false_or, or_false, tIn, tLe, fLe, tLt, fLt, tEq, fEq]
    have : lpart (cp r) (rv σ r) (rv σ q) x y = rv σ r := by
      unfold lpart
      have : (((rv σ q).take y.toNat).drop x.toNat).take (cp r - (rv σ r).length) = [] := by
        apply List.eq_nil_of_length_eq_zero
        simp
        omega
      rw [this, List.append_nil]
    rw [this, rs_self hk h]
  · have e1 : ∀ f : Nat → Int, (aupA σ (r + 1) f) r 1 = σ r 1 := fun f => by simp [aupA]
    generalize hm : min (min y (σ q 1) - max x 0) ((ln (r + 1) : Int) - σ r 1) = m at *
    simp (disch := omega) only [s39_0, s39_1, s39_2, s39_5, s39_7, s39_8, s39_9, s39_12, s39_15, s39_17, s39_18, s39_19, s39_22, s39_23, s39_24, s39_27, s39_28, s39_31, s39_33, s39_35, s39_38, s39_39, s39_42, s39_44, s39_45, s39_48, s39_49, s39_52, s39_54, s39_57, s39_58, s39_59, s39_62, s39_64, s39_65, s39_68, h.1, h.2.1.1, h.2.1.2, h.2.2.1, hq.1, hq.2.1.1, hq.2.1.2, hq.2.2.1, isL, List.cons_append, List.nil_append, if_true, if_false, true_and, and_true, and_self, eq_self, true_or, or_true, false_or, or_false, tIn, tLe, fLe, tLt, fLt, tEq, fEq, hm, e1]
    congr 1
    have hlen : ((((rv σ q).take y.toNat).drop x.toNat).take (cp r - (rv σ r).length)).length = m.toNat := by simp; omega
    refine rs_of (fun a i h1 h2 => by simp [aup, aupA, h2, h1]) (fun i hi => by simp [aup, aupA, hi]) ?_ (fun j hj => ?_) (fun j hj => ?_)
    · unfold lpart
      rw [List.length_append, hlen]
      simp [aup]
      omega
    · unfold lpart at hj ⊢
      rw [List.length_append, hlen] at hj
      rw [List.getD_eq_getElem?_getD]
      by_cases e2 : j < (rv σ r).length
      · rw [List.getElem?_append_left e2, ← List.getD_eq_getElem?_getD, rv_getD e2]
        simp [aup, aupA, va_cpy]
        intro _ _
        omega
      · rw [List.getElem?_append_right (by omega), List.getElem?_take, if_pos (by omega), List.getElem?_drop, List.getElem?_take, if_pos (by omega), ← List.getD_eq_getElem?_getD, rv_getD (by omega)]
        simp [aup, aupA, va_cpy, show ((σ r 1).toNat ≤ j ∧ j < (σ r 1).toNat + m.toNat) by omega]
        congr 1
        omega
    · unfold lpart at hj
      rw [List.length_append, hlen] at hj
      simp [aup, aupA, va_cpy]
      intro _ _
      omega
theorem lpart_le {c : Nat} {l o : List Int} (h : l.length ≤ c) : (lpart c l o x y).length ≤ c := by
  unfold lpart
  simp
  omega
theorem c38 (h : isRow r) (hq : isRow q) (hrq : q ≠ r) (hk : RK σ) : CA m38 [.inr (.inl r), .inr (.inl q)] σ K = K [] (rs σ r (rv σ r ++ (rv σ q).take (cp r - (rv σ r).length))) := by
  rw [e38]
  have g1 := rv_len hk hq
  have g2 := hk q hq
  have g5 := cp_le hq
  simp (disch := omega) only [s38_0, s38_1, s38_2, s38_3, s38_4, s38_7, s38_10, h.1, hq.1, List.cons_append, List.nil_append, if_true, if_false, true_and, and_true, and_self, eq_self, true_or, or_true, false_or, or_false, tIn, tLe, fLe, tLt, fLt, tEq, fEq]
  rw [c39 h hq hrq hk (by omega) (by omega)]
  simp only [s38_0, s38_1, s38_2, s38_3, s38_4, s38_7, s38_10, List.cons_append, List.nil_append, if_true, if_false, true_and, and_true, and_self, eq_self, true_or, or_true, false_or, or_false]
  unfold lpart
  rw [List.take_of_length_le (i := (σ q 1).toNat) (by omega)]
  rfl
theorem c40 (h : isRow r) (hq : isRow q) (hrq : q ≠ r) (hk : RK σ) : CA m40 [.inr (.inl r), .inr (.inl q)] σ K = K [] (rs σ r ((rv σ q).take (cp r))) := by
  rw [e40]
  have hk2 : RK (rs σ r []) := RK_rs hk h (by simp)
  simp (disch := omega) only [s40_0, s40_1, s40_4, s40_5, s40_6, s40_9, h.1, hq.1, c29 h hk, c38 h hq hrq hk2, rv_rs, rv_ne h hq hrq, List.cons_append, List.nil_append, if_true, if_false, true_and, and_true, and_self, eq_self, true_or, or_true, false_or, or_false, tIn, tLe, fLe, tLt, fLt, tEq, fEq, List.length_nil, Nat.sub_zero]
  rw [rs_grow (by simp)]
theorem lat_rv {i : Nat} (hi : i < (rv σ r).length) : lat (rv σ r) (i : Int) = (rv σ r)[i] := lat_in hi
theorem c41 (h : isRow r) (hq : isRow q) (hk : RK σ) : CA m41 [.inr (.inl r), .inr (.inl q)] σ K = K [.inl (if rv σ r = rv σ q then 1 else 0)] σ := by
  refine CA_eq ?_
  rw [e41]
  have h1 := rv_len hk h
  have h2 := hk r h
  have h5 := cp_le h
  have g1 := rv_len hk hq
  have g2 := hk q hq
  by_cases h0 : σ r 1 = σ q 1
  · simp (disch := omega) only [s41_0, s41_1, s41_4, s41_5, s41_8, s41_11, s41_12, s41_13, s41_14, s41_16, s41_17, s41_20, s41_23, s41_24, s41_25, s41_28, s41_29, s41_30, s41_33, s41_36, s41_37, s41_38, s41_41, s41_44, s41_45, h.1, hq.1, isL, List.cons_append, List.nil_append, if_true, if_false, true_and, and_true, and_self, eq_self, true_or, or_true, false_or, or_false, tIn, tLe, fLe, tLt, fLt, tEq, fEq]
    have lp : ∀ (n i : Nat), (rv σ r).length - i = n → i ≤ (rv σ r).length → (∀ j, j < i → (rv σ r)[j]? = (rv σ q)[j]?) → WP m41 15 [.inr (.inl r), .inr (.inl q), .inl (i : Int)] [] σ (fun v σ' => v = [.inl (if rv σ r = rv σ q then 1 else 0)] ∧ σ' = σ) := by
      intro n
      induction n with
      | zero =>
        intro i hn hi hj
        have : rv σ r = rv σ q := by
          apply List.ext_getElem?
          intro j
          by_cases hji : j < i
          · exact hj j hji
          · rw [List.getElem?_eq_none (by omega), List.getElem?_eq_none (by omega)]
        rw [s41_15]
        simp (disch := omega) only [s41_0, s41_1, s41_4, s41_5, s41_8, s41_11, s41_12, s41_13, s41_14, s41_16, s41_17, s41_20, s41_23, s41_24, s41_25, s41_28, s41_29, s41_30, s41_33, s41_36, s41_37, s41_38, s41_41, s41_44, s41_45, h.1, hq.1, isL, List.cons_append, List.nil_append, if_true, if_false, true_and, and_true, and_self, eq_self, true_or, or_true, false_or, or_false, tIn, tLe, fLe, tLt, fLt, tEq, fEq, this]
      | succ n ih =>
        intro i hn hi hj
        have i1 : i < (rv σ r).length := by omega
        have i2 : i < (rv σ q).length := by omega
        by_cases he : (rv σ r)[i] = (rv σ q)[i]
        · rw [s41_15]
          simp (disch := omega) only [s41_0, s41_1, s41_4, s41_5, s41_8, s41_11, s41_12, s41_13, s41_14, s41_16, s41_17, s41_20, s41_23, s41_24, s41_25, s41_28, s41_29, s41_30, s41_33, s41_36, s41_37, s41_38, s41_41, s41_44, s41_45, h.1, hq.1, isL, List.cons_append, List.nil_append, if_true, if_false, true_and, and_true, and_self, eq_self, true_or, or_true, false_or, or_false, tIn, tLe, fLe, tLt, fLt, tEq, fEq, c30 h hk, c30 hq hk, lat_rv i1, lat_rv i2, he]
          exact ih (i + 1) (by omega) (by omega) (fun j hj2 => by
            by_cases e : j = i
            · subst e
              rw [List.getElem?_eq_getElem i1, List.getElem?_eq_getElem i2, he]
            · exact hj j (by omega))
        · have : ¬ rv σ r = rv σ q := by
            intro e
            apply he
            simp only [e]
          rw [s41_15]
          simp (disch := omega) only [s41_0, s41_1, s41_4, s41_5, s41_8, s41_11, s41_12, s41_13, s41_14, s41_16, s41_17, s41_20, s41_23, s41_24, s41_25, s41_28, s41_29, s41_30, s41_33, s41_36, s41_37, s41_38, s41_41, s41_44, s41_45, h.1, hq.1, isL, List.cons_append, List.nil_append, if_true, if_false, true_and, and_true, and_self, eq_self, true_or, or_true, false_or, or_false, tIn, tLe, fLe, tLt, fLt, tEq, fEq, c30 h hk, c30 hq hk, lat_rv i1, lat_rv i2, he, this]
    exact lp (rv σ r).length 0 (by omega) (by omega) (fun j hj => by omega)
  · have : ¬ rv σ r = rv σ q := by
      intro e
      rw [e] at h1
      omega
    simp (disch := omega) only [s41_0, s41_1, s41_4, s41_5, s41_8, s41_11, s41_12, s41_13, s41_14, s41_16, s41_17, s41_20, s41_23, s41_24, s41_25, s41_28, s41_29, s41_30, s41_33, s41_36, s41_37, s41_38, s41_41, s41_44, s41_45, h.1, hq.1, isL, List.cons_append, List.nil_append, if_true, if_false, true_and, and_true, and_self, eq_self, true_or, or_true, false_or, or_false, tIn, tLe, fLe, tLt, fLt, tEq, fEq, this]
theorem c42 (h : isRow r) (hk : RK σ) : CA m42 [.inr (.inl r), .inl x] σ K = K [.inl ((rv σ r).count x : Int)] σ := by
  refine CA_eq ?_
  rw [e42]
  have h1 := rv_len hk h
  have h2 := hk r h
  have h3 : (ln (r + 1) : Int) = cp r := rfl
  have h5 := cp_le h
  simp (disch := omega) only [s42_0, s42_1, s42_2, s42_3, s42_5, s42_6, s42_9, s42_12, s42_13, s42_16, s42_17, s42_18, s42_19, s42_22, s42_25, s42_28, s42_31, s42_32, h.1, isL, List.cons_append, List.nil_append, if_true, if_false, true_and, and_true, and_self, eq_self, true_or, or_true, false_or, or_false, tIn, tLe, fLe, tLt, fLt, tEq, fEq]
  have lp : ∀ (n i : Nat), (rv σ r).length - i = n → i ≤ (rv σ r).length → WP m42 4 [.inr (.inl r), .inl x, .inl (((rv σ r).take i).count x : Int), .inl (i : Int)] [] σ (fun v σ' => v = [.inl ((rv σ r).count x : Int)] ∧ σ' = σ) := by
    intro n
    induction n with
    | zero =>
      intro i hn hi
      have : (rv σ r).take i = rv σ r := List.take_of_length_le (by omega)
      rw [s42_4, this]
      simp (disch := omega) only [s42_0, s42_1, s42_2, s42_3, s42_5, s42_6, s42_9, s42_12, s42_13, s42_16, s42_17, s42_18, s42_19, s42_22, s42_25, s42_28, s42_31, s42_32, h.1, isL, List.cons_append, List.nil_append, if_true, if_false, true_and, and_true, and_self, eq_self, true_or, or_true, false_or, or_false, tIn, tLe, fLe, tLt, fLt, tEq, fEq]
    | succ n ih =>
      intro i hn hi
      have i1 : i < (rv σ r).length := by omega
      have e1 : (rv σ r).take (i + 1) = (rv σ r).take i ++ [(rv σ r)[i]] := by rw [List.take_succ, List.getElem?_eq_getElem i1]; rfl
      have e2 : σ (r + 1) i = (rv σ r)[i] := by
        have := rv_at i1
        rw [List.getElem?_eq_getElem i1] at this
        exact (Option.some.inj this).symm
      have c0 : ((rv σ r).take i).count x ≤ i := by
        have := List.count_le_length (l := (rv σ r).take i) (a := x)
        simp at this
        omega
      have ih' := ih (i + 1) (by omega) (by omega)
      rw [e1, List.count_append] at ih'
      rw [s42_4]
      by_cases he : (rv σ r)[i] = x
      · simp (disch := omega) only [s42_0, s42_1, s42_2, s42_3, s42_5, s42_6, s42_9, s42_12, s42_13, s42_16, s42_17, s42_18, s42_19, s42_22, s42_25, s42_28, s42_31, s42_32, h.1, h.2.1.1, h.2.1.2, h.2.2.1, isL, List.cons_append, List.nil_append, if_true, if_false, true_and, and_true, and_self, eq_self, true_or, or_true, false_or, or_false, tIn, tLe, fLe, tLt, fLt, tEq, fEq, Int.toNat_natCast, e2, he]
        simp [he] at ih'
        exact ih'
      · simp (disch := omega) only [s42_0, s42_1, s42_2, s42_3, s42_5, s42_6, s42_9, s42_12, s42_13, s42_16, s42_17, s42_18, s42_19, s42_22, s42_25, s42_28, s42_31, s42_32, h.1, h.2.1.1, h.2.1.2, h.2.2.1, isL, List.cons_append, List.nil_append, if_true, if_false, true_and, and_true, and_self, eq_self, true_or, or_true, false_or, or_false, tIn, tLe, fLe, tLt, fLt, tEq, fEq, Int.toNat_natCast, e2, he]
        simp [he] at ih'
        exact ih'
  exact lp (rv σ r).length 0 (by omega) (by omega)
end ROW2
