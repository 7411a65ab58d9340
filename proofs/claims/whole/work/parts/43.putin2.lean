/-! putIn: the public parts -/
section PJ
variable {σ : aSg} {K : List AV → aSg → Prop} {x y z i : Int} {S : SS} {T : List Int} {r : Nat}
theorem k93 (hR : RepC σ S) : CC m93 [.inr (.inl 0), .inl x, .inl y, .inl z] σ (f93 S x y z).1 (f93 S x y z).2 := by
  unfold CC
  rw [e93]
  unfold f93
  have hk := hR.1
  by_cases hx : 0 ≤ x ∧ x < 4
  · by_cases hz : 0 ≤ z ∧ z < 4
    · rw [if_neg (fun q => q ⟨hx, hz⟩)]
      obtain ⟨p, rfl⟩ := Int.eq_ofNat_of_zero_le hx.1
      obtain ⟨q, rfl⟩ := Int.eq_ofNat_of_zero_le hz.1
      have hp : p < 4 := by omega
      have hq : q < 4 := by omega
      have vp := hR.2.2.2.1 p hp
      have vq := hR.2.2.2.1 q hq
      have op := hR.2.1.2.2.1 p hp
      have oq := hR.2.1.2.2.1 q hq
      have lp := sh_len op
      have lq := sh_len oq
      have rp := rowS hp
      have rq := rowS hq
      have tp := ptS p hp
      have tq := ptS q hq
      have k3 := kd3
      have l3 := ln3
      simp only [Int.toNat_natCast]
      by_cases hy : 97 ≤ y ∧ y ≤ 122
      · rw [if_neg (fun q => q hy)]
        by_cases ep : sv S p = []
        · rw [if_pos (Or.inl ep)]
          simp (disch := omega) only [s93_0, s93_1, s93_4, s93_7, s93_8, s93_11, s93_14, s93_16, s93_17, s93_18, s93_21, s93_24, s93_26, s93_27, s93_28, s93_29, s93_32, s93_35, s93_36, s93_37, s93_40, s93_43, s93_44, s93_45, s93_48, s93_51, s93_52, s93_53, s93_56, s93_59, s93_61, s93_62, s93_63, s93_64, s93_67, s93_68, s93_69, s93_70, s93_71, s93_74, s93_75, s93_76, s93_79, s93_80, s93_81, s93_84, List.cons_append, List.nil_append, if_true, if_false, true_and, and_true, and_self, eq_self, true_or, or_true, false_or, or_false, tIn, tLe, fLe, tLt, fLt, tEq, fEq, c113, c116, c111 hp hk, vp, ep]
          exact ⟨hR, fun _ _ => rfl⟩
        by_cases eq : sv S q = []
        · rw [if_pos (Or.inr (Or.inl eq))]
          simp (disch := omega) only [s93_0, s93_1, s93_4, s93_7, s93_8, s93_11, s93_14, s93_16, s93_17, s93_18, s93_21, s93_24, s93_26, s93_27, s93_28, s93_29, s93_32, s93_35, s93_36, s93_37, s93_40, s93_43, s93_44, s93_45, s93_48, s93_51, s93_52, s93_53, s93_56, s93_59, s93_61, s93_62, s93_63, s93_64, s93_67, s93_68, s93_69, s93_70, s93_71, s93_74, s93_75, s93_76, s93_79, s93_80, s93_81, s93_84, List.cons_append, List.nil_append, if_true, if_false, true_and, and_true, and_self, eq_self, true_or, or_true, false_or, or_false, tIn, tLe, fLe, tLt, fLt, tEq, fEq, c113, c116, c111 hp hk, c111 hq hk, vp, vq, ep, eq]
          exact ⟨hR, fun _ _ => rfl⟩
        by_cases np : 0 < nbB (sv S p)
        · rw [if_pos (Or.inr (Or.inr (Or.inl np)))]
          simp (disch := omega) only [s93_0, s93_1, s93_4, s93_7, s93_8, s93_11, s93_14, s93_16, s93_17, s93_18, s93_21, s93_24, s93_26, s93_27, s93_28, s93_29, s93_32, s93_35, s93_36, s93_37, s93_40, s93_43, s93_44, s93_45, s93_48, s93_51, s93_52, s93_53, s93_56, s93_59, s93_61, s93_62, s93_63, s93_64, s93_67, s93_68, s93_69, s93_70, s93_71, s93_74, s93_75, s93_76, s93_79, s93_80, s93_81, s93_84, List.cons_append, List.nil_append, if_true, if_false, true_and, and_true, and_self, eq_self, true_or, or_true, false_or, or_false, tIn, tLe, fLe, tLt, fLt, tEq, fEq, c113, c116, c111 hp hk, c111 hq hk, c112 hp hk (show (rv σ (4 + 2 * p)).length ≤ 10000 by rw [vp]; omega), vp, vq, ep, eq, np]
          exact ⟨hR, fun _ _ => rfl⟩
        by_cases nq : 0 < nbB (sv S q)
        · rw [if_pos (Or.inr (Or.inr (Or.inr nq)))]
          simp (disch := omega) only [s93_0, s93_1, s93_4, s93_7, s93_8, s93_11, s93_14, s93_16, s93_17, s93_18, s93_21, s93_24, s93_26, s93_27, s93_28, s93_29, s93_32, s93_35, s93_36, s93_37, s93_40, s93_43, s93_44, s93_45, s93_48, s93_51, s93_52, s93_53, s93_56, s93_59, s93_61, s93_62, s93_63, s93_64, s93_67, s93_68, s93_69, s93_70, s93_71, s93_74, s93_75, s93_76, s93_79, s93_80, s93_81, s93_84, List.cons_append, List.nil_append, if_true, if_false, true_and, and_true, and_self, eq_self, true_or, or_true, false_or, or_false, tIn, tLe, fLe, tLt, fLt, tEq, fEq, c113, c116, c111 hp hk, c111 hq hk, c112 hp hk (show (rv σ (4 + 2 * p)).length ≤ 10000 by rw [vp]; omega), c112 hq hk (show (rv σ (4 + 2 * q)).length ≤ 10000 by rw [vq]; omega), vp, vq, ep, eq, np, nq]
          exact ⟨hR, fun _ _ => rfl⟩
        rw [if_neg (by rintro (h | h | h | h) <;> contradiction)]
        have wf : wfT (putL y (sv S q) (sv S p)) := putL_ok (arT_0 (by omega) (by omega)) (sh_wf oq eq) (sh_wf op ep)
        simp (disch := omega) only [s93_0, s93_1, s93_4, s93_7, s93_8, s93_11, s93_14, s93_16, s93_17, s93_18, s93_21, s93_24, s93_26, s93_27, s93_28, s93_29, s93_32, s93_35, s93_36, s93_37, s93_40, s93_43, s93_44, s93_45, s93_48, s93_51, s93_52, s93_53, s93_56, s93_59, s93_61, s93_62, s93_63, s93_64, s93_67, s93_68, s93_69, s93_70, s93_71, s93_74, s93_75, s93_76, s93_79, s93_80, s93_81, s93_84, List.cons_append, List.nil_append, if_true, if_false, true_and, and_true, and_self, eq_self, true_or, or_true, false_or, or_false, tIn, tLe, fLe, tLt, fLt, tEq, fEq, rs_ap, aup_s, aup_n1, aup_n2, Int.toNat_natCast, c113, c116, c111 hp hk, c111 hq hk, c112 hp hk (show (rv σ (4 + 2 * p)).length ≤ 10000 by rw [vp]; omega), c112 hq hk (show (rv σ (4 + 2 * q)).length ≤ 10000 by rw [vq]; omega), vp, vq, ep, eq, np, nq, k3, l3, tp.1, tp.2, tq.1, tq.2, rp.1, rq.1, c108 rp rq (show 4 + 2 * p ≠ 53 by omega) (show 4 + 2 * q ≠ 53 by omega) (show 4 + 2 * p < 52 by omega) (show 4 + 2 * q < 52 by omega) hk (show (rv σ (4 + 2 * p)).length ≤ 10000 by rw [vp]; omega)]
        have el : layS S p (putL y (sv S q) (sv S p)) = layS S p ((putL y (sv S q) (sv S p)).take 1032) := by
          apply lay_big
          by_cases g : (putL y (sv S q) (sv S p)).length ≤ 1032
          · exact Or.inl (List.take_of_length_le g).symm
          · right
            rw [List.length_take]
            omega
        rw [el]
        refine CA_use (change_ok (hR.made (by rw [List.length_take]; omega)) hp rv_rs (fun hl => Or.inr ⟨?_, hl⟩)) (fun v σ' h => ?_)
        · rw [List.length_take] at hl
          rw [List.take_of_length_le (by omega)]
          exact wf
        · obtain ⟨rfl, h2, h3⟩ := h
          simp (disch := omega) only [s93_0, s93_1, s93_4, s93_7, s93_8, s93_11, s93_14, s93_16, s93_17, s93_18, s93_21, s93_24, s93_26, s93_27, s93_28, s93_29, s93_32, s93_35, s93_36, s93_37, s93_40, s93_43, s93_44, s93_45, s93_48, s93_51, s93_52, s93_53, s93_56, s93_59, s93_61, s93_62, s93_63, s93_64, s93_67, s93_68, s93_69, s93_70, s93_71, s93_74, s93_75, s93_76, s93_79, s93_80, s93_81, s93_84, List.cons_append, List.nil_append, if_true, if_false, true_and, and_true, and_self, eq_self, true_or, or_true, false_or, or_false, tIn, tLe, fLe, tLt, fLt, tEq, fEq]
          exact ⟨h2, fun a ha => (h3 a ha).trans (rs_at (by omega) (by omega))⟩
      · rw [if_pos hy]
        simp (disch := omega) only [s93_0, s93_1, s93_4, s93_7, s93_8, s93_11, s93_14, s93_16, s93_17, s93_18, s93_21, s93_24, s93_26, s93_27, s93_28, s93_29, s93_32, s93_35, s93_36, s93_37, s93_40, s93_43, s93_44, s93_45, s93_48, s93_51, s93_52, s93_53, s93_56, s93_59, s93_61, s93_62, s93_63, s93_64, s93_67, s93_68, s93_69, s93_70, s93_71, s93_74, s93_75, s93_76, s93_79, s93_80, s93_81, s93_84, List.cons_append, List.nil_append, if_true, if_false, true_and, and_true, and_self, eq_self, true_or, or_true, false_or, or_false, tIn, tLe, fLe, tLt, fLt, tEq, fEq, c113, c116, hy]
        exact ⟨hR, fun _ _ => rfl⟩
    · rw [if_pos (fun q => hz q.2)]
      simp (disch := omega) only [s93_0, s93_1, s93_4, s93_7, s93_8, s93_11, s93_14, s93_16, s93_17, s93_18, s93_21, s93_24, s93_26, s93_27, s93_28, s93_29, s93_32, s93_35, s93_36, s93_37, s93_40, s93_43, s93_44, s93_45, s93_48, s93_51, s93_52, s93_53, s93_56, s93_59, s93_61, s93_62, s93_63, s93_64, s93_67, s93_68, s93_69, s93_70, s93_71, s93_74, s93_75, s93_76, s93_79, s93_80, s93_81, s93_84, List.cons_append, List.nil_append, if_true, if_false, true_and, and_true, and_self, eq_self, true_or, or_true, false_or, or_false, tIn, tLe, fLe, tLt, fLt, tEq, fEq, c113, hz]
      exact ⟨hR, fun _ _ => rfl⟩
  · rw [if_pos (fun q => hx q.1)]
    simp (disch := omega) only [s93_0, s93_1, s93_4, s93_7, s93_8, s93_11, s93_14, s93_16, s93_17, s93_18, s93_21, s93_24, s93_26, s93_27, s93_28, s93_29, s93_32, s93_35, s93_36, s93_37, s93_40, s93_43, s93_44, s93_45, s93_48, s93_51, s93_52, s93_53, s93_56, s93_59, s93_61, s93_62, s93_63, s93_64, s93_67, s93_68, s93_69, s93_70, s93_71, s93_74, s93_75, s93_76, s93_79, s93_80, s93_81, s93_84, List.cons_append, List.nil_append, if_true, if_false, true_and, and_true, and_self, eq_self, true_or, or_true, false_or, or_false, tIn, tLe, fLe, tLt, fLt, tEq, fEq, c113, hx]
    exact ⟨hR, fun _ _ => rfl⟩
theorem c159 {s : Nat} {l : List Int} (hs : s < 4) (h : shM σ (121 * s) l) (hl : l.length ≤ 120) (hk : tks l) : CA m159 [.inr (.inl 130), .inl (s : Int)] σ K = K [.inl (if 0 < nbB l then 1 else 0)] σ := by
  refine CA_eq ?_
  rw [e159]
  have l0 := ln131
  have hsz : σ 131 (121 * s) = (l.length : Int) := h.1
  simp (disch := omega) only [s159_0, s159_1, s159_2, s159_3, s159_5, s159_6, s159_7, s159_10, s159_13, s159_14, s159_17, s159_18, s159_21, s159_23, s159_24, s159_25, s159_26, s159_27, s159_28, s159_29, s159_30, s159_33, s159_36, s159_37, s159_40, s159_41, s159_42, s159_45, s159_48, s159_49, List.cons_append, List.nil_append, if_true, if_false, true_and, and_true, and_self, eq_self, true_or, or_true, false_or, or_false, tIn, tLe, fLe, tLt, fLt, tEq, fEq]
  have lp : ∀ (n p : Nat) (c : Int), l.length - p = n → p ≤ l.length → (c = 0 ∧ nbB (l.drop p) = nbB l ∨ c = 1 ∧ 0 < nbB l) → WP m159 4 [.inr (.inl 130), .inl (s : Int), .inl c, .inl (p : Int)] [] σ (fun v σ' => v = [.inl (if 0 < nbB l then 1 else 0)] ∧ σ' = σ) := by
    intro n
    induction n with
    | zero =>
      intro p c hn hp hc
      rw [List.drop_eq_nil_of_le (by omega)] at hc
      simp only [nbB] at hc
      rw [s159_4]
      rcases hc with ⟨rfl, hc⟩ | ⟨rfl, hc⟩
      · rw [if_neg (by omega)]
        simp (disch := omega) only [s159_0, s159_1, s159_2, s159_3, s159_5, s159_6, s159_7, s159_10, s159_13, s159_14, s159_17, s159_18, s159_21, s159_23, s159_24, s159_25, s159_26, s159_27, s159_28, s159_29, s159_30, s159_33, s159_36, s159_37, s159_40, s159_41, s159_42, s159_45, s159_48, s159_49, List.cons_append, List.nil_append, if_true, if_false, true_and, and_true, and_self, eq_self, true_or, or_true, false_or, or_false, tIn, tLe, fLe, tLt, fLt, tEq, fEq, c131 hs, hsz]
      · rw [if_pos (by omega)]
        simp (disch := omega) only [s159_0, s159_1, s159_2, s159_3, s159_5, s159_6, s159_7, s159_10, s159_13, s159_14, s159_17, s159_18, s159_21, s159_23, s159_24, s159_25, s159_26, s159_27, s159_28, s159_29, s159_30, s159_33, s159_36, s159_37, s159_40, s159_41, s159_42, s159_45, s159_48, s159_49, List.cons_append, List.nil_append, if_true, if_false, true_and, and_true, and_self, eq_self, true_or, or_true, false_or, or_false, tIn, tLe, fLe, tLt, fLt, tEq, fEq, c131 hs, hsz]
    | succ n ih =>
      intro p c hn hp hc
      have hpl : p < l.length := by omega
      have e2 : (121 * (s : Int) + 1 + (p : Int)).toNat = 121 * s + 1 + p := by omega
      have e3 : σ 131 (121 * s + 1 + p) = tau l[p] := h.2 p _ (List.getElem?_eq_getElem hpl)
      have tb := tau_b (hk _ (List.getElem_mem hpl))
      rw [s159_4]
      rcases hc with ⟨rfl, hc⟩ | ⟨rfl, hc⟩
      · rw [List.drop_eq_getElem_cons hpl] at hc
        simp only [nbB] at hc
        by_cases g : 1000 < l[p]
        · have g1 := tb.mpr g
          rw [if_pos g] at hc
          simp (disch := omega) only [s159_0, s159_1, s159_2, s159_3, s159_5, s159_6, s159_7, s159_10, s159_13, s159_14, s159_17, s159_18, s159_21, s159_23, s159_24, s159_25, s159_26, s159_27, s159_28, s159_29, s159_30, s159_33, s159_36, s159_37, s159_40, s159_41, s159_42, s159_45, s159_48, s159_49, List.cons_append, List.nil_append, if_true, if_false, true_and, and_true, and_self, eq_self, true_or, or_true, false_or, or_false, tIn, tLe, fLe, tLt, fLt, tEq, fEq, c131 hs, hsz, kd131, ln131, e2, e3, c129]
          exact ih (p + 1) 1 (by omega) (by omega) (Or.inr ⟨rfl, by omega⟩)
        · have g1 : ¬ 1000 ≤ tau l[p] := fun q => g (tb.mp q)
          rw [if_neg g] at hc
          simp (disch := omega) only [s159_0, s159_1, s159_2, s159_3, s159_5, s159_6, s159_7, s159_10, s159_13, s159_14, s159_17, s159_18, s159_21, s159_23, s159_24, s159_25, s159_26, s159_27, s159_28, s159_29, s159_30, s159_33, s159_36, s159_37, s159_40, s159_41, s159_42, s159_45, s159_48, s159_49, List.cons_append, List.nil_append, if_true, if_false, true_and, and_true, and_self, eq_self, true_or, or_true, false_or, or_false, tIn, tLe, fLe, tLt, fLt, tEq, fEq, c131 hs, hsz, kd131, ln131, e2, e3, c129]
          exact ih (p + 1) 0 (by omega) (by omega) (Or.inl ⟨rfl, by omega⟩)
      · simp (disch := omega) only [s159_0, s159_1, s159_2, s159_3, s159_5, s159_6, s159_7, s159_10, s159_13, s159_14, s159_17, s159_18, s159_21, s159_23, s159_24, s159_25, s159_26, s159_27, s159_28, s159_29, s159_30, s159_33, s159_36, s159_37, s159_40, s159_41, s159_42, s159_45, s159_48, s159_49, List.cons_append, List.nil_append, if_true, if_false, true_and, and_true, and_self, eq_self, true_or, or_true, false_or, or_false, tIn, tLe, fLe, tLt, fLt, tEq, fEq, c131 hs, hsz]
        exact ih (p + 1) 1 (by omega) (by omega) (Or.inr ⟨rfl, by omega⟩)
  exact lp _ 0 0 rfl (by omega) (Or.inl ⟨rfl, by simp⟩)
theorem c160 {s : Nat} {l : List Int} (hs : s < 4) (h : shM σ (121 * s) l) (hl : l.length ≤ 120) (hk : tks l) : CA m160 [.inr (.inl 130), .inl (s : Int)] σ K = K [.inl (if l = [] ∨ 0 < nbB l then 0 else 1)] σ := by
  rw [e160]
  have hsz : σ 131 (121 * s) = (l.length : Int) := h.1
  by_cases g : l = []
  · subst g
    rw [if_pos (Or.inl rfl)]
    simp (disch := omega) only [s160_0, s160_1, s160_2, s160_5, s160_8, s160_9, s160_10, s160_13, s160_16, s160_17, s160_20, s160_21, List.cons_append, List.nil_append, if_true, if_false, true_and, and_true, and_self, eq_self, true_or, or_true, false_or, or_false, tIn, tLe, fLe, tLt, fLt, tEq, fEq, c131 hs, hsz, List.length_nil, Int.natCast_zero]
  · have : 0 < l.length := List.length_pos_iff.mpr g
    by_cases g2 : 0 < nbB l
    · rw [if_pos (Or.inr g2)]
      simp (disch := omega) only [s160_0, s160_1, s160_2, s160_5, s160_8, s160_9, s160_10, s160_13, s160_16, s160_17, s160_20, s160_21, List.cons_append, List.nil_append, if_true, if_false, true_and, and_true, and_self, eq_self, true_or, or_true, false_or, or_false, tIn, tLe, fLe, tLt, fLt, tEq, fEq, c131 hs, hsz, c159 hs h hl hk, g2]
    · rw [if_neg (by rintro (q | q) <;> contradiction)]
      simp (disch := omega) only [s160_0, s160_1, s160_2, s160_5, s160_8, s160_9, s160_10, s160_13, s160_16, s160_17, s160_20, s160_21, List.cons_append, List.nil_append, if_true, if_false, true_and, and_true, and_self, eq_self, true_or, or_true, false_or, or_false, tIn, tLe, fLe, tLt, fLt, tEq, fEq, c131 hs, hsz, c159 hs h hl hk, g2]
theorem sh_tks {l : List Int} (h : shOk l) : tks l := by
  rcases h with rfl | h
  · intro c hc; cases hc
  · exact h.1.2
theorem tau_nm {c n : Int} (h : tok c) (hn : 97 ≤ n ∧ n ≤ 122) : tau c = n ↔ c = n := by
  unfold tok at h; unfold tau
  repeat' split
  all_goals omega
end PJ
