/-! work, steps -/
noncomputable def wkA (how : Int) (n : Nat) (T : List Int) : Nat × List Int := if how = 0 then ((wkP n T).1, (wkP n T).2.take 301) else wkS n (gr0 T)
noncomputable def f94 (S : SS) (x how n : Int) : Int × SS := if ¬ (0 ≤ x ∧ x < 4) then (UNK, S) else if ¬ ((how = 0 ∨ how = 1) ∧ 0 ≤ n ∧ n ≤ 200) then (OUT, S) else if sv S x.toNat = [] ∨ 0 < nbB (sv S x.toNat) then (NOTc, S) else if 120 < (wkA how n.toNat (sv S x.toNat)).2.length then (FUL, S) else ((wkA how n.toNat (sv S x.toNat)).1, (layS S x.toNat (wkA how n.toNat (sv S x.toNat)).2).2)
noncomputable def f102 (S : SS) (x how : Int) : Int × SS := (if ¬ (0 ≤ x ∧ x < 4) then UNK else if ¬ (how = 0 ∨ how = 1) then OUT else if sv S x.toNat = [] ∨ 0 < nbB (sv S x.toNat) then NOTc else if 300 < (wkA how 200 (sv S x.toNat)).2.length then -3 else if (scn (wkA how 200 (sv S x.toNat)).2 0 0).isSome = true then -2 else ((wkA how 200 (sv S x.toNat)).1 : Int), S)
section WRK
variable {σ σ0 σ' : aSg} {K : List AV → aSg → Prop} {x y z i c : Int} {S : SS} {T W st F R s : List Int} {r q t j k p h N : Nat} {G : Gr} {ρ : Nat → Nat}
theorem nbB_A : ∀ l : List Int, nbB l = 0 → nbA l := by
  intro l
  induction l with
  | nil => intro _ c hc; cases hc
  | cons d l ih =>
    intro h c hc
    simp only [nbB] at h
    by_cases g : 1000 < d
    · rw [if_pos g] at h; omega
    · rw [if_neg g] at h
      rcases List.mem_cons.mp hc with rfl | hc
      · exact g
      · exact ih (by omega) c hc
theorem wkP_T : ∀ (n : Nat) (T : List Int), isT T → tks T → nbA T → isT (wkP n T).2 ∧ tks (wkP n T).2 := by
  intro n
  induction n with
  | zero => intro T h1 h2 _; exact ⟨h1, h2⟩
  | succ n ih =>
    intro T h1 h2 h3
    simp only [wkP]
    split
    · exact ⟨h1, h2⟩
    · split
      · exact ⟨h1, h2⟩
      · rename_i hh hs
        obtain ⟨q1, q2, q3, -⟩ := stpL_ok h1 h2 h3 hs
        exact ih _ q1 q2 q3
theorem wkS_T : ∀ (n : Nat) (G : Gr) (ρ : Nat → Nat), WG G ρ → 0 < G.length → (wkS n G).2.length ≤ 301 ∧ ((wkS n G).2.length ≤ 300 → isT (wkS n G).2 ∧ tks (wkS n G).2) := by
  have base : ∀ (G : Gr) (ρ : Nat → Nat), WG G ρ → 0 < G.length → ((fG G).take 301).length ≤ 301 ∧ (((fG G).take 301).length ≤ 300 → isT ((fG G).take 301) ∧ tks ((fG G).take 301)) := by
    intro G ρ hW h0
    refine ⟨by rw [List.length_take]; omega, fun h => ?_⟩
    rw [List.length_take] at h
    rw [List.take_of_length_le (by omega)]
    exact fG_T hW h0
  intro n
  induction n with
  | zero => intro G ρ hW h0; exact base G ρ hW h0
  | succ n ih =>
    intro G ρ hW h0
    simp only [wkS]
    split
    · exact base G ρ hW h0
    · split
      · exact base G ρ hW h0
      · rename_i hh hs
        obtain ⟨⟨ρ', q1⟩, q2, q3, q4⟩ := stG_ok hW h0 hs
        exact ih _ ρ' q1 (by omega)
theorem wkA_T {how : Int} {n : Nat} (h1 : isT T) (h2 : tks T) (h3 : nbA T) : (wkA how n T).2.length ≤ 301 ∧ ((wkA how n T).2.length ≤ 300 → isT (wkA how n T).2 ∧ tks (wkA how n T).2) := by
  unfold wkA
  split
  · obtain ⟨q1, q2⟩ := wkP_T n T h1 h2 h3
    refine ⟨by rw [List.length_take]; omega, fun h => ?_⟩
    simp only [List.length_take] at h
    simp only
    rw [List.take_of_length_le (by omega)]
    exact ⟨q1, q2⟩
  · exact wkS_T n (gr0 T) (rk0 T) (gr0_W h1 h2 h3).1 (by rw [gr0_len]; exact isT_pos h1)
theorem eng_ok {how : Int} (hh : how = 0 ∨ how = 1) (ht : isRow t) (ht2 : t < 53) (hk : RK σ) (hv : rv σ t = T) (hT : isT T) (hkT : tks T) (hn : nbA T) (hl : T.length ≤ 120) {n : Nat} (hn2 : n ≤ 200) (Q : List AV → aSg → Prop) (hq : ∀ σ', RK σ' → rv σ' 78 = (wkA how n T).2 → (∀ a, (a < 77 ∨ 97 < a) → σ' a = σ a) → Q [.inl ((wkA how n T).1 : Int)] σ') : CA m1 [.inr (.inl 77), .inr (.inl t), .inl how, .inl (n : Int)] σ Q := by
  rcases hh with rfl | rfl
  · have e : wkA 0 n T = ((wkP n T).1, (wkP n T).2.take 301) := by unfold wkA; rw [if_pos rfl]
    rw [e] at hq
    exact wr1p ht ht2 hk hv hT hkT hn hl hn2 Q hq
  · have e : wkA 1 n T = wkS n (gr0 T) := by unfold wkA; rw [if_neg (by omega)]
    rw [e] at hq
    exact wr1s ht ht2 hk hv hT hkT hn hl hn2 Q hq
theorem k94 (hR : RepC σ S) : CC m94 [.inr (.inl 0), .inl x, .inl y, .inl z] σ (f94 S x y z).1 (f94 S x y z).2 := by
  unfold CC
  rw [e94]
  unfold f94
  have hk := hR.1
  have oS77 : isO 77 0 := isO_dec (by decide +kernel)
  by_cases hx : 0 ≤ x ∧ x < 4
  · rw [if_neg (fun q => q hx)]
    obtain ⟨p, rfl⟩ := Int.eq_ofNat_of_zero_le hx.1
    have hp : p < 4 := by omega
    have vp := hR.2.2.2.1 p hp
    have op := hR.2.1.2.2.1 p hp
    have lp := sh_len op
    have rp := rowS hp
    have tp := ptS p hp
    have k3 := kd3
    have l3 := ln3
    simp only [Int.toNat_natCast]
    by_cases hy : y = 0 ∨ y = 1
    · by_cases hz : 0 ≤ z ∧ z ≤ 200
      · rw [if_neg (fun q => q ⟨hy, hz⟩)]
        by_cases ep : sv S p = []
        · rw [if_pos (Or.inl ep)]
          simp (disch := omega) only [s94_0, s94_1, s94_4, s94_7, s94_9, s94_10, s94_11, s94_14, s94_17, s94_18, s94_21, s94_22, s94_25, s94_28, s94_30, s94_31, s94_32, s94_33, s94_36, s94_39, s94_40, s94_41, s94_44, s94_47, s94_49, s94_50, s94_51, s94_54, s94_55, s94_58, s94_59, s94_60, s94_61, s94_62, s94_65, s94_66, s94_69, s94_70, s94_71, s94_74, s94_76, s94_77, s94_80, s94_81, s94_84, s94_87, s94_90, s94_91, s94_92, s94_95, s94_97, s94_99, s94_101, s94_104, s94_106, s94_109, s94_111, List.cons_append, List.nil_append, if_true, if_false, true_and, and_true, and_self, eq_self, true_or, or_true, false_or, or_false, tIn, tLe, fLe, tLt, fLt, tEq, fEq, isL, c113, c115, hy, c111 hp hk, vp, ep]
          exact ⟨hR, fun _ _ => rfl⟩
        by_cases np : 0 < nbB (sv S p)
        · rw [if_pos (Or.inr np)]
          simp (disch := omega) only [s94_0, s94_1, s94_4, s94_7, s94_9, s94_10, s94_11, s94_14, s94_17, s94_18, s94_21, s94_22, s94_25, s94_28, s94_30, s94_31, s94_32, s94_33, s94_36, s94_39, s94_40, s94_41, s94_44, s94_47, s94_49, s94_50, s94_51, s94_54, s94_55, s94_58, s94_59, s94_60, s94_61, s94_62, s94_65, s94_66, s94_69, s94_70, s94_71, s94_74, s94_76, s94_77, s94_80, s94_81, s94_84, s94_87, s94_90, s94_91, s94_92, s94_95, s94_97, s94_99, s94_101, s94_104, s94_106, s94_109, s94_111, List.cons_append, List.nil_append, if_true, if_false, true_and, and_true, and_self, eq_self, true_or, or_true, false_or, or_false, tIn, tLe, fLe, tLt, fLt, tEq, fEq, isL, c113, c115, hy, c111 hp hk, c112 hp hk (show (rv σ (4 + 2 * p)).length ≤ 10000 by rw [vp]; omega), vp, ep, np]
          exact ⟨hR, fun _ _ => rfl⟩
        rw [if_neg (by rintro (q | q) <;> contradiction)]
        obtain ⟨n, rfl⟩ := Int.eq_ofNat_of_zero_le hz.1
        simp only [Int.toNat_natCast]
        have wf := sh_wf op ep
        have na := nbB_A _ (show nbB (sv S p) = 0 by omega)
        obtain ⟨t1, t2⟩ := wkA_T (how := y) (n := n) wf.1 wf.2 na
        have mid : CA m1 [.inr (.inl 77), .inr (.inl (4 + 2 * p)), .inl y, .inl (n : Int)] σ (fun v σ2 => WP m94 74 [.inr (.inl 0), .inl (p : Int), .inl y, .inl (n : Int), vU, vU] (v ++ []) σ2 (fun v σ' => v = [.inl (if 120 < (wkA y n (sv S p)).2.length then (FUL, S) else (((wkA y n (sv S p)).1 : Int), (layS S p (wkA y n (sv S p)).2).2)).1] ∧ RepC σ' (if 120 < (wkA y n (sv S p)).2.length then (FUL, S) else (((wkA y n (sv S p)).1 : Int), (layS S p (wkA y n (sv S p)).2).2)).2 ∧ FrC σ σ')) := by
          generalize hQ : (fun (v : List AV) (σ' : aSg) => v = [.inl (if 120 < (wkA y n (sv S p)).2.length then (FUL, S) else (((wkA y n (sv S p)).1 : Int), (layS S p (wkA y n (sv S p)).2).2)).1] ∧ RepC σ' (if 120 < (wkA y n (sv S p)).2.length then (FUL, S) else (((wkA y n (sv S p)).1 : Int), (layS S p (wkA y n (sv S p)).2).2)).2 ∧ FrC σ σ') = Q
          refine eng_ok hy rp (by omega) hk vp wf.1 wf.2 na lp (by omega) _ (fun σ1 k1 w1 f1 => ?_)
          simp (disch := omega) only [s94_0, s94_1, s94_4, s94_7, s94_9, s94_10, s94_11, s94_14, s94_17, s94_18, s94_21, s94_22, s94_25, s94_28, s94_30, s94_31, s94_32, s94_33, s94_36, s94_39, s94_40, s94_41, s94_44, s94_47, s94_49, s94_50, s94_51, s94_54, s94_55, s94_58, s94_59, s94_60, s94_61, s94_62, s94_65, s94_66, s94_69, s94_70, s94_71, s94_74, s94_76, s94_77, s94_80, s94_81, s94_84, s94_87, s94_90, s94_91, s94_92, s94_95, s94_97, s94_99, s94_101, s94_104, s94_106, s94_109, s94_111, List.cons_append, List.nil_append, if_true, if_false, true_and, and_true, and_self, eq_self, true_or, or_true, false_or, or_false, tIn, tLe, fLe, tLt, fLt, tEq, fEq, isL, oS77, e2, s2_0, s2_1, s2_4, row53.1]
          refine rbec_ok row53 row78 (by omega) k1 w1 (by rw [cp53]; omega) _ (fun σ2 k2 w2 f2 => ?_)
          have R2 : RepC σ2 S := hR.keep k2 (fun a ha => by rw [f2 a (by omega) (by omega), f1 a (by omega)])
          simp (disch := omega) only [s94_0, s94_1, s94_4, s94_7, s94_9, s94_10, s94_11, s94_14, s94_17, s94_18, s94_21, s94_22, s94_25, s94_28, s94_30, s94_31, s94_32, s94_33, s94_36, s94_39, s94_40, s94_41, s94_44, s94_47, s94_49, s94_50, s94_51, s94_54, s94_55, s94_58, s94_59, s94_60, s94_61, s94_62, s94_65, s94_66, s94_69, s94_70, s94_71, s94_74, s94_76, s94_77, s94_80, s94_81, s94_84, s94_87, s94_90, s94_91, s94_92, s94_95, s94_97, s94_99, s94_101, s94_104, s94_106, s94_109, s94_111, List.cons_append, List.nil_append, if_true, if_false, true_and, and_true, and_self, eq_self, true_or, or_true, false_or, or_false, tIn, tLe, fLe, tLt, fLt, tEq, fEq, isL]
          refine CA_use (change_ok R2 hp w2 (fun hl => Or.inr ⟨t2 (by omega), hl⟩)) (fun v σ' h => ?_)
          obtain ⟨rfl, h2, h3⟩ := h
          rw [← hQ]
          have ff : FrC σ σ' := fun a ha => (h3 a ha).trans (by rw [f2 a (by omega) (by omega), f1 a (by omega)])
          by_cases g : 120 < (wkA y n (sv S p)).2.length
          · have el : layS S p (wkA y n (sv S p)).2 = (-1000000004, S) := by unfold layS; rw [if_pos g]
            rw [el] at h2
            rw [if_pos g, el]
            simp (disch := omega) only [s94_0, s94_1, s94_4, s94_7, s94_9, s94_10, s94_11, s94_14, s94_17, s94_18, s94_21, s94_22, s94_25, s94_28, s94_30, s94_31, s94_32, s94_33, s94_36, s94_39, s94_40, s94_41, s94_44, s94_47, s94_49, s94_50, s94_51, s94_54, s94_55, s94_58, s94_59, s94_60, s94_61, s94_62, s94_65, s94_66, s94_69, s94_70, s94_71, s94_74, s94_76, s94_77, s94_80, s94_81, s94_84, s94_87, s94_90, s94_91, s94_92, s94_95, s94_97, s94_99, s94_101, s94_104, s94_106, s94_109, s94_111, List.cons_append, List.nil_append, if_true, if_false, true_and, and_true, and_self, eq_self, true_or, or_true, false_or, or_false, tIn, tLe, fLe, tLt, fLt, tEq, fEq, isL]
            exact ⟨h2, ff⟩
          · have el : (layS S p (wkA y n (sv S p)).2).1 = ((wkA y n (sv S p)).2.length : Int) := by unfold layS; rw [if_neg g]
            rw [if_neg g, el]
            simp (disch := omega) only [s94_0, s94_1, s94_4, s94_7, s94_9, s94_10, s94_11, s94_14, s94_17, s94_18, s94_21, s94_22, s94_25, s94_28, s94_30, s94_31, s94_32, s94_33, s94_36, s94_39, s94_40, s94_41, s94_44, s94_47, s94_49, s94_50, s94_51, s94_54, s94_55, s94_58, s94_59, s94_60, s94_61, s94_62, s94_65, s94_66, s94_69, s94_70, s94_71, s94_74, s94_76, s94_77, s94_80, s94_81, s94_84, s94_87, s94_90, s94_91, s94_92, s94_95, s94_97, s94_99, s94_101, s94_104, s94_106, s94_109, s94_111, List.cons_append, List.nil_append, if_true, if_false, true_and, and_true, and_self, eq_self, true_or, or_true, false_or, or_false, tIn, tLe, fLe, tLt, fLt, tEq, fEq, isL]
            exact ⟨h2, ff⟩
        rcases hy with rfl | rfl
        · simp (disch := omega) only [s94_0, s94_1, s94_4, s94_7, s94_9, s94_10, s94_11, s94_14, s94_17, s94_18, s94_21, s94_22, s94_25, s94_28, s94_30, s94_31, s94_32, s94_33, s94_36, s94_39, s94_40, s94_41, s94_44, s94_47, s94_49, s94_50, s94_51, s94_54, s94_55, s94_58, s94_59, s94_60, s94_61, s94_62, s94_65, s94_66, s94_69, s94_70, s94_71, s94_74, s94_76, s94_77, s94_80, s94_81, s94_84, s94_87, s94_90, s94_91, s94_92, s94_95, s94_97, s94_99, s94_101, s94_104, s94_106, s94_109, s94_111, List.cons_append, List.nil_append, if_true, if_false, true_and, and_true, and_self, eq_self, true_or, or_true, false_or, or_false, tIn, tLe, fLe, tLt, fLt, tEq, fEq, isL, c113, c115, c111 hp hk, c112 hp hk (show (rv σ (4 + 2 * p)).length ≤ 10000 by rw [vp]; omega), vp, ep, np, k3, l3, Int.toNat_natCast, tp.1, tp.2, oS77]
          exact mid
        · simp (disch := omega) only [s94_0, s94_1, s94_4, s94_7, s94_9, s94_10, s94_11, s94_14, s94_17, s94_18, s94_21, s94_22, s94_25, s94_28, s94_30, s94_31, s94_32, s94_33, s94_36, s94_39, s94_40, s94_41, s94_44, s94_47, s94_49, s94_50, s94_51, s94_54, s94_55, s94_58, s94_59, s94_60, s94_61, s94_62, s94_65, s94_66, s94_69, s94_70, s94_71, s94_74, s94_76, s94_77, s94_80, s94_81, s94_84, s94_87, s94_90, s94_91, s94_92, s94_95, s94_97, s94_99, s94_101, s94_104, s94_106, s94_109, s94_111, List.cons_append, List.nil_append, if_true, if_false, true_and, and_true, and_self, eq_self, true_or, or_true, false_or, or_false, tIn, tLe, fLe, tLt, fLt, tEq, fEq, isL, c113, c115, c111 hp hk, c112 hp hk (show (rv σ (4 + 2 * p)).length ≤ 10000 by rw [vp]; omega), vp, ep, np, k3, l3, Int.toNat_natCast, tp.1, tp.2, oS77]
          exact mid
      · rw [if_pos (fun q => hz q.2)]
        by_cases hz1 : z < 0
        · simp (disch := omega) only [s94_0, s94_1, s94_4, s94_7, s94_9, s94_10, s94_11, s94_14, s94_17, s94_18, s94_21, s94_22, s94_25, s94_28, s94_30, s94_31, s94_32, s94_33, s94_36, s94_39, s94_40, s94_41, s94_44, s94_47, s94_49, s94_50, s94_51, s94_54, s94_55, s94_58, s94_59, s94_60, s94_61, s94_62, s94_65, s94_66, s94_69, s94_70, s94_71, s94_74, s94_76, s94_77, s94_80, s94_81, s94_84, s94_87, s94_90, s94_91, s94_92, s94_95, s94_97, s94_99, s94_101, s94_104, s94_106, s94_109, s94_111, List.cons_append, List.nil_append, if_true, if_false, true_and, and_true, and_self, eq_self, true_or, or_true, false_or, or_false, tIn, tLe, fLe, tLt, fLt, tEq, fEq, isL, c113, c115, hy]
          exact ⟨hR, fun _ _ => rfl⟩
        · simp (disch := omega) only [s94_0, s94_1, s94_4, s94_7, s94_9, s94_10, s94_11, s94_14, s94_17, s94_18, s94_21, s94_22, s94_25, s94_28, s94_30, s94_31, s94_32, s94_33, s94_36, s94_39, s94_40, s94_41, s94_44, s94_47, s94_49, s94_50, s94_51, s94_54, s94_55, s94_58, s94_59, s94_60, s94_61, s94_62, s94_65, s94_66, s94_69, s94_70, s94_71, s94_74, s94_76, s94_77, s94_80, s94_81, s94_84, s94_87, s94_90, s94_91, s94_92, s94_95, s94_97, s94_99, s94_101, s94_104, s94_106, s94_109, s94_111, List.cons_append, List.nil_append, if_true, if_false, true_and, and_true, and_self, eq_self, true_or, or_true, false_or, or_false, tIn, tLe, fLe, tLt, fLt, tEq, fEq, isL, c113, c115, hy]
          exact ⟨hR, fun _ _ => rfl⟩
    · rw [if_pos (fun q => hy q.1)]
      simp (disch := omega) only [s94_0, s94_1, s94_4, s94_7, s94_9, s94_10, s94_11, s94_14, s94_17, s94_18, s94_21, s94_22, s94_25, s94_28, s94_30, s94_31, s94_32, s94_33, s94_36, s94_39, s94_40, s94_41, s94_44, s94_47, s94_49, s94_50, s94_51, s94_54, s94_55, s94_58, s94_59, s94_60, s94_61, s94_62, s94_65, s94_66, s94_69, s94_70, s94_71, s94_74, s94_76, s94_77, s94_80, s94_81, s94_84, s94_87, s94_90, s94_91, s94_92, s94_95, s94_97, s94_99, s94_101, s94_104, s94_106, s94_109, s94_111, List.cons_append, List.nil_append, if_true, if_false, true_and, and_true, and_self, eq_self, true_or, or_true, false_or, or_false, tIn, tLe, fLe, tLt, fLt, tEq, fEq, isL, c113, c115, hy]
      exact ⟨hR, fun _ _ => rfl⟩
  · rw [if_pos hx]
    simp (disch := omega) only [s94_0, s94_1, s94_4, s94_7, s94_9, s94_10, s94_11, s94_14, s94_17, s94_18, s94_21, s94_22, s94_25, s94_28, s94_30, s94_31, s94_32, s94_33, s94_36, s94_39, s94_40, s94_41, s94_44, s94_47, s94_49, s94_50, s94_51, s94_54, s94_55, s94_58, s94_59, s94_60, s94_61, s94_62, s94_65, s94_66, s94_69, s94_70, s94_71, s94_74, s94_76, s94_77, s94_80, s94_81, s94_84, s94_87, s94_90, s94_91, s94_92, s94_95, s94_97, s94_99, s94_101, s94_104, s94_106, s94_109, s94_111, List.cons_append, List.nil_append, if_true, if_false, true_and, and_true, and_self, eq_self, true_or, or_true, false_or, or_false, tIn, tLe, fLe, tLt, fLt, tEq, fEq, isL, c113, hx]
    exact ⟨hR, fun _ _ => rfl⟩
theorem k102 (hR : RepC σ S) : CC m102 [.inr (.inl 0), .inl x, .inl y] σ (f102 S x y).1 (f102 S x y).2 := by
  unfold CC
  rw [e102]
  unfold f102
  have hk := hR.1
  have oS77 : isO 77 0 := isO_dec (by decide +kernel)
  by_cases hx : 0 ≤ x ∧ x < 4
  · rw [if_neg (fun q => q hx)]
    obtain ⟨p, rfl⟩ := Int.eq_ofNat_of_zero_le hx.1
    have hp : p < 4 := by omega
    have vp := hR.2.2.2.1 p hp
    have op := hR.2.1.2.2.1 p hp
    have lp := sh_len op
    have rp := rowS hp
    have tp := ptS p hp
    have k3 := kd3
    have l3 := ln3
    simp only [Int.toNat_natCast]
    by_cases hy : y = 0 ∨ y = 1
    · rw [if_neg (fun q => q hy)]
      by_cases ep : sv S p = []
      · rw [if_pos (Or.inl ep)]
        simp (disch := omega) only [s102_0, s102_1, s102_4, s102_7, s102_9, s102_10, s102_11, s102_14, s102_17, s102_19, s102_20, s102_21, s102_22, s102_25, s102_28, s102_29, s102_30, s102_33, s102_36, s102_38, s102_39, s102_40, s102_43, s102_44, s102_47, s102_48, s102_49, s102_50, s102_51, s102_54, s102_55, s102_58, s102_59, s102_62, s102_65, s102_66, s102_67, s102_70, s102_73, s102_76, s102_78, s102_79, s102_80, s102_83, s102_86, s102_89, s102_91, s102_94, s102_95, List.cons_append, List.nil_append, if_true, if_false, true_and, and_true, and_self, eq_self, true_or, or_true, false_or, or_false, tIn, tLe, fLe, tLt, fLt, tEq, fEq, isL, c113, c115, hy, c111 hp hk, vp, ep]
        exact ⟨hR, fun _ _ => rfl⟩
      by_cases np : 0 < nbB (sv S p)
      · rw [if_pos (Or.inr np)]
        simp (disch := omega) only [s102_0, s102_1, s102_4, s102_7, s102_9, s102_10, s102_11, s102_14, s102_17, s102_19, s102_20, s102_21, s102_22, s102_25, s102_28, s102_29, s102_30, s102_33, s102_36, s102_38, s102_39, s102_40, s102_43, s102_44, s102_47, s102_48, s102_49, s102_50, s102_51, s102_54, s102_55, s102_58, s102_59, s102_62, s102_65, s102_66, s102_67, s102_70, s102_73, s102_76, s102_78, s102_79, s102_80, s102_83, s102_86, s102_89, s102_91, s102_94, s102_95, List.cons_append, List.nil_append, if_true, if_false, true_and, and_true, and_self, eq_self, true_or, or_true, false_or, or_false, tIn, tLe, fLe, tLt, fLt, tEq, fEq, isL, c113, c115, hy, c111 hp hk, c112 hp hk (show (rv σ (4 + 2 * p)).length ≤ 10000 by rw [vp]; omega), vp, ep, np]
        exact ⟨hR, fun _ _ => rfl⟩
      rw [if_neg (by rintro (q | q) <;> contradiction)]
      have wf := sh_wf op ep
      have na := nbB_A _ (show nbB (sv S p) = 0 by omega)
      obtain ⟨t1, t2⟩ := wkA_T (how := y) (n := 200) wf.1 wf.2 na
      have e200 : ((200 : Nat) : Int) = 200 := rfl
      have mid : CA m1 [.inr (.inl 77), .inr (.inl (4 + 2 * p)), .inl y, .inl 200] σ (fun v σ2 => WP m102 65 [.inr (.inl 0), .inl (p : Int), .inl y, vU] (v ++ []) σ2 (fun v σ' => v = [.inl (if 300 < (wkA y 200 (sv S p)).2.length then -3 else if (scn (wkA y 200 (sv S p)).2 0 0).isSome = true then -2 else ((wkA y 200 (sv S p)).1 : Int))] ∧ RepC σ' S ∧ FrC σ σ')) := by
        generalize hQ : (fun (v : List AV) (σ' : aSg) => v = [.inl (if 300 < (wkA y 200 (sv S p)).2.length then -3 else if (scn (wkA y 200 (sv S p)).2 0 0).isSome = true then -2 else ((wkA y 200 (sv S p)).1 : Int))] ∧ RepC σ' S ∧ FrC σ σ') = Q
        refine eng_ok (n := 200) hy rp (by omega) hk vp wf.1 wf.2 na lp (by omega) _ (fun σ1 k1 w1 f1 => ?_)
        have R1 : RepC σ1 S := hR.keep k1 (fun a ha => f1 a (by omega))
        have ff : FrC σ σ1 := fun a ha => f1 a (by omega)
        by_cases g : 300 < (wkA y 200 (sv S p)).2.length
        · have hc := fun K => c3 (K := K) k1
          rw [w1, if_pos g] at hc
          simp (disch := omega) only [s102_0, s102_1, s102_4, s102_7, s102_9, s102_10, s102_11, s102_14, s102_17, s102_19, s102_20, s102_21, s102_22, s102_25, s102_28, s102_29, s102_30, s102_33, s102_36, s102_38, s102_39, s102_40, s102_43, s102_44, s102_47, s102_48, s102_49, s102_50, s102_51, s102_54, s102_55, s102_58, s102_59, s102_62, s102_65, s102_66, s102_67, s102_70, s102_73, s102_76, s102_78, s102_79, s102_80, s102_83, s102_86, s102_89, s102_91, s102_94, s102_95, List.cons_append, List.nil_append, if_true, if_false, true_and, and_true, and_self, eq_self, true_or, or_true, false_or, or_false, tIn, tLe, fLe, tLt, fLt, tEq, fEq, isL, oS77, hc]
          rw [← hQ, if_pos g]
          exact ⟨rfl, R1, ff⟩
        · have hc := fun K => c3 (K := K) k1
          rw [w1, if_neg g] at hc
          cases hs : scn (wkA y 200 (sv S p)).2 0 0 with
          | none =>
            have eo : oNat (scn (wkA y 200 (sv S p)).2 0 0) = -1 := by rw [hs]; rfl
            simp (disch := omega) only [s102_0, s102_1, s102_4, s102_7, s102_9, s102_10, s102_11, s102_14, s102_17, s102_19, s102_20, s102_21, s102_22, s102_25, s102_28, s102_29, s102_30, s102_33, s102_36, s102_38, s102_39, s102_40, s102_43, s102_44, s102_47, s102_48, s102_49, s102_50, s102_51, s102_54, s102_55, s102_58, s102_59, s102_62, s102_65, s102_66, s102_67, s102_70, s102_73, s102_76, s102_78, s102_79, s102_80, s102_83, s102_86, s102_89, s102_91, s102_94, s102_95, List.cons_append, List.nil_append, if_true, if_false, true_and, and_true, and_self, eq_self, true_or, or_true, false_or, or_false, tIn, tLe, fLe, tLt, fLt, tEq, fEq, isL, oS77, hc, e4, s4_0, s4_1, s4_4, s4_5, s4_8, s4_9, s4_12, s4_13, c5 k1 w1, eo]
            rw [← hQ, if_neg g, hs]
            exact ⟨rfl, R1, ff⟩
          | some hh =>
            have eo : oNat (scn (wkA y 200 (sv S p)).2 0 0) = (hh : Int) := by rw [hs]; rfl
            simp (disch := omega) only [s102_0, s102_1, s102_4, s102_7, s102_9, s102_10, s102_11, s102_14, s102_17, s102_19, s102_20, s102_21, s102_22, s102_25, s102_28, s102_29, s102_30, s102_33, s102_36, s102_38, s102_39, s102_40, s102_43, s102_44, s102_47, s102_48, s102_49, s102_50, s102_51, s102_54, s102_55, s102_58, s102_59, s102_62, s102_65, s102_66, s102_67, s102_70, s102_73, s102_76, s102_78, s102_79, s102_80, s102_83, s102_86, s102_89, s102_91, s102_94, s102_95, List.cons_append, List.nil_append, if_true, if_false, true_and, and_true, and_self, eq_self, true_or, or_true, false_or, or_false, tIn, tLe, fLe, tLt, fLt, tEq, fEq, isL, oS77, hc, e4, s4_0, s4_1, s4_4, s4_5, s4_8, s4_9, s4_12, s4_13, c5 k1 w1, eo]
            rw [← hQ, if_neg g, hs]
            exact ⟨rfl, R1, ff⟩
      rcases hy with rfl | rfl
      · simp (disch := omega) only [s102_0, s102_1, s102_4, s102_7, s102_9, s102_10, s102_11, s102_14, s102_17, s102_19, s102_20, s102_21, s102_22, s102_25, s102_28, s102_29, s102_30, s102_33, s102_36, s102_38, s102_39, s102_40, s102_43, s102_44, s102_47, s102_48, s102_49, s102_50, s102_51, s102_54, s102_55, s102_58, s102_59, s102_62, s102_65, s102_66, s102_67, s102_70, s102_73, s102_76, s102_78, s102_79, s102_80, s102_83, s102_86, s102_89, s102_91, s102_94, s102_95, List.cons_append, List.nil_append, if_true, if_false, true_and, and_true, and_self, eq_self, true_or, or_true, false_or, or_false, tIn, tLe, fLe, tLt, fLt, tEq, fEq, isL, c113, c115, c111 hp hk, c112 hp hk (show (rv σ (4 + 2 * p)).length ≤ 10000 by rw [vp]; omega), vp, ep, np, k3, l3, Int.toNat_natCast, tp.1, tp.2, oS77]
        exact mid
      · simp (disch := omega) only [s102_0, s102_1, s102_4, s102_7, s102_9, s102_10, s102_11, s102_14, s102_17, s102_19, s102_20, s102_21, s102_22, s102_25, s102_28, s102_29, s102_30, s102_33, s102_36, s102_38, s102_39, s102_40, s102_43, s102_44, s102_47, s102_48, s102_49, s102_50, s102_51, s102_54, s102_55, s102_58, s102_59, s102_62, s102_65, s102_66, s102_67, s102_70, s102_73, s102_76, s102_78, s102_79, s102_80, s102_83, s102_86, s102_89, s102_91, s102_94, s102_95, List.cons_append, List.nil_append, if_true, if_false, true_and, and_true, and_self, eq_self, true_or, or_true, false_or, or_false, tIn, tLe, fLe, tLt, fLt, tEq, fEq, isL, c113, c115, c111 hp hk, c112 hp hk (show (rv σ (4 + 2 * p)).length ≤ 10000 by rw [vp]; omega), vp, ep, np, k3, l3, Int.toNat_natCast, tp.1, tp.2, oS77]
        exact mid
    · rw [if_pos hy]
      simp (disch := omega) only [s102_0, s102_1, s102_4, s102_7, s102_9, s102_10, s102_11, s102_14, s102_17, s102_19, s102_20, s102_21, s102_22, s102_25, s102_28, s102_29, s102_30, s102_33, s102_36, s102_38, s102_39, s102_40, s102_43, s102_44, s102_47, s102_48, s102_49, s102_50, s102_51, s102_54, s102_55, s102_58, s102_59, s102_62, s102_65, s102_66, s102_67, s102_70, s102_73, s102_76, s102_78, s102_79, s102_80, s102_83, s102_86, s102_89, s102_91, s102_94, s102_95, List.cons_append, List.nil_append, if_true, if_false, true_and, and_true, and_self, eq_self, true_or, or_true, false_or, or_false, tIn, tLe, fLe, tLt, fLt, tEq, fEq, isL, c113, c115, hy]
      exact ⟨hR, fun _ _ => rfl⟩
  · rw [if_pos hx]
    simp (disch := omega) only [s102_0, s102_1, s102_4, s102_7, s102_9, s102_10, s102_11, s102_14, s102_17, s102_19, s102_20, s102_21, s102_22, s102_25, s102_28, s102_29, s102_30, s102_33, s102_36, s102_38, s102_39, s102_40, s102_43, s102_44, s102_47, s102_48, s102_49, s102_50, s102_51, s102_54, s102_55, s102_58, s102_59, s102_62, s102_65, s102_66, s102_67, s102_70, s102_73, s102_76, s102_78, s102_79, s102_80, s102_83, s102_86, s102_89, s102_91, s102_94, s102_95, List.cons_append, List.nil_append, if_true, if_false, true_and, and_true, and_self, eq_self, true_or, or_true, false_or, or_false, tIn, tLe, fLe, tLt, fLt, tEq, fEq, isL, c113, hx]
    exact ⟨hR, fun _ _ => rfl⟩
end WRK
