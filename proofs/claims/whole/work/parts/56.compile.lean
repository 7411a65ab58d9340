/-! compile, takeOut: the component's side -/
noncomputable def cmZ (T : List Int) : List Int := cmN T.length T
noncomputable def toZ (n : Int) (T : List Int) : List Int := fl (tkT n (trA (cmZ T) 0))
noncomputable def f90 (S : SS) (x : Int) : Int × SS := if ¬ (0 ≤ x ∧ x < 4) then (UNK, S) else if sv S x.toNat = [] then (NOTc, S) else layS S x.toNat (cmZ (sv S x.toNat))
noncomputable def f91 (S : SS) (x n : Int) : Int × SS := if ¬ (0 ≤ x ∧ x < 4) then (UNK, S) else if ¬ (97 ≤ n ∧ n ≤ 122) then (OUT, S) else if sv S x.toNat = [] then (NOTc, S) else layS S x.toNat (toZ n (sv S x.toNat))
section CMP
variable {σ σ0 σ' : aSg} {K : List AV → aSg → Prop} {x y z i n : Int} {S : SS} {T W st F R : List Int} {r q t a j b k p : Nat}
theorem nbF_top : nbF T.length T := by
  intro j hj
  rw [getD_out hj]; omega
theorem cmZ_ok (hT : isT T) (hk : tks T) : isT (cmZ T) ∧ tks (cmZ T) ∧ nbF 0 (cmZ T) := by
  obtain ⟨h1, h2, h3, -⟩ := cmN_ok T.length T hT hk (Nat.le_refl _) nbF_top
  exact ⟨h1, h2, h3⟩
theorem toZ_ok (hn : 97 ≤ n ∧ n ≤ 122) (hT : isT T) (hk : tks T) : isT (toZ n T) ∧ tks (toZ n T) ∧ (cmZ T).length ≤ (toZ n T).length + 2 := by
  obtain ⟨h1, h2, h3⟩ := cmZ_ok hT hk
  obtain ⟨u, A⟩ := At_ex h1 (isT_pos h1)
  have ne : noB u := by
    obtain ⟨_, r, e⟩ := A
    intro c hc
    exact nbF_mem h3 (by rw [e]; exact List.mem_append_left _ hc)
  have el : fl u = cmZ T := by
    have h4 := At_sub A
    have h5 := At_te A
    unfold subT at h4
    have : te (cmZ T) 0 = (cmZ T).length := by unfold te; simp [tlen_T h1]
    rw [this] at h4
    simpa using h4.symm
  unfold toZ
  rw [trA_eq A]
  obtain ⟨o1, o2, o3⟩ := tk_ok hn u A.1 ne
  obtain ⟨-, -, s3⟩ := tk_sz (n := n) u A.1 ne
  exact ⟨fl_T _ o1, o3 (by rw [el]; exact h2), by rw [← el]; exact s3⟩
theorem wr73 (ht : isRow t) (ht2 : t < 53) (hk : RK σ) (hv : rv σ t = T) (hT : isT T) (hkT : tks T) (hl : T.length ≤ 120) (Q : List AV → aSg → Prop) (hq : ∀ (σ' : aSg) (R : List Int), RK σ' → rv σ' 53 = R → (R = cmZ T ∨ (512 < R.length ∧ 150 < (cmZ T).length)) → (∀ a, (a < 53 ∨ 76 < a) → σ' a = σ a) → Q [] σ') : CA m73 [.inr (.inl 65), .inr (.inl t), .inr (.inl 53)] σ Q := by
  rw [e73]
  simp (disch := omega) only [s73_0, s73_1, s73_2, s73_5, s73_6, s73_9, s73_10, s73_11, s73_13, s73_16, s73_17, s73_18, s73_21, s73_24, s73_27, s73_28, s73_31, s73_34, s73_37, s73_38, s73_39, s73_40, s73_43, s73_46, s73_49, List.cons_append, List.nil_append, if_true, if_false, true_and, and_true, and_self, eq_self, true_or, or_true, false_or, or_false, tIn, tLe, fLe, tLt, fLt, tEq, fEq, isL, ht.1, row53.1]
  have row_t1 : isRow 53 := row53
  refine rbec_ok row53 ht (by omega) hk hv (by rw [cp53]; omega) _ (fun σ1 k1 w1 f1 => ?_)
  have v1 : rv σ1 t = T := (FrW_rv f1 row53 ht (by omega)).trans hv
  simp (disch := omega) only [s73_0, s73_1, s73_2, s73_5, s73_6, s73_9, s73_10, s73_11, s73_13, s73_16, s73_17, s73_18, s73_21, s73_24, s73_27, s73_28, s73_31, s73_34, s73_37, s73_38, s73_39, s73_40, s73_43, s73_46, s73_49, List.cons_append, List.nil_append, if_true, if_false, true_and, and_true, and_self, eq_self, true_or, or_true, false_or, or_false, tIn, tLe, fLe, tLt, fLt, tEq, fEq, isL, ht.1, c28 ht k1, v1]
  have lp : ∀ (p : Nat) (R : List Int) (σ2 : aSg), p ≤ 120 → RK σ2 → rv σ2 53 = R → (∀ a, (a < 53 ∨ 76 < a) → σ2 a = σ a) → ((cmN p R = cmZ T ∧ isT R ∧ tks R ∧ p ≤ R.length ∧ nbF p R) ∨ (512 < R.length ∧ 150 < (cmZ T).length)) → WP m73 12 [.inr (.inl 65), .inr (.inl t), .inr (.inl 53), .inl ((p : Int) - 1)] [] σ2 Q := by
    intro p
    induction p with
    | zero =>
      intro R σ2 h0 h1 h2 h3 h4
      rw [s73_12]
      simp (disch := omega) only [s73_0, s73_1, s73_2, s73_5, s73_6, s73_9, s73_10, s73_11, s73_13, s73_16, s73_17, s73_18, s73_21, s73_24, s73_27, s73_28, s73_31, s73_34, s73_37, s73_38, s73_39, s73_40, s73_43, s73_46, s73_49, List.cons_append, List.nil_append, if_true, if_false, true_and, and_true, and_self, eq_self, true_or, or_true, false_or, or_false, tIn, tLe, fLe, tLt, fLt, tEq, fEq, isL]
      refine hq σ2 R h1 h2 ?_ h3
      rcases h4 with h4 | h4
      · exact Or.inl h4.1
      · exact Or.inr h4
    | succ p ih =>
      intro R σ2 h0 h1 h2 h3 h4
      have q1 : ((p + 1 : Nat) : Int) - 1 = (p : Int) := by omega
      have el : lat R (p : Int) = R.getD p 0 := by unfold lat; rw [if_pos (by omega), Int.toNat_natCast]
      have hle := rv_le h1 row53
      rw [h2, cp53] at hle
      rw [s73_12]
      by_cases hb : 1000 < R.getD p 0
      · by_cases hs : R.length ≤ 512
        · rcases h4 with ⟨e1, e2, e3, e4, e5⟩ | h4
          · simp only [cmN] at e1
            rw [if_pos hb] at e1
            obtain ⟨o1, o2, o3, o4, o5, o6⟩ := tkB_ok e2 e3 (by omega) hb e5
            simp (disch := omega) only [s73_0, s73_1, s73_2, s73_5, s73_6, s73_9, s73_10, s73_11, s73_13, s73_16, s73_17, s73_18, s73_21, s73_24, s73_27, s73_28, s73_31, s73_34, s73_37, s73_38, s73_39, s73_40, s73_43, s73_46, s73_49, List.cons_append, List.nil_append, if_true, if_false, true_and, and_true, and_self, eq_self, true_or, or_true, false_or, or_false, tIn, tLe, fLe, tLt, fLt, tEq, fEq, isL, q1, row53.1, c30 row53 h1, h2, el, c117, c28 row53 h1]
            refine wr75 row53 (by omega) cp53 h1 h2 e2 e3 hs (by omega) hb e5 _ (fun σ3 k3 w3 f3 => ?_)
            simp (disch := omega) only [s73_0, s73_1, s73_2, s73_5, s73_6, s73_9, s73_10, s73_11, s73_13, s73_16, s73_17, s73_18, s73_21, s73_24, s73_27, s73_28, s73_31, s73_34, s73_37, s73_38, s73_39, s73_40, s73_43, s73_46, s73_49, List.cons_append, List.nil_append, if_true, if_false, true_and, and_true, and_self, eq_self, true_or, or_true, false_or, or_false, tIn, tLe, fLe, tLt, fLt, tEq, fEq, isL]
            exact ih (tkB R p) σ3 (by omega) k3 w3 (fun a ha => (f3 a (by omega) (by omega) (by omega)).trans (h3 a ha)) (Or.inl ⟨e1, o1, o2, o6, o3⟩)
          · omega
        · simp (disch := omega) only [s73_0, s73_1, s73_2, s73_5, s73_6, s73_9, s73_10, s73_11, s73_13, s73_16, s73_17, s73_18, s73_21, s73_24, s73_27, s73_28, s73_31, s73_34, s73_37, s73_38, s73_39, s73_40, s73_43, s73_46, s73_49, List.cons_append, List.nil_append, if_true, if_false, true_and, and_true, and_self, eq_self, true_or, or_true, false_or, or_false, tIn, tLe, fLe, tLt, fLt, tEq, fEq, isL, q1, row53.1, c30 row53 h1, h2, el, c117, c28 row53 h1]
          refine ih R σ2 (by omega) h1 h2 h3 (Or.inr ?_)
          rcases h4 with ⟨e1, e2, e3, e4, e5⟩ | h4
          · obtain ⟨-, -, -, b4⟩ := cmN_ok (p + 1) R e2 e3 e4 e5
            rw [e1] at b4
            omega
          · exact h4
      · simp (disch := omega) only [s73_0, s73_1, s73_2, s73_5, s73_6, s73_9, s73_10, s73_11, s73_13, s73_16, s73_17, s73_18, s73_21, s73_24, s73_27, s73_28, s73_31, s73_34, s73_37, s73_38, s73_39, s73_40, s73_43, s73_46, s73_49, List.cons_append, List.nil_append, if_true, if_false, true_and, and_true, and_self, eq_self, true_or, or_true, false_or, or_false, tIn, tLe, fLe, tLt, fLt, tEq, fEq, isL, q1, row53.1, c30 row53 h1, h2, el, c117]
        refine ih R σ2 (by omega) h1 h2 h3 ?_
        rcases h4 with ⟨e1, e2, e3, e4, e5⟩ | h4
        · simp only [cmN] at e1
          rw [if_neg hb] at e1
          exact Or.inl ⟨e1, e2, e3, by omega, nbF_skip e5 hb⟩
        · exact Or.inr h4
  exact lp T.length T σ1 hl k1 w1 (fun a ha => f1 a (by omega) (by omega)) (Or.inl ⟨rfl, hT, hkT, Nat.le_refl _, nbF_top⟩)
theorem wr74 (hk : RK σ) (hv : rv σ 53 = R) (hT : isT R) (hkT : tks R) (hf : nbF 0 R) (hl : R.length ≤ 512) (hn : 97 ≤ n ∧ n ≤ 122) (Q : List AV → aSg → Prop) (hq : ∀ σ', RK σ' → rv σ' 53 = fl (tkT n (trA R 0)) → (∀ a, (a < 53 ∨ 76 < a) → σ' a = σ a) → Q [] σ') : CA m74 [.inr (.inl 65), .inr (.inl 53), .inl n] σ Q := by
  rw [e74]
  have c75 := cp75
  obtain ⟨u, A⟩ := At_ex hT (isT_pos hT)
  have ea := trA_eq A
  have na : noB u := by
    obtain ⟨_, r, e⟩ := A
    intro c hc
    exact nbF_mem hf (by rw [e]; exact List.mem_append_left _ hc)
  have su := tk_up (n := n) A.1 na
  have hle := At_le A
  rw [ea] at hq
  simp (disch := omega) only [s74_0, s74_1, s74_4, s74_7, s74_10, s74_11, s74_12, s74_15, s74_18, s74_19, s74_22, s74_23, s74_26, s74_27, s74_28, s74_29, s74_30, s74_33, s74_34, s74_35, s74_38, s74_41, List.cons_append, List.nil_append, if_true, if_false, true_and, and_true, and_self, eq_self, true_or, or_true, false_or, or_false, tIn, tLe, fLe, tLt, fLt, tEq, fEq, isL, row53.1, c28 row53 hk, hv, row75.1]
  refine rclr_ok row75 hk _ (fun σ1 k1 w1 f1 => ?_)
  have v1 : rv σ1 53 = R := (FrW_rv f1 row75 row53 (by omega)).trans hv
  simp (disch := omega) only [s74_0, s74_1, s74_4, s74_7, s74_10, s74_11, s74_12, s74_15, s74_18, s74_19, s74_22, s74_23, s74_26, s74_27, s74_28, s74_29, s74_30, s74_33, s74_34, s74_35, s74_38, s74_41, List.cons_append, List.nil_append, if_true, if_false, true_and, and_true, and_self, eq_self, true_or, or_true, false_or, or_false, tIn, tLe, fLe, tLt, fLt, tEq, fEq, isL, oS66]
  refine rmeas_ok row53 (by omega) k1 v1 hT (by omega) _ (fun σ3 k3 w3 f3 => ?_)
  have v3 : rv σ3 53 = R := (FrW_rv f3 row67 row53 (by omega)).trans v1
  have x3 : rv σ3 75 = [] := by rw [FrW_rv f3 row67 row75 (by omega), w1]
  simp (disch := omega) only [s74_0, s74_1, s74_4, s74_7, s74_10, s74_11, s74_12, s74_15, s74_18, s74_19, s74_22, s74_23, s74_26, s74_27, s74_28, s74_29, s74_30, s74_33, s74_34, s74_35, s74_38, s74_41, List.cons_append, List.nil_append, if_true, if_false, true_and, and_true, and_self, eq_self, true_or, or_true, false_or, or_false, tIn, tLe, fLe, tLt, fLt, tEq, fEq, isL]
  refine wr76 (p := 0) (n := n) row53 (by omega) k3 v3 w3 x3 hT hkT (by omega) hn A na (by simp; omega) _ (fun σ4 k4 v4 u4 x4 f4 => ?_)
  simp (disch := omega) only [s74_0, s74_1, s74_4, s74_7, s74_10, s74_11, s74_12, s74_15, s74_18, s74_19, s74_22, s74_23, s74_26, s74_27, s74_28, s74_29, s74_30, s74_33, s74_34, s74_35, s74_38, s74_41, List.cons_append, List.nil_append, if_true, if_false, true_and, and_true, and_self, eq_self, true_or, or_true, false_or, or_false, tIn, tLe, fLe, tLt, fLt, tEq, fEq, isL, row53.1, row75.1]
  refine rbec_ok row53 row75 (by omega) k4 x4 (by rw [cp53]; simp; omega) _ (fun σ6 k6 w6 f6 => ?_)
  simp (disch := omega) only [s74_0, s74_1, s74_4, s74_7, s74_10, s74_11, s74_12, s74_15, s74_18, s74_19, s74_22, s74_23, s74_26, s74_27, s74_28, s74_29, s74_30, s74_33, s74_34, s74_35, s74_38, s74_41, List.cons_append, List.nil_append, if_true, if_false, true_and, and_true, and_self, eq_self, true_or, or_true, false_or, or_false, tIn, tLe, fLe, tLt, fLt, tEq, fEq, isL]
  refine hq σ6 k6 (by rw [w6]; simp) (fun a h3 => ?_)
  rw [f6 a (by omega) (by omega), f4 a (by omega), f3 a (by omega) (by omega), f1 a (by omega) (by omega)]
theorem wr74b (hk : RK σ) (hv : rv σ 53 = R) (hl : 512 < R.length) : CA m74 [.inr (.inl 65), .inr (.inl 53), .inl n] σ K = K [] σ := by
  rw [e74]
  have hle := rv_le hk row53
  rw [hv, cp53] at hle
  simp (disch := omega) only [s74_0, s74_1, s74_4, s74_7, s74_10, s74_11, s74_12, s74_15, s74_18, s74_19, s74_22, s74_23, s74_26, s74_27, s74_28, s74_29, s74_30, s74_33, s74_34, s74_35, s74_38, s74_41, List.cons_append, List.nil_append, if_true, if_false, true_and, and_true, and_self, eq_self, true_or, or_true, false_or, or_false, tIn, tLe, fLe, tLt, fLt, tEq, fEq, isL, row53.1, c28 row53 hk, hv]
theorem k90 (hR : RepC σ S) : CC m90 [.inr (.inl 0), .inl x] σ (f90 S x).1 (f90 S x).2 := by
  unfold CC
  rw [e90]
  unfold f90
  have hk := hR.1
  by_cases hx : 0 ≤ x ∧ x < 4
  · rw [if_neg (fun q => q hx)]
    obtain ⟨p, rfl⟩ := Int.eq_ofNat_of_zero_le hx.1
    have hp : p < 4 := by omega
    have vp := hR.2.2.2.1 p hp
    have op := hR.2.1.2.2.1 p hp
    have lp := sh_len op
    have rp := rowS hp
    have tp := ptS p hp
    have k3 := kd3
    have l3 := ln3
    simp only [Int.toNat_natCast]
    by_cases ep : sv S p = []
    · rw [if_pos ep]
      simp (disch := omega) only [s90_0, s90_1, s90_4, s90_7, s90_9, s90_10, s90_11, s90_12, s90_15, s90_18, s90_20, s90_21, s90_22, s90_25, s90_26, s90_29, s90_30, s90_31, s90_32, s90_35, s90_38, s90_39, s90_40, s90_43, List.cons_append, List.nil_append, if_true, if_false, true_and, and_true, and_self, eq_self, true_or, or_true, false_or, or_false, tIn, tLe, fLe, tLt, fLt, tEq, fEq, isL, c113, c111 hp hk, vp, ep]
      exact ⟨hR, fun _ _ => rfl⟩
    · rw [if_neg ep]
      have wf := sh_wf op ep
      obtain ⟨z1, z2, z3⟩ := cmZ_ok wf.1 wf.2
      simp (disch := omega) only [s90_0, s90_1, s90_4, s90_7, s90_9, s90_10, s90_11, s90_12, s90_15, s90_18, s90_20, s90_21, s90_22, s90_25, s90_26, s90_29, s90_30, s90_31, s90_32, s90_35, s90_38, s90_39, s90_40, s90_43, List.cons_append, List.nil_append, if_true, if_false, true_and, and_true, and_self, eq_self, true_or, or_true, false_or, or_false, tIn, tLe, fLe, tLt, fLt, tEq, fEq, isL, c113, c111 hp hk, vp, ep, k3, l3, Int.toNat_natCast, tp.1, tp.2]
      refine wr73 rp (by omega) hk vp wf.1 wf.2 lp _ (fun σ1 R k1 w1 e1 f1 => ?_)
      have R1 : RepC σ1 S := hR.keep k1 (fun a ha => f1 a (by omega))
      rw [show layS S p (cmZ (sv S p)) = layS S p R from lay_big (by rcases e1 with e1 | e1; exact Or.inl e1.symm; exact Or.inr ⟨by omega, by omega⟩)]
      simp (disch := omega) only [s90_0, s90_1, s90_4, s90_7, s90_9, s90_10, s90_11, s90_12, s90_15, s90_18, s90_20, s90_21, s90_22, s90_25, s90_26, s90_29, s90_30, s90_31, s90_32, s90_35, s90_38, s90_39, s90_40, s90_43, List.cons_append, List.nil_append, if_true, if_false, true_and, and_true, and_self, eq_self, true_or, or_true, false_or, or_false, tIn, tLe, fLe, tLt, fLt, tEq, fEq, isL]
      refine CA_use (change_ok R1 hp w1 (fun hl => Or.inr ⟨?_, hl⟩)) (fun v σ' h => ?_)
      · rcases e1 with e1 | e1
        · rw [e1]; exact ⟨z1, z2⟩
        · omega
      · obtain ⟨rfl, h2, h3⟩ := h
        simp (disch := omega) only [s90_0, s90_1, s90_4, s90_7, s90_9, s90_10, s90_11, s90_12, s90_15, s90_18, s90_20, s90_21, s90_22, s90_25, s90_26, s90_29, s90_30, s90_31, s90_32, s90_35, s90_38, s90_39, s90_40, s90_43, List.cons_append, List.nil_append, if_true, if_false, true_and, and_true, and_self, eq_self, true_or, or_true, false_or, or_false, tIn, tLe, fLe, tLt, fLt, tEq, fEq, isL]
        exact ⟨h2, fun a ha => (h3 a ha).trans (f1 a (by omega))⟩
  · rw [if_pos hx]
    simp (disch := omega) only [s90_0, s90_1, s90_4, s90_7, s90_9, s90_10, s90_11, s90_12, s90_15, s90_18, s90_20, s90_21, s90_22, s90_25, s90_26, s90_29, s90_30, s90_31, s90_32, s90_35, s90_38, s90_39, s90_40, s90_43, List.cons_append, List.nil_append, if_true, if_false, true_and, and_true, and_self, eq_self, true_or, or_true, false_or, or_false, tIn, tLe, fLe, tLt, fLt, tEq, fEq, isL, c113, hx]
    exact ⟨hR, fun _ _ => rfl⟩
theorem k91 (hR : RepC σ S) : CC m91 [.inr (.inl 0), .inl x, .inl n] σ (f91 S x n).1 (f91 S x n).2 := by
  unfold CC
  rw [e91]
  unfold f91
  have hk := hR.1
  by_cases hx : 0 ≤ x ∧ x < 4
  · rw [if_neg (fun q => q hx)]
    obtain ⟨p, rfl⟩ := Int.eq_ofNat_of_zero_le hx.1
    have hp : p < 4 := by omega
    have vp := hR.2.2.2.1 p hp
    have op := hR.2.1.2.2.1 p hp
    have lp := sh_len op
    have rp := rowS hp
    have tp := ptS p hp
    have k3 := kd3
    have l3 := ln3
    simp only [Int.toNat_natCast]
    by_cases hn : 97 ≤ n ∧ n ≤ 122
    · rw [if_neg (fun q => q hn)]
      by_cases ep : sv S p = []
      · rw [if_pos ep]
        simp (disch := omega) only [s91_0, s91_1, s91_4, s91_7, s91_9, s91_10, s91_11, s91_14, s91_17, s91_19, s91_20, s91_21, s91_22, s91_25, s91_28, s91_30, s91_31, s91_32, s91_35, s91_36, s91_39, s91_40, s91_41, s91_42, s91_45, s91_48, s91_49, s91_52, s91_53, s91_56, s91_57, s91_60, s91_61, s91_62, s91_65, List.cons_append, List.nil_append, if_true, if_false, true_and, and_true, and_self, eq_self, true_or, or_true, false_or, or_false, tIn, tLe, fLe, tLt, fLt, tEq, fEq, isL, c113, c116, hn, c111 hp hk, vp, ep]
        exact ⟨hR, fun _ _ => rfl⟩
      · rw [if_neg ep]
        have wf := sh_wf op ep
        obtain ⟨z1, z2, z3⟩ := cmZ_ok wf.1 wf.2
        obtain ⟨y1, y2, y3⟩ := toZ_ok hn wf.1 wf.2
        simp (disch := omega) only [s91_0, s91_1, s91_4, s91_7, s91_9, s91_10, s91_11, s91_14, s91_17, s91_19, s91_20, s91_21, s91_22, s91_25, s91_28, s91_30, s91_31, s91_32, s91_35, s91_36, s91_39, s91_40, s91_41, s91_42, s91_45, s91_48, s91_49, s91_52, s91_53, s91_56, s91_57, s91_60, s91_61, s91_62, s91_65, List.cons_append, List.nil_append, if_true, if_false, true_and, and_true, and_self, eq_self, true_or, or_true, false_or, or_false, tIn, tLe, fLe, tLt, fLt, tEq, fEq, isL, c113, c116, hn, c111 hp hk, vp, ep, k3, l3, Int.toNat_natCast, tp.1, tp.2]
        refine wr73 rp (by omega) hk vp wf.1 wf.2 lp _ (fun σ1 R k1 w1 e1 f1 => ?_)
        simp (disch := omega) only [s91_0, s91_1, s91_4, s91_7, s91_9, s91_10, s91_11, s91_14, s91_17, s91_19, s91_20, s91_21, s91_22, s91_25, s91_28, s91_30, s91_31, s91_32, s91_35, s91_36, s91_39, s91_40, s91_41, s91_42, s91_45, s91_48, s91_49, s91_52, s91_53, s91_56, s91_57, s91_60, s91_61, s91_62, s91_65, List.cons_append, List.nil_append, if_true, if_false, true_and, and_true, and_self, eq_self, true_or, or_true, false_or, or_false, tIn, tLe, fLe, tLt, fLt, tEq, fEq, isL]
        have fin : ∀ (σ2 : aSg) (R2 : List Int), RK σ2 → rv σ2 53 = R2 → (∀ a, (a < 53 ∨ 76 < a) → σ2 a = σ a) → (R2 = toZ n (sv S p) ∨ (120 < R2.length ∧ 120 < (toZ n (sv S p)).length)) → WP m91 60 [.inr (.inl 0), .inl (p : Int), .inl n] [] σ2 (fun v σ' => v = [.inl (layS S p (toZ n (sv S p))).1] ∧ RepC σ' (layS S p (toZ n (sv S p))).2 ∧ FrC σ σ') := by
          intro σ2 R2 k2 w2 f2 e2
          have R1 : RepC σ2 S := hR.keep k2 (fun a ha => f2 a (by omega))
          rw [show layS S p (toZ n (sv S p)) = layS S p R2 from lay_big (by rcases e2 with e2 | e2; exact Or.inl e2.symm; exact Or.inr ⟨by omega, by omega⟩)]
          simp (disch := omega) only [s91_0, s91_1, s91_4, s91_7, s91_9, s91_10, s91_11, s91_14, s91_17, s91_19, s91_20, s91_21, s91_22, s91_25, s91_28, s91_30, s91_31, s91_32, s91_35, s91_36, s91_39, s91_40, s91_41, s91_42, s91_45, s91_48, s91_49, s91_52, s91_53, s91_56, s91_57, s91_60, s91_61, s91_62, s91_65, List.cons_append, List.nil_append, if_true, if_false, true_and, and_true, and_self, eq_self, true_or, or_true, false_or, or_false, tIn, tLe, fLe, tLt, fLt, tEq, fEq, isL]
          refine CA_use (change_ok R1 hp w2 (fun hl => Or.inr ⟨?_, hl⟩)) (fun v σ' h => ?_)
          · rcases e2 with e2 | e2
            · rw [e2]; exact ⟨y1, y2⟩
            · omega
          · obtain ⟨rfl, h2, h3⟩ := h
            simp (disch := omega) only [s91_0, s91_1, s91_4, s91_7, s91_9, s91_10, s91_11, s91_14, s91_17, s91_19, s91_20, s91_21, s91_22, s91_25, s91_28, s91_30, s91_31, s91_32, s91_35, s91_36, s91_39, s91_40, s91_41, s91_42, s91_45, s91_48, s91_49, s91_52, s91_53, s91_56, s91_57, s91_60, s91_61, s91_62, s91_65, List.cons_append, List.nil_append, if_true, if_false, true_and, and_true, and_self, eq_self, true_or, or_true, false_or, or_false, tIn, tLe, fLe, tLt, fLt, tEq, fEq, isL]
            exact ⟨h2, fun a ha => (h3 a ha).trans (f2 a (by omega))⟩
        by_cases hs : R.length ≤ 512
        · have e2 : R = cmZ (sv S p) := by rcases e1 with e1 | e1; exact e1; omega
          rw [e2] at w1 hs
          refine wr74 k1 w1 z1 z2 z3 hs hn _ (fun σ2 k2 w2 f2 => ?_)
          exact fin σ2 _ k2 w2 (fun a ha => (f2 a ha).trans (f1 a ha)) (Or.inl rfl)
        · rw [wr74b k1 w1 (by omega)]
          refine fin σ1 R k1 w1 f1 (Or.inr ⟨by omega, ?_⟩)
          rcases e1 with e1 | e1
          · rw [e1] at hs; omega
          · omega
    · rw [if_pos hn]
      simp (disch := omega) only [s91_0, s91_1, s91_4, s91_7, s91_9, s91_10, s91_11, s91_14, s91_17, s91_19, s91_20, s91_21, s91_22, s91_25, s91_28, s91_30, s91_31, s91_32, s91_35, s91_36, s91_39, s91_40, s91_41, s91_42, s91_45, s91_48, s91_49, s91_52, s91_53, s91_56, s91_57, s91_60, s91_61, s91_62, s91_65, List.cons_append, List.nil_append, if_true, if_false, true_and, and_true, and_self, eq_self, true_or, or_true, false_or, or_false, tIn, tLe, fLe, tLt, fLt, tEq, fEq, isL, c113, c116, hn]
      exact ⟨hR, fun _ _ => rfl⟩
  · rw [if_pos hx]
    simp (disch := omega) only [s91_0, s91_1, s91_4, s91_7, s91_9, s91_10, s91_11, s91_14, s91_17, s91_19, s91_20, s91_21, s91_22, s91_25, s91_28, s91_30, s91_31, s91_32, s91_35, s91_36, s91_39, s91_40, s91_41, s91_42, s91_45, s91_48, s91_49, s91_52, s91_53, s91_56, s91_57, s91_60, s91_61, s91_62, s91_65, List.cons_append, List.nil_append, if_true, if_false, true_and, and_true, and_self, eq_self, true_or, or_true, false_or, or_false, tIn, tLe, fLe, tLt, fLt, tEq, fEq, isL, c113, hx]
    exact ⟨hR, fun _ _ => rfl⟩
end CMP
