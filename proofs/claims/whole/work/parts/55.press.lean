/-! Taker: takePart, press -/
section PRS
variable {σ σ0 σ' : aSg} {K : List AV → aSg → Prop} {x y z i n : Int} {S : SS} {T W st F : List Int} {r q t a j b k p : Nat} {es : List En}
theorem wr76 (hr : isRow r) (hr2 : r < 65) (hk : RK σ) (hv : rv σ r = T) (he : rv σ 67 = endsT T) (hf : rv σ 75 = F) (hT : isT T) (hkT : tks T) (hl : T.length ≤ 1000) (hn : 97 ≤ n ∧ n ≤ 122) {u : Tm} (A : AtT T p u) (nb : noB u) (hF : F.length + (fl (tkT n u)).length ≤ 1032) (Q : List AV → aSg → Prop) (hq : ∀ σ', RK σ' → rv σ' r = T → rv σ' 67 = endsT T → rv σ' 75 = F ++ fl (tkT n u) → (∀ a, (a < 65 ∨ 76 < a) → σ' a = σ a) → Q [] σ') : CA m76 [.inr (.inl 65), .inr (.inl r), .inl (p : Int), .inl n] σ Q := by
  rw [e76]
  have c75 := cp75
  have c73 := cp73
  simp (disch := omega) only [s76_0, s76_1, s76_2, s76_3, s76_6, s76_7, s76_10, s76_13, s76_14, s76_17, s76_18, s76_21, s76_22, s76_26, s76_27, s76_30, s76_33, s76_34, s76_37, s76_40, s76_43, s76_44, s76_47, s76_50, s76_52, s76_54, s76_57, s76_58, s76_61, s76_62, s76_63, s76_65, s76_66, s76_67, s76_70, s76_71, s76_73, s76_74, s76_77, s76_80, s76_83, s76_84, s76_85, s76_87, s76_88, s76_91, s76_94, s76_97, List.cons_append, List.nil_append, if_true, if_false, true_and, and_true, and_self, eq_self, true_or, or_true, false_or, or_false, tIn, tLe, fLe, tLt, fLt, tEq, fEq, isL]
  refine wr78 hr hr2 hk hv he hT hkT (by omega) hn _ (fun σ1 k1 w1 f1 => ?_)
  simp (disch := omega) only [s76_0, s76_1, s76_2, s76_3, s76_6, s76_7, s76_10, s76_13, s76_14, s76_17, s76_18, s76_21, s76_22, s76_26, s76_27, s76_30, s76_33, s76_34, s76_37, s76_40, s76_43, s76_44, s76_47, s76_50, s76_52, s76_54, s76_57, s76_58, s76_61, s76_62, s76_63, s76_65, s76_66, s76_67, s76_70, s76_71, s76_73, s76_74, s76_77, s76_80, s76_83, s76_84, s76_85, s76_87, s76_88, s76_91, s76_94, s76_97, List.cons_append, List.nil_append, if_true, if_false, true_and, and_true, and_self, eq_self, true_or, or_true, false_or, or_false, tIn, tLe, fLe, tLt, fLt, tEq, fEq, isL, row73.1]
  refine rclr_ok row73 k1 _ (fun σ2 k2 w2 f2 => ?_)
  simp (disch := omega) only [s76_0, s76_1, s76_2, s76_3, s76_6, s76_7, s76_10, s76_13, s76_14, s76_17, s76_18, s76_21, s76_22, s76_26, s76_27, s76_30, s76_33, s76_34, s76_37, s76_40, s76_43, s76_44, s76_47, s76_50, s76_52, s76_54, s76_57, s76_58, s76_61, s76_62, s76_63, s76_65, s76_66, s76_67, s76_70, s76_71, s76_73, s76_74, s76_77, s76_80, s76_83, s76_84, s76_85, s76_87, s76_88, s76_91, s76_94, s76_97, List.cons_append, List.nil_append, if_true, if_false, true_and, and_true, and_self, eq_self, true_or, or_true, false_or, or_false, tIn, tLe, fLe, tLt, fLt, tEq, fEq, isL, row73.1]
  refine radd_ok row73 k2 w2 (by simp; omega) _ (fun σ3 k3 w3 f3 => ?_)
  have f23 := FrW_tr f2 f3
  have I0 : TKI σ σ3 r T n F [(false, p, u)] := by
    refine ⟨k3, ?_, ?_, ?_, ?_, ?_, fun a ha => ?_⟩
    · rw [FrW_rv f23 row73 hr (by omega), FrW_rv f1 row71 hr (by omega)]; exact hv
    · rw [FrW_rv f23 row73 row67 (by omega), FrW_rv f1 row71 row67 (by omega)]; exact he
    · rw [FrW_rv f23 row73 row71 (by omega)]; exact w1
    · rw [w3]; simp [enC]
    · rw [FrW_rv f23 row73 row75 (by omega), FrW_rv f1 row71 row75 (by omega)]; exact hf
    · rw [f23 a (by omega) (by omega), f1 a (by omega) (by omega)]
  simp (disch := omega) only [s76_0, s76_1, s76_2, s76_3, s76_6, s76_7, s76_10, s76_13, s76_14, s76_17, s76_18, s76_21, s76_22, s76_26, s76_27, s76_30, s76_33, s76_34, s76_37, s76_40, s76_43, s76_44, s76_47, s76_50, s76_52, s76_54, s76_57, s76_58, s76_61, s76_62, s76_63, s76_65, s76_66, s76_67, s76_70, s76_71, s76_73, s76_74, s76_77, s76_80, s76_83, s76_84, s76_85, s76_87, s76_88, s76_91, s76_94, s76_97, List.cons_append, List.nil_append, if_true, if_false, true_and, and_true, and_self, eq_self, true_or, or_true, false_or, or_false, tIn, tLe, fLe, tLt, fLt, tEq, fEq, isL]
  have ale := At_le A
  have lp : ∀ (m k : Nat) (es : List En) (G : List Int) (σ4 : aSg) (l5 : AV), k + m = T.length → wtL es ≤ m → (∀ e ∈ es, vaE T e) → G ++ ouL n es = F ++ fl (tkT n u) → TKI σ σ4 r T n G es → WP m76 24 [.inr (.inl 65), .inr (.inl r), .inl (p : Int), .inl n, .inl (k : Int), l5] [] σ4 Q := by
    intro m
    induction m with
    | zero =>
      intro k es G σ4 l5 hm hw hes hG hi
      obtain ⟨h1, h2, h3, h4, h5, h6, h7⟩ := id hi
      have := wtL_len es hes
      have e : es = [] := List.length_eq_zero_iff.mp (by omega)
      subst e
      rw [s76_24]
      simp (disch := omega) only [s76_0, s76_1, s76_2, s76_3, s76_6, s76_7, s76_10, s76_13, s76_14, s76_17, s76_18, s76_21, s76_22, s76_26, s76_27, s76_30, s76_33, s76_34, s76_37, s76_40, s76_43, s76_44, s76_47, s76_50, s76_52, s76_54, s76_57, s76_58, s76_61, s76_62, s76_63, s76_65, s76_66, s76_67, s76_70, s76_71, s76_73, s76_74, s76_77, s76_80, s76_83, s76_84, s76_85, s76_87, s76_88, s76_91, s76_94, s76_97, List.cons_append, List.nil_append, if_true, if_false, true_and, and_true, and_self, eq_self, true_or, or_true, false_or, or_false, tIn, tLe, fLe, tLt, fLt, tEq, fEq, isL, hr.1, c28 hr h1, h2]
      exact hq σ4 h1 h2 h3 (by rw [h6, ← hG]; simp [ouL]) h7
    | succ m ih =>
      intro k es G σ4 l5 hm hw hes hG hi
      obtain ⟨h1, h2, h3, h4, h5, h6, h7⟩ := id hi
      rw [s76_24]
      cases es with
      | nil =>
        have z0 : ((([] : List En).map enC).reverse.length : Int) = 0 := rfl
        simp (disch := omega) only [s76_0, s76_1, s76_2, s76_3, s76_6, s76_7, s76_10, s76_13, s76_14, s76_17, s76_18, s76_21, s76_22, s76_26, s76_27, s76_30, s76_33, s76_34, s76_37, s76_40, s76_43, s76_44, s76_47, s76_50, s76_52, s76_54, s76_57, s76_58, s76_61, s76_62, s76_63, s76_65, s76_66, s76_67, s76_70, s76_71, s76_73, s76_74, s76_77, s76_80, s76_83, s76_84, s76_85, s76_87, s76_88, s76_91, s76_94, s76_97, List.cons_append, List.nil_append, if_true, if_false, true_and, and_true, and_self, eq_self, true_or, or_true, false_or, or_false, tIn, tLe, fLe, tLt, fLt, tEq, fEq, isL, hr.1, c28 hr h1, h2, row73.1, c28 row73 h1, h5, z0]
        exact hq σ4 h1 h2 h3 (by rw [h6, ← hG]; simp [ouL]) h7
      | cons e es =>
        obtain ⟨fg, pp, v⟩ := e
        have hv' : AtT T pp v ∧ noB v := hes _ (List.mem_cons_self ..)
        have hes' : ∀ e ∈ es, vaE T e := fun u hu => hes u (List.mem_cons_of_mem _ hu)
        have hvl := fl_pos hv'.1.1
        have hlen := wtL_len es hes'
        have hpp := At_lt hv'.1
        simp only [wtL] at hw
        simp only [ouL] at hG
        have hGl := congrArg List.length hG
        simp only [List.length_append] at hGl
        have z1 : (((((fg, pp, v) : En) :: es).map enC).reverse.length : Int) = (es.length : Int) + 1 := by simp
        simp (disch := omega) only [s76_0, s76_1, s76_2, s76_3, s76_6, s76_7, s76_10, s76_13, s76_14, s76_17, s76_18, s76_21, s76_22, s76_26, s76_27, s76_30, s76_33, s76_34, s76_37, s76_40, s76_43, s76_44, s76_47, s76_50, s76_52, s76_54, s76_57, s76_58, s76_61, s76_62, s76_63, s76_65, s76_66, s76_67, s76_70, s76_71, s76_73, s76_74, s76_77, s76_80, s76_83, s76_84, s76_85, s76_87, s76_88, s76_91, s76_94, s76_97, List.cons_append, List.nil_append, if_true, if_false, true_and, and_true, and_self, eq_self, true_or, or_true, false_or, or_false, tIn, tLe, fLe, tLt, fLt, tEq, fEq, isL, hr.1, c28 hr h1, h2, row73.1, c28 row73 h1, h5, z1]
        refine rpop_ok (l := (es.map enC).reverse) (v := enC (fg, pp, v)) row73 h1 (by rw [h5]; simp) _ (fun σ5 k5 w5 f5 => ?_)
        have i5 := TKI_o (es' := es) hi hr hr2 k5 w5 f5
        cases fg with
        | true =>
          have ev : enC (true, pp, v) = -1 - (pp : Int) := rfl
          have eo : ouT n (true, pp, v) = fl v := rfl
          rw [eo] at hG hGl
          rw [ev]
          have e1 := endsT_at (T := T) hpp
          have e2 : -1 - (-1 - (pp : Int)) = (pp : Int) := by omega
          have te1 := At_te hv'.1
          have le1 := At_le hv'.1
          simp (disch := omega) only [s76_0, s76_1, s76_2, s76_3, s76_6, s76_7, s76_10, s76_13, s76_14, s76_17, s76_18, s76_21, s76_22, s76_26, s76_27, s76_30, s76_33, s76_34, s76_37, s76_40, s76_43, s76_44, s76_47, s76_50, s76_52, s76_54, s76_57, s76_58, s76_61, s76_62, s76_63, s76_65, s76_66, s76_67, s76_70, s76_71, s76_73, s76_74, s76_77, s76_80, s76_83, s76_84, s76_85, s76_87, s76_88, s76_91, s76_94, s76_97, List.cons_append, List.nil_append, if_true, if_false, true_and, and_true, and_self, eq_self, true_or, or_true, false_or, or_false, tIn, tLe, fLe, tLt, fLt, tEq, fEq, isL, row75.1, oS66, e2, c68 sp66 k5, i5.2.2.1, e1]
          refine rpart_ok row75 hr (by omega) k5 i5.2.2.2.2.2.1 i5.2.1 (At_part hv'.1) (by omega) (by omega) (by omega) _ (fun σ6 k6 w6 f6 => ?_)
          have i6 := TKI_f i5 hr hr2 k6 w6 f6
          simp (disch := omega) only [s76_0, s76_1, s76_2, s76_3, s76_6, s76_7, s76_10, s76_13, s76_14, s76_17, s76_18, s76_21, s76_22, s76_26, s76_27, s76_30, s76_33, s76_34, s76_37, s76_40, s76_43, s76_44, s76_47, s76_50, s76_52, s76_54, s76_57, s76_58, s76_61, s76_62, s76_63, s76_65, s76_66, s76_67, s76_70, s76_71, s76_73, s76_74, s76_77, s76_80, s76_83, s76_84, s76_85, s76_87, s76_88, s76_91, s76_94, s76_97, List.cons_append, List.nil_append, if_true, if_false, true_and, and_true, and_self, eq_self, true_or, or_true, false_or, or_false, tIn, tLe, fLe, tLt, fLt, tEq, fEq, isL]
          exact ih (k + 1) es _ σ6 _ (by omega) (by omega) hes' (by rw [← hG, List.append_assoc]) i6
        | false =>
          have ev : enC (false, pp, v) = (pp : Int) := rfl
          have eo : ouT n (false, pp, v) = fl (tkT n v) := rfl
          rw [eo] at hG hGl
          rw [ev]
          simp (disch := omega) only [s76_0, s76_1, s76_2, s76_3, s76_6, s76_7, s76_10, s76_13, s76_14, s76_17, s76_18, s76_21, s76_22, s76_26, s76_27, s76_30, s76_33, s76_34, s76_37, s76_40, s76_43, s76_44, s76_47, s76_50, s76_52, s76_54, s76_57, s76_58, s76_61, s76_62, s76_63, s76_65, s76_66, s76_67, s76_70, s76_71, s76_73, s76_74, s76_77, s76_80, s76_83, s76_84, s76_85, s76_87, s76_88, s76_91, s76_94, s76_97, List.cons_append, List.nil_append, if_true, if_false, true_and, and_true, and_self, eq_self, true_or, or_true, false_or, or_false, tIn, tLe, fLe, tLt, fLt, tEq, fEq, isL]
          refine wr77 i5 hr hr2 hT hkT hl hn hv'.1 hv'.2 (by omega) (by omega) _ (fun σ6 pre nw j1 j2 j3 j4 => ?_)
          simp (disch := omega) only [s76_0, s76_1, s76_2, s76_3, s76_6, s76_7, s76_10, s76_13, s76_14, s76_17, s76_18, s76_21, s76_22, s76_26, s76_27, s76_30, s76_33, s76_34, s76_37, s76_40, s76_43, s76_44, s76_47, s76_50, s76_52, s76_54, s76_57, s76_58, s76_61, s76_62, s76_63, s76_65, s76_66, s76_67, s76_70, s76_71, s76_73, s76_74, s76_77, s76_80, s76_83, s76_84, s76_85, s76_87, s76_88, s76_91, s76_94, s76_97, List.cons_append, List.nil_append, if_true, if_false, true_and, and_true, and_self, eq_self, true_or, or_true, false_or, or_false, tIn, tLe, fLe, tLt, fLt, tEq, fEq, isL]
          refine ih (k + 1) (nw ++ es) _ σ6 _ (by omega) (by rw [wtL_app]; omega) (fun e he => ?_) ?_ j1
          · rcases List.mem_append.mp he with he | he
            · exact j3 e he
            · exact hes' e he
          · rw [ouL_app, ← hG, ← j2]; simp
  exact lp T.length 0 [(false, p, u)] F σ3 _ (by omega) (by simp [wtL]; omega) (fun e he => by rcases List.mem_singleton.mp he with rfl; exact ⟨A, nb⟩) (by simp [ouL, ouT]) I0
theorem rbec_ok {X : List Int} (h : isRow r) (hq1 : isRow q) (hrq : q ≠ r) (hk : RK σ) (ho : rv σ q = X) (hc : X.length ≤ cp r) (Q : List AV → aSg → Prop) (hq : ∀ σ', RK σ' → rv σ' r = X → FrW r σ σ' → Q [] σ') : CA m40 [.inr (.inl r), .inr (.inl q)] σ Q := by
  rw [c40 h hq1 hrq hk, ho, List.take_of_length_le hc]
  exact hq _ (RK_rs hk h hc) rv_rs (fun a h1 h2 => rs_at h1 h2)
theorem rmeas_ok (hr : isRow r) (hr2 : r ≠ 67) (hk : RK σ) (hv : rv σ r = T) (hT : isT T) (hl : T.length ≤ 1032) (Q : List AV → aSg → Prop) (hq : ∀ σ', RK σ' → rv σ' 67 = endsT T → FrW 67 σ σ' → Q [] σ') : CA m67 [.inr (.inl 66), .inr (.inl r)] σ Q := by
  rw [c67 sp66 hr hr2 hk hv hT (by rw [cp67]; exact hl)]
  exact hq _ (RK_rs hk row67 (by rw [endsT_len, cp67]; exact hl)) rv_rs (fun a h1 h2 => rs_at h1 h2)
theorem wr75 (hr : isRow r) (hr2 : r < 65) (hcr : cp r = 1032) (hk : RK σ) (hv : rv σ r = T) (hT : isT T) (hkT : tks T) (hl : T.length ≤ 512) (hp : p < T.length) (hb : 1000 < T.getD p 0) (hf : nbF (p + 1) T) (Q : List AV → aSg → Prop) (hq : ∀ σ', RK σ' → rv σ' r = tkB T p → (∀ a, a ≠ r → a ≠ r + 1 → (a < 65 ∨ 76 < a) → σ' a = σ a) → Q [] σ') : CA m75 [.inr (.inl 65), .inr (.inl r), .inl (p : Int)] σ Q := by
  rw [e75]
  have c75 := cp75
  obtain ⟨a, A, A1, ea⟩ := At_bd hT hp hb
  obtain ⟨o1, o2, o3, o4, o5, o6⟩ := tkB_ok hT hkT hp hb hf
  have hg : T.getD p 0 = T[p] := by rw [List.getD_eq_getElem?_getD, List.getElem?_eq_getElem hp]; rfl
  have tk := hkT _ (List.getElem_mem hp)
  have el := lat_i2 hp
  have tb : 1097 ≤ T[p] ∧ T[p] ≤ 1122 := by rw [hg] at hb; unfold tok at tk; omega
  have na : noB a := by
    obtain ⟨_, r, e⟩ := A1
    intro c hc
    exact nbF_mem hf (by rw [e]; exact List.mem_append_left _ hc)
  have hte := At_te A
  have hle := At_le A
  have hlen : (tkB T p).length = p + ((fl (tkT (T.getD p 0 - 1000) a)).length + (T.length - te T p)) := by
    unfold tkB
    rw [ea, List.length_append, List.length_append, List.length_take, List.length_drop]
    omega
  have ep : (p : Int) + 1 = ((p + 1 : Nat) : Int) := by omega
  simp (disch := omega) only [s75_0, s75_1, s75_4, s75_7, s75_8, s75_11, s75_12, s75_13, s75_14, s75_17, s75_18, s75_21, s75_22, s75_25, s75_26, s75_27, s75_28, s75_29, s75_30, s75_31, s75_32, s75_35, s75_38, s75_41, s75_42, s75_45, s75_46, s75_47, s75_50, s75_51, s75_54, s75_55, s75_58, s75_61, s75_62, s75_63, s75_66, s75_69, List.cons_append, List.nil_append, if_true, if_false, true_and, and_true, and_self, eq_self, true_or, or_true, false_or, or_false, tIn, tLe, fLe, tLt, fLt, tEq, fEq, isL, row75.1]
  refine rclr_ok row75 hk _ (fun σ1 k1 w1 f1 => ?_)
  have v1 : rv σ1 r = T := (FrW_rv f1 row75 hr (by omega)).trans hv
  simp (disch := omega) only [s75_0, s75_1, s75_4, s75_7, s75_8, s75_11, s75_12, s75_13, s75_14, s75_17, s75_18, s75_21, s75_22, s75_25, s75_26, s75_27, s75_28, s75_29, s75_30, s75_31, s75_32, s75_35, s75_38, s75_41, s75_42, s75_45, s75_46, s75_47, s75_50, s75_51, s75_54, s75_55, s75_58, s75_61, s75_62, s75_63, s75_66, s75_69, List.cons_append, List.nil_append, if_true, if_false, true_and, and_true, and_self, eq_self, true_or, or_true, false_or, or_false, tIn, tLe, fLe, tLt, fLt, tEq, fEq, isL, row75.1]
  refine rpart_ok (x := 0) (y := p) row75 hr (by omega) k1 w1 v1 (X := T.take p) (by simp) (by simp; omega) (by omega) (by omega) _ (fun σ2 k2 w2 f2 => ?_)
  have v2 : rv σ2 r = T := (FrW_rv f2 row75 hr (by omega)).trans v1
  simp (disch := omega) only [s75_0, s75_1, s75_4, s75_7, s75_8, s75_11, s75_12, s75_13, s75_14, s75_17, s75_18, s75_21, s75_22, s75_25, s75_26, s75_27, s75_28, s75_29, s75_30, s75_31, s75_32, s75_35, s75_38, s75_41, s75_42, s75_45, s75_46, s75_47, s75_50, s75_51, s75_54, s75_55, s75_58, s75_61, s75_62, s75_63, s75_66, s75_69, List.cons_append, List.nil_append, if_true, if_false, true_and, and_true, and_self, eq_self, true_or, or_true, false_or, or_false, tIn, tLe, fLe, tLt, fLt, tEq, fEq, isL, oS66]
  refine rmeas_ok hr (by omega) k2 v2 hT (by omega) _ (fun σ3 k3 w3 f3 => ?_)
  have v3 : rv σ3 r = T := (FrW_rv f3 row67 hr (by omega)).trans v2
  have x3 : rv σ3 75 = T.take p := by rw [FrW_rv f3 row67 row75 (by omega), w2]; rfl
  simp (disch := omega) only [s75_0, s75_1, s75_4, s75_7, s75_8, s75_11, s75_12, s75_13, s75_14, s75_17, s75_18, s75_21, s75_22, s75_25, s75_26, s75_27, s75_28, s75_29, s75_30, s75_31, s75_32, s75_35, s75_38, s75_41, s75_42, s75_45, s75_46, s75_47, s75_50, s75_51, s75_54, s75_55, s75_58, s75_61, s75_62, s75_63, s75_66, s75_69, List.cons_append, List.nil_append, if_true, if_false, true_and, and_true, and_self, eq_self, true_or, or_true, false_or, or_false, tIn, tLe, fLe, tLt, fLt, tEq, fEq, isL, hr.1, c30 hr k3, v3, el, c118, ep]
  rw [hg] at hlen
  refine wr76 (n := T[p] - 1000) hr hr2 k3 v3 w3 x3 hT hkT (by omega) (by omega) A1 na (by rw [List.length_take]; omega) _ (fun σ4 k4 v4 u4 x4 f4 => ?_)
  have e1 := endsT_at (T := T) hp
  simp (disch := omega) only [s75_0, s75_1, s75_4, s75_7, s75_8, s75_11, s75_12, s75_13, s75_14, s75_17, s75_18, s75_21, s75_22, s75_25, s75_26, s75_27, s75_28, s75_29, s75_30, s75_31, s75_32, s75_35, s75_38, s75_41, s75_42, s75_45, s75_46, s75_47, s75_50, s75_51, s75_54, s75_55, s75_58, s75_61, s75_62, s75_63, s75_66, s75_69, List.cons_append, List.nil_append, if_true, if_false, true_and, and_true, and_self, eq_self, true_or, or_true, false_or, or_false, tIn, tLe, fLe, tLt, fLt, tEq, fEq, isL, row75.1, oS66, c68 sp66 k4, u4, e1, hr.1, c28 hr k4, v4]
  refine rpart_ok (x := te T p) (y := T.length) (X := T.drop (te T p)) row75 hr (by omega) k4 x4 v4 (by simp) (by simp; omega) (by omega) (by omega) _ (fun σ5 k5 w5 f5 => ?_)
  have w5' : rv σ5 75 = tkB T p := by rw [w5]; unfold tkB; rw [ea, hg, List.append_assoc]
  simp (disch := omega) only [s75_0, s75_1, s75_4, s75_7, s75_8, s75_11, s75_12, s75_13, s75_14, s75_17, s75_18, s75_21, s75_22, s75_25, s75_26, s75_27, s75_28, s75_29, s75_30, s75_31, s75_32, s75_35, s75_38, s75_41, s75_42, s75_45, s75_46, s75_47, s75_50, s75_51, s75_54, s75_55, s75_58, s75_61, s75_62, s75_63, s75_66, s75_69, List.cons_append, List.nil_append, if_true, if_false, true_and, and_true, and_self, eq_self, true_or, or_true, false_or, or_false, tIn, tLe, fLe, tLt, fLt, tEq, fEq, isL, row75.1, hr.1]
  refine rbec_ok hr row75 (by omega) k5 w5' (by rw [hcr]; omega) _ (fun σ6 k6 w6 f6 => ?_)
  simp (disch := omega) only [s75_0, s75_1, s75_4, s75_7, s75_8, s75_11, s75_12, s75_13, s75_14, s75_17, s75_18, s75_21, s75_22, s75_25, s75_26, s75_27, s75_28, s75_29, s75_30, s75_31, s75_32, s75_35, s75_38, s75_41, s75_42, s75_45, s75_46, s75_47, s75_50, s75_51, s75_54, s75_55, s75_58, s75_61, s75_62, s75_63, s75_66, s75_69, List.cons_append, List.nil_append, if_true, if_false, true_and, and_true, and_self, eq_self, true_or, or_true, false_or, or_false, tIn, tLe, fLe, tLt, fLt, tEq, fEq, isL]
  refine hq σ6 k6 w6 (fun a h1 h2 h3 => ?_)
  rw [f6 a h1 h2, f5 a (by omega) (by omega), f4 a h3, f3 a (by omega) (by omega), f2 a (by omega) (by omega), f1 a (by omega) (by omega)]
end PRS
