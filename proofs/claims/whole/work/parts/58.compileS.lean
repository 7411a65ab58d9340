/-! compiles, compile, takeOut: the reference -/
section CMS
variable {σ σ0 σ' : aSg} {K : List AV → aSg → Prop} {x y z i n : Int} {S : SS} {T W st F R : List Int} {r q t j k p : Nat} {es : List En}
theorem cm_skip : ∀ (k p : Nat) (T : List Int), nbF p T → p ≤ k → cmN k T = cmN p T := by
  intro k
  induction k with
  | zero => intro p T _ h; rw [show p = 0 by omega]
  | succ k ih =>
    intro p T h1 h2
    by_cases e : p = k + 1
    · rw [e]
    · simp only [cmN]
      rw [if_neg (h1 k (by omega))]
      exact ih p T h1 (by omega)
def TQI (σ0 σ : aSg) (T F : List Int) : Prop := tmM σ T ∧ mdM σ F ∧ FrG σ0 σ ∧ ∀ a, a < 130 → σ a = σ0 a
theorem TQI_m {F' : List Int} (h : TQI σ0 σ T F) (h1 : mdM σ' F') (hf : FrA 135 9 σ σ') : TQI σ0 σ' T F' := ⟨tmM_fr h.1 hf (by omega) (by omega), h1, FrG_tr h.2.2.1 (FrA_G hf (by omega) (by omega)), fun a ha => (hf.1 a (by omega) (by omega)).trans (h.2.2.2 a ha)⟩
theorem take_1 {T : List Int} {k : Nat} (h : k < T.length) : T.take (k + 1) = T.take k ++ [T[k]] := by
  rw [List.take_succ, List.getElem?_eq_getElem h]; rfl
theorem wr154 (hm : tmM σ T) (hT : isT T) (hkT : tks T) (hl : T.length ≤ 120) (Q : List AV → aSg → Prop) (hq : ∀ (σ' : aSg) (R : List Int), tmM σ' R → ((R = cmZ T) ∨ (480 < R.length ∧ 122 < (cmZ T).length)) → R.length ≤ 1000 → FrG σ σ' → (∀ a, a < 130 → σ' a = σ a) → Q [] σ') : CA m154 [.inr (.inl 130)] σ Q := by
  rw [e154]
  have l0 := ln134
  have lp : ∀ (k : Nat) (R : List Int) (σ2 : aSg) (v : Int) (l2 l3 : AV), cmN k R = cmZ T → isT R → tks R → k ≤ R.length → nbF k R → k ≤ 120 → (R.length ≤ 120 ∨ k ≤ 118) → R.length ≤ 1000 → tmM σ2 R → FrG σ σ2 → (∀ a, a < 130 → σ2 a = σ a) → ((v = -1 ∧ nbF 0 R) ∨ ∃ p : Nat, v = (p : Int) ∧ p < R.length ∧ 1000 < R.getD p 0 ∧ nbF (p + 1) R) → WP m154 5 [.inr (.inl 130), .inl v, l2, l3] [] σ2 Q := by
    intro k
    induction k using Nat.strongRecOn with
    | ind k ih =>
      intro R σ2 v l2 l3 h1 h2 h3 h4 h5 h6 h7 h8 h9 h10 h11 h12
      rw [s154_5]
      rcases h12 with ⟨rfl, h12⟩ | ⟨p, rfl, hp, hb, hf⟩
      · simp (disch := omega) only [s154_0, s154_1, s154_4, s154_6, s154_9, s154_10, s154_13, s154_16, s154_19, s154_20, s154_21, s154_24, s154_25, s154_26, s154_27, s154_30, s154_31, s154_33, s154_34, s154_37, s154_38, s154_39, s154_42, s154_43, s154_44, s154_47, s154_50, s154_53, s154_54, s154_55, s154_56, s154_57, s154_58, s154_61, s154_62, s154_63, s154_66, s154_67, s154_70, s154_71, s154_73, s154_74, s154_77, s154_80, s154_81, s154_82, s154_85, s154_86, s154_87, s154_90, s154_93, s154_96, s154_97, s154_100, s154_101, s154_104, s154_105, s154_108, List.cons_append, List.nil_append, if_true, if_false, true_and, and_true, and_self, eq_self, true_or, or_true, false_or, or_false, tIn, tLe, fLe, tLt, fLt, tEq, fEq, isL]
        refine hq σ2 R h9 (Or.inl ?_) h8 h10 h11
        rw [← h1, cm_skip k 0 R h12 (by omega)]; rfl
      · have e7 := h9.1
        have hpk : p < k := by
          apply Classical.byContradiction
          intro hh
          exact h5 p (by omega) hb
        have hz : cmN (p + 1) R = cmZ T := by rw [← h1, cm_skip k (p + 1) R hf (by omega)]
        have hg : R.getD p 0 = R[p] := by rw [List.getD_eq_getElem?_getD, List.getElem?_eq_getElem hp]; rfl
        have tk := h3 _ (List.getElem_mem hp)
        obtain ⟨g1, g2⟩ := te_1 h2 (List.getElem?_eq_getElem hp) (by rw [← hg]; exact arT_b hb)
        have hp8 : p ≤ 118 := by omega
        by_cases hs : R.length ≤ 480
        · obtain ⟨a, A, A1, ea⟩ := At_bd h2 hp hb
          obtain ⟨o1, o2, o3, o4, o5, o6⟩ := tkB_ok h2 h3 hp hb hf
          have tb : 1097 ≤ R[p] ∧ R[p] ≤ 1122 := by rw [hg] at hb; unfold tok at tk; omega
          have tt : tau R[p] = R[p] := tau_big (by omega)
          have na : noB a := by
            obtain ⟨_, r, e⟩ := A1
            intro c hc
            exact nbF_mem hf (by rw [e]; exact List.mem_append_left _ hc)
          have hte := At_te A
          have hle := At_le A
          have su := tk_up (n := R[p] - 1000) A1.1 na
          have hl2 : R.length ≤ 2200 := by omega
          have hlen : (tkB R p).length = p + ((fl (tkT (R.getD p 0 - 1000) a)).length + (R.length - te R p)) := by
            unfold tkB
            rw [ea, List.length_append, List.length_append, List.length_take, List.length_drop]
            omega
          rw [hg] at hlen
          simp only [fl, List.length_cons] at hle hte
          have ez : tkB R p = R.take p ++ fl (tkT (R[p] - 1000) a) ++ R.drop (te R p) := by unfold tkB; rw [ea, hg, List.append_assoc]
          have hz2 : cmN p (tkB R p) = cmZ T := by
            rw [← hz]
            simp only [cmN]
            rw [if_pos hb]
          have ep : (p : Int) + 1 = ((p + 1 : Nat) : Int) := by omega
          simp (disch := omega) only [s154_0, s154_1, s154_4, s154_6, s154_9, s154_10, s154_13, s154_16, s154_19, s154_20, s154_21, s154_24, s154_25, s154_26, s154_27, s154_30, s154_31, s154_33, s154_34, s154_37, s154_38, s154_39, s154_42, s154_43, s154_44, s154_47, s154_50, s154_53, s154_54, s154_55, s154_56, s154_57, s154_58, s154_61, s154_62, s154_63, s154_66, s154_67, s154_70, s154_71, s154_73, s154_74, s154_77, s154_80, s154_81, s154_82, s154_85, s154_86, s154_87, s154_90, s154_93, s154_96, s154_97, s154_100, s154_101, s154_104, s154_105, s154_108, List.cons_append, List.nil_append, if_true, if_false, true_and, and_true, and_self, eq_self, true_or, or_true, false_or, or_false, tIn, tLe, fLe, tLt, fLt, tEq, fEq, isL, e7, c149 h9 h2 h3 hl2 hp]
          have M0 : mdM (aup σ2 130 9 0) [] := ⟨aup_s, fun k c hc => by simp at hc⟩
          have F0 : FrA 135 9 σ2 (aup σ2 130 9 0) := ⟨fun a h1 h2 => aup_f h2, fun j hj => aup_n2 hj⟩
          have J0 : TQI σ (aup σ2 130 9 0) R [] := ⟨tmM_fr h9 F0 (by omega) (by omega), M0, FrG_tr h10 (FrA_G F0 (by omega) (by omega)), fun a ha => (F0.1 a (by omega) (by omega)).trans (h11 a ha)⟩
          have L2 : ∀ (m k : Nat) (σ3 : aSg), te R p ≤ k → k + m = R.length → TQI σ σ3 R (R.take p ++ fl (tkT (R[p] - 1000) a) ++ (R.drop (te R p)).take (k - te R p)) → WP m154 72 [.inr (.inl 130), .inl (p : Int), .inl (te R p : Int), .inl (k : Int)] [] σ3 Q := by
            intro m
            induction m with
            | zero =>
              intro k σ3 hk1 hk2 j3
              rw [s154_72]
              rw [List.take_of_length_le (l := R.drop (te R p)) (by rw [List.length_drop]; omega), ← ez] at j3
              have e73 := j3.1.1
              simp (disch := omega) only [s154_0, s154_1, s154_4, s154_6, s154_9, s154_10, s154_13, s154_16, s154_19, s154_20, s154_21, s154_24, s154_25, s154_26, s154_27, s154_30, s154_31, s154_33, s154_34, s154_37, s154_38, s154_39, s154_42, s154_43, s154_44, s154_47, s154_50, s154_53, s154_54, s154_55, s154_56, s154_57, s154_58, s154_61, s154_62, s154_63, s154_66, s154_67, s154_70, s154_71, s154_73, s154_74, s154_77, s154_80, s154_81, s154_82, s154_85, s154_86, s154_87, s154_90, s154_93, s154_96, s154_97, s154_100, s154_101, s154_104, s154_105, s154_108, List.cons_append, List.nil_append, if_true, if_false, true_and, and_true, and_self, eq_self, true_or, or_true, false_or, or_false, tIn, tLe, fLe, tLt, fLt, tEq, fEq, isL, e73]
              refine c139 j3.2.1 (by omega) _ (fun σ4 t4 b1 b2 => ?_)
              have F4 : FrA 134 7 σ3 σ4 := ⟨b1, b2⟩
              simp (disch := omega) only [s154_0, s154_1, s154_4, s154_6, s154_9, s154_10, s154_13, s154_16, s154_19, s154_20, s154_21, s154_24, s154_25, s154_26, s154_27, s154_30, s154_31, s154_33, s154_34, s154_37, s154_38, s154_39, s154_42, s154_43, s154_44, s154_47, s154_50, s154_53, s154_54, s154_55, s154_56, s154_57, s154_58, s154_61, s154_62, s154_63, s154_66, s154_67, s154_70, s154_71, s154_73, s154_74, s154_77, s154_80, s154_81, s154_82, s154_85, s154_86, s154_87, s154_90, s154_93, s154_96, s154_97, s154_100, s154_101, s154_104, s154_105, s154_108, List.cons_append, List.nil_append, if_true, if_false, true_and, and_true, and_self, eq_self, true_or, or_true, false_or, or_false, tIn, tLe, fLe, tLt, fLt, tEq, fEq, isL]
              refine c153 t4 (by omega) o2 _ (fun v hv => ?_)
              simp (disch := omega) only [s154_0, s154_1, s154_4, s154_6, s154_9, s154_10, s154_13, s154_16, s154_19, s154_20, s154_21, s154_24, s154_25, s154_26, s154_27, s154_30, s154_31, s154_33, s154_34, s154_37, s154_38, s154_39, s154_42, s154_43, s154_44, s154_47, s154_50, s154_53, s154_54, s154_55, s154_56, s154_57, s154_58, s154_61, s154_62, s154_63, s154_66, s154_67, s154_70, s154_71, s154_73, s154_74, s154_77, s154_80, s154_81, s154_82, s154_85, s154_86, s154_87, s154_90, s154_93, s154_96, s154_97, s154_100, s154_101, s154_104, s154_105, s154_108, List.cons_append, List.nil_append, if_true, if_false, true_and, and_true, and_self, eq_self, true_or, or_true, false_or, or_false, tIn, tLe, fLe, tLt, fLt, tEq, fEq, isL]
              exact ih p hpk (tkB R p) σ4 v _ _ hz2 o1 o2 o6 o3 (by omega) (Or.inr hp8) (by omega) t4 (FrG_tr j3.2.2.1 (FrA_G F4 (by omega) (by omega))) (fun a ha => (b1 a (by omega) (by omega)).trans (j3.2.2.2 a ha)) hv
            | succ m ihm =>
              intro k σ3 hk1 hk2 j3
              have hkl : k < R.length := by omega
              have e73 := j3.1.1
              have hc := j3.1.2 _ _ (List.getElem?_eq_getElem hkl)
              rw [s154_72]
              simp (disch := omega) only [s154_0, s154_1, s154_4, s154_6, s154_9, s154_10, s154_13, s154_16, s154_19, s154_20, s154_21, s154_24, s154_25, s154_26, s154_27, s154_30, s154_31, s154_33, s154_34, s154_37, s154_38, s154_39, s154_42, s154_43, s154_44, s154_47, s154_50, s154_53, s154_54, s154_55, s154_56, s154_57, s154_58, s154_61, s154_62, s154_63, s154_66, s154_67, s154_70, s154_71, s154_73, s154_74, s154_77, s154_80, s154_81, s154_82, s154_85, s154_86, s154_87, s154_90, s154_93, s154_96, s154_97, s154_100, s154_101, s154_104, s154_105, s154_108, List.cons_append, List.nil_append, if_true, if_false, true_and, and_true, and_self, eq_self, true_or, or_true, false_or, or_false, tIn, tLe, fLe, tLt, fLt, tEq, fEq, isL, e73, kd134, ln134, Int.toNat_natCast, hc]
              refine make_ok j3.2.1 rfl (by simp; omega) _ (fun σ4 b4 f4 => ?_)
              have j4 := TQI_m j3 b4 f4
              simp (disch := omega) only [s154_0, s154_1, s154_4, s154_6, s154_9, s154_10, s154_13, s154_16, s154_19, s154_20, s154_21, s154_24, s154_25, s154_26, s154_27, s154_30, s154_31, s154_33, s154_34, s154_37, s154_38, s154_39, s154_42, s154_43, s154_44, s154_47, s154_50, s154_53, s154_54, s154_55, s154_56, s154_57, s154_58, s154_61, s154_62, s154_63, s154_66, s154_67, s154_70, s154_71, s154_73, s154_74, s154_77, s154_80, s154_81, s154_82, s154_85, s154_86, s154_87, s154_90, s154_93, s154_96, s154_97, s154_100, s154_101, s154_104, s154_105, s154_108, List.cons_append, List.nil_append, if_true, if_false, true_and, and_true, and_self, eq_self, true_or, or_true, false_or, or_false, tIn, tLe, fLe, tLt, fLt, tEq, fEq, isL]
              refine ihm (k + 1) σ4 (by omega) (by omega) ?_
              have e5 : (R.drop (te R p)).take (k + 1 - te R p) = (R.drop (te R p)).take (k - te R p) ++ [R[k]] := by
                rw [show k + 1 - te R p = (k - te R p) + 1 by omega, List.take_succ, List.getElem?_drop, show te R p + (k - te R p) = k by omega, List.getElem?_eq_getElem hkl]
                rfl
              rw [e5]
              simpa using j4
          have L1 : ∀ (m k : Nat) (σ3 : aSg), k + m = p → TQI σ σ3 R (R.take k) → WP m154 32 [.inr (.inl 130), .inl (p : Int), .inl (te R p : Int), .inl (k : Int)] [] σ3 Q := by
            intro m
            induction m with
            | zero =>
              intro k σ3 hk j3
              have : k = p := by omega
              subst this
              have hc := j3.1.2 _ _ (List.getElem?_eq_getElem hp)
              rw [s154_32]
              simp (disch := omega) only [s154_0, s154_1, s154_4, s154_6, s154_9, s154_10, s154_13, s154_16, s154_19, s154_20, s154_21, s154_24, s154_25, s154_26, s154_27, s154_30, s154_31, s154_33, s154_34, s154_37, s154_38, s154_39, s154_42, s154_43, s154_44, s154_47, s154_50, s154_53, s154_54, s154_55, s154_56, s154_57, s154_58, s154_61, s154_62, s154_63, s154_66, s154_67, s154_70, s154_71, s154_73, s154_74, s154_77, s154_80, s154_81, s154_82, s154_85, s154_86, s154_87, s154_90, s154_93, s154_96, s154_97, s154_100, s154_101, s154_104, s154_105, s154_108, List.cons_append, List.nil_append, if_true, if_false, true_and, and_true, and_self, eq_self, true_or, or_true, false_or, or_false, tIn, tLe, fLe, tLt, fLt, tEq, fEq, isL, ep, kd134, ln134, Int.toNat_natCast, hc, tt]
              refine wr152 (n := R[k] - 1000) j3.1 j3.2.1 h2 h3 hs (by omega) A1 na (by rw [List.length_take]; omega) _ (fun σ4 t4 d4 g4 f4 => ?_)
              simp (disch := omega) only [s154_0, s154_1, s154_4, s154_6, s154_9, s154_10, s154_13, s154_16, s154_19, s154_20, s154_21, s154_24, s154_25, s154_26, s154_27, s154_30, s154_31, s154_33, s154_34, s154_37, s154_38, s154_39, s154_42, s154_43, s154_44, s154_47, s154_50, s154_53, s154_54, s154_55, s154_56, s154_57, s154_58, s154_61, s154_62, s154_63, s154_66, s154_67, s154_70, s154_71, s154_73, s154_74, s154_77, s154_80, s154_81, s154_82, s154_85, s154_86, s154_87, s154_90, s154_93, s154_96, s154_97, s154_100, s154_101, s154_104, s154_105, s154_108, List.cons_append, List.nil_append, if_true, if_false, true_and, and_true, and_self, eq_self, true_or, or_true, false_or, or_false, tIn, tLe, fLe, tLt, fLt, tEq, fEq, isL]
              refine L2 (R.length - te R k) (te R k) σ4 (by omega) (by omega) ⟨t4, by simpa using d4, FrG_tr j3.2.2.1 g4, fun a ha => (f4 a ha).trans (j3.2.2.2 a ha)⟩
            | succ m ihm =>
              intro k σ3 hk j3
              have hkl : k < R.length := by omega
              have hc := j3.1.2 _ _ (List.getElem?_eq_getElem hkl)
              rw [s154_32]
              simp (disch := omega) only [s154_0, s154_1, s154_4, s154_6, s154_9, s154_10, s154_13, s154_16, s154_19, s154_20, s154_21, s154_24, s154_25, s154_26, s154_27, s154_30, s154_31, s154_33, s154_34, s154_37, s154_38, s154_39, s154_42, s154_43, s154_44, s154_47, s154_50, s154_53, s154_54, s154_55, s154_56, s154_57, s154_58, s154_61, s154_62, s154_63, s154_66, s154_67, s154_70, s154_71, s154_73, s154_74, s154_77, s154_80, s154_81, s154_82, s154_85, s154_86, s154_87, s154_90, s154_93, s154_96, s154_97, s154_100, s154_101, s154_104, s154_105, s154_108, List.cons_append, List.nil_append, if_true, if_false, true_and, and_true, and_self, eq_self, true_or, or_true, false_or, or_false, tIn, tLe, fLe, tLt, fLt, tEq, fEq, isL, kd134, ln134, Int.toNat_natCast, hc]
              refine make_ok j3.2.1 rfl (by simp; omega) _ (fun σ4 b4 f4 => ?_)
              have j4 := TQI_m j3 b4 f4
              rw [← take_1 hkl] at j4
              simp (disch := omega) only [s154_0, s154_1, s154_4, s154_6, s154_9, s154_10, s154_13, s154_16, s154_19, s154_20, s154_21, s154_24, s154_25, s154_26, s154_27, s154_30, s154_31, s154_33, s154_34, s154_37, s154_38, s154_39, s154_42, s154_43, s154_44, s154_47, s154_50, s154_53, s154_54, s154_55, s154_56, s154_57, s154_58, s154_61, s154_62, s154_63, s154_66, s154_67, s154_70, s154_71, s154_73, s154_74, s154_77, s154_80, s154_81, s154_82, s154_85, s154_86, s154_87, s154_90, s154_93, s154_96, s154_97, s154_100, s154_101, s154_104, s154_105, s154_108, List.cons_append, List.nil_append, if_true, if_false, true_and, and_true, and_self, eq_self, true_or, or_true, false_or, or_false, tIn, tLe, fLe, tLt, fLt, tEq, fEq, isL]
              exact ihm (k + 1) σ4 (by omega) j4
          exact L1 p 0 _ (by omega) (by simpa using J0)
        · simp (disch := omega) only [s154_0, s154_1, s154_4, s154_6, s154_9, s154_10, s154_13, s154_16, s154_19, s154_20, s154_21, s154_24, s154_25, s154_26, s154_27, s154_30, s154_31, s154_33, s154_34, s154_37, s154_38, s154_39, s154_42, s154_43, s154_44, s154_47, s154_50, s154_53, s154_54, s154_55, s154_56, s154_57, s154_58, s154_61, s154_62, s154_63, s154_66, s154_67, s154_70, s154_71, s154_73, s154_74, s154_77, s154_80, s154_81, s154_82, s154_85, s154_86, s154_87, s154_90, s154_93, s154_96, s154_97, s154_100, s154_101, s154_104, s154_105, s154_108, List.cons_append, List.nil_append, if_true, if_false, true_and, and_true, and_self, eq_self, true_or, or_true, false_or, or_false, tIn, tLe, fLe, tLt, fLt, tEq, fEq, isL, e7]
          refine hq σ2 R h9 (Or.inr ⟨by omega, ?_⟩) h8 h10 h11
          obtain ⟨-, -, -, b4⟩ := cmN_ok (p + 1) R h2 h3 (by omega) hf
          rw [hz] at b4
          omega
  simp (disch := omega) only [s154_0, s154_1, s154_4, s154_6, s154_9, s154_10, s154_13, s154_16, s154_19, s154_20, s154_21, s154_24, s154_25, s154_26, s154_27, s154_30, s154_31, s154_33, s154_34, s154_37, s154_38, s154_39, s154_42, s154_43, s154_44, s154_47, s154_50, s154_53, s154_54, s154_55, s154_56, s154_57, s154_58, s154_61, s154_62, s154_63, s154_66, s154_67, s154_70, s154_71, s154_73, s154_74, s154_77, s154_80, s154_81, s154_82, s154_85, s154_86, s154_87, s154_90, s154_93, s154_96, s154_97, s154_100, s154_101, s154_104, s154_105, s154_108, List.cons_append, List.nil_append, if_true, if_false, true_and, and_true, and_self, eq_self, true_or, or_true, false_or, or_false, tIn, tLe, fLe, tLt, fLt, tEq, fEq, isL]
  refine c153 hm (by omega) hkT _ (fun v hv => ?_)
  simp (disch := omega) only [s154_0, s154_1, s154_4, s154_6, s154_9, s154_10, s154_13, s154_16, s154_19, s154_20, s154_21, s154_24, s154_25, s154_26, s154_27, s154_30, s154_31, s154_33, s154_34, s154_37, s154_38, s154_39, s154_42, s154_43, s154_44, s154_47, s154_50, s154_53, s154_54, s154_55, s154_56, s154_57, s154_58, s154_61, s154_62, s154_63, s154_66, s154_67, s154_70, s154_71, s154_73, s154_74, s154_77, s154_80, s154_81, s154_82, s154_85, s154_86, s154_87, s154_90, s154_93, s154_96, s154_97, s154_100, s154_101, s154_104, s154_105, s154_108, List.cons_append, List.nil_append, if_true, if_false, true_and, and_true, and_self, eq_self, true_or, or_true, false_or, or_false, tIn, tLe, fLe, tLt, fLt, tEq, fEq, isL]
  exact lp T.length T σ v _ _ rfl hT hkT (Nat.le_refl _) nbF_top hl (Or.inl hl) (by omega) hm FrG_rf (fun _ _ => rfl) hv
theorem m155_ok (hR : RepM σ S) : MM m155 [.inr (.inl 130), .inl x] σ (f90 S x).1 (f90 S x).2 := by
  unfold MM
  rw [e155]
  unfold f90
  by_cases hx : 0 ≤ x ∧ x < 4
  · rw [if_neg (fun q => q hx)]
    obtain ⟨p, rfl⟩ := Int.eq_ofNat_of_zero_le hx.1
    have hp : p < 4 := by omega
    have sp := hR.sh hp
    have op := hR.1.2.2.1 p hp
    have lp := sh_len op
    have hsz : σ 131 (121 * p) = ((sv S p).length : Int) := sp.1
    simp only [Int.toNat_natCast]
    by_cases ep : sv S p = []
    · rw [if_pos ep]
      have z0 : ((sv S p).length : Int) = 0 := by rw [ep]; rfl
      simp (disch := omega) only [s155_0, s155_1, s155_4, s155_7, s155_9, s155_10, s155_11, s155_12, s155_15, s155_18, s155_20, s155_21, s155_22, s155_23, s155_26, s155_27, s155_30, s155_31, s155_32, s155_35, List.cons_append, List.nil_append, if_true, if_false, true_and, and_true, and_self, eq_self, true_or, or_true, false_or, or_false, tIn, tLe, fLe, tLt, fLt, tEq, fEq, isL, c130, c131 hp, hsz]
      exact ⟨hR, fun _ _ => rfl⟩
    · rw [if_neg ep]
      have z0 : 0 < (sv S p).length := List.length_pos_iff.mpr ep
      have wf := sh_wf op ep
      obtain ⟨z1, z2, z3⟩ := cmZ_ok wf.1 wf.2
      simp (disch := omega) only [s155_0, s155_1, s155_4, s155_7, s155_9, s155_10, s155_11, s155_12, s155_15, s155_18, s155_20, s155_21, s155_22, s155_23, s155_26, s155_27, s155_30, s155_31, s155_32, s155_35, List.cons_append, List.nil_append, if_true, if_false, true_and, and_true, and_self, eq_self, true_or, or_true, false_or, or_false, tIn, tLe, fLe, tLt, fLt, tEq, fEq, isL, c130, c131 hp, hsz]
      refine c136 hp sp lp _ (fun σ1 t1 a1 a2 => ?_)
      have F1 : FrA 134 7 σ σ1 := ⟨a1, a2⟩
      simp (disch := omega) only [s155_0, s155_1, s155_4, s155_7, s155_9, s155_10, s155_11, s155_12, s155_15, s155_18, s155_20, s155_21, s155_22, s155_23, s155_26, s155_27, s155_30, s155_31, s155_32, s155_35, List.cons_append, List.nil_append, if_true, if_false, true_and, and_true, and_self, eq_self, true_or, or_true, false_or, or_false, tIn, tLe, fLe, tLt, fLt, tEq, fEq, isL]
      refine wr154 t1 wf.1 wf.2 lp _ (fun σ2 R t2 e2 l2 g2 f2 => ?_)
      have R2 : RepM σ2 S := RepM_G (RepM_G hR (FrA_G F1 (by omega) (by omega))) g2
      rw [show layS S p (cmZ (sv S p)) = layS S p R from lay_big (by rcases e2 with e2 | e2; exact Or.inl e2.symm; exact Or.inr ⟨by omega, by omega⟩)]
      simp (disch := omega) only [s155_0, s155_1, s155_4, s155_7, s155_9, s155_10, s155_11, s155_12, s155_15, s155_18, s155_20, s155_21, s155_22, s155_23, s155_26, s155_27, s155_30, s155_31, s155_32, s155_35, List.cons_append, List.nil_append, if_true, if_false, true_and, and_true, and_self, eq_self, true_or, or_true, false_or, or_false, tIn, tLe, fLe, tLt, fLt, tEq, fEq, isL]
      refine CA_use (lay_ok R2 hp t2 (fun hl => Or.inr ⟨?_, hl⟩)) (fun v σ' h => ?_)
      · rcases e2 with e2 | e2
        · rw [e2]; exact ⟨z1, z2⟩
        · omega
      · obtain ⟨rfl, h2, h3⟩ := h
        simp (disch := omega) only [s155_0, s155_1, s155_4, s155_7, s155_9, s155_10, s155_11, s155_12, s155_15, s155_18, s155_20, s155_21, s155_22, s155_23, s155_26, s155_27, s155_30, s155_31, s155_32, s155_35, List.cons_append, List.nil_append, if_true, if_false, true_and, and_true, and_self, eq_self, true_or, or_true, false_or, or_false, tIn, tLe, fLe, tLt, fLt, tEq, fEq, isL]
        exact ⟨h2, fun a ha => (h3 a ha).trans ((f2 a ha).trans (a1 a (by omega) (by omega)))⟩
  · rw [if_pos hx]
    have gx : ¬ (0 ≤ x ∧ x ≤ 3) := by omega
    simp (disch := omega) only [s155_0, s155_1, s155_4, s155_7, s155_9, s155_10, s155_11, s155_12, s155_15, s155_18, s155_20, s155_21, s155_22, s155_23, s155_26, s155_27, s155_30, s155_31, s155_32, s155_35, List.cons_append, List.nil_append, if_true, if_false, true_and, and_true, and_self, eq_self, true_or, or_true, false_or, or_false, tIn, tLe, fLe, tLt, fLt, tEq, fEq, isL, c130, gx]
    exact ⟨hR, fun _ _ => rfl⟩
theorem m156_ok (hR : RepM σ S) : MM m156 [.inr (.inl 130), .inl x, .inl n] σ (f91 S x n).1 (f91 S x n).2 := by
  unfold MM
  rw [e156]
  unfold f91
  by_cases hx : 0 ≤ x ∧ x < 4
  · rw [if_neg (fun q => q hx)]
    obtain ⟨p, rfl⟩ := Int.eq_ofNat_of_zero_le hx.1
    have hp : p < 4 := by omega
    have sp := hR.sh hp
    have op := hR.1.2.2.1 p hp
    have lp := sh_len op
    have hsz : σ 131 (121 * p) = ((sv S p).length : Int) := sp.1
    simp only [Int.toNat_natCast]
    by_cases hn : 97 ≤ n ∧ n ≤ 122
    · rw [if_neg (fun q => q hn)]
      by_cases ep : sv S p = []
      · rw [if_pos ep]
        have z0 : ((sv S p).length : Int) = 0 := by rw [ep]; rfl
        simp (disch := omega) only [s156_0, s156_1, s156_4, s156_7, s156_9, s156_10, s156_11, s156_14, s156_17, s156_19, s156_20, s156_21, s156_22, s156_25, s156_28, s156_30, s156_31, s156_32, s156_33, s156_36, s156_37, s156_40, s156_41, s156_44, s156_47, s156_50, s156_51, s156_52, s156_55, s156_56, s156_57, s156_58, s156_61, s156_62, s156_65, s156_66, s156_67, s156_70, List.cons_append, List.nil_append, if_true, if_false, true_and, and_true, and_self, eq_self, true_or, or_true, false_or, or_false, tIn, tLe, fLe, tLt, fLt, tEq, fEq, isL, c130, c128, hn, c131 hp, hsz]
        exact ⟨hR, fun _ _ => rfl⟩
      · rw [if_neg ep]
        have z0 : 0 < (sv S p).length := List.length_pos_iff.mpr ep
        have wf := sh_wf op ep
        obtain ⟨z1, z2, z3⟩ := cmZ_ok wf.1 wf.2
        obtain ⟨y1, y2, y3⟩ := toZ_ok hn wf.1 wf.2
        simp (disch := omega) only [s156_0, s156_1, s156_4, s156_7, s156_9, s156_10, s156_11, s156_14, s156_17, s156_19, s156_20, s156_21, s156_22, s156_25, s156_28, s156_30, s156_31, s156_32, s156_33, s156_36, s156_37, s156_40, s156_41, s156_44, s156_47, s156_50, s156_51, s156_52, s156_55, s156_56, s156_57, s156_58, s156_61, s156_62, s156_65, s156_66, s156_67, s156_70, List.cons_append, List.nil_append, if_true, if_false, true_and, and_true, and_self, eq_self, true_or, or_true, false_or, or_false, tIn, tLe, fLe, tLt, fLt, tEq, fEq, isL, c130, c128, hn, c131 hp, hsz]
        refine c136 hp sp lp _ (fun σ1 t1 a1 a2 => ?_)
        have F1 : FrA 134 7 σ σ1 := ⟨a1, a2⟩
        simp (disch := omega) only [s156_0, s156_1, s156_4, s156_7, s156_9, s156_10, s156_11, s156_14, s156_17, s156_19, s156_20, s156_21, s156_22, s156_25, s156_28, s156_30, s156_31, s156_32, s156_33, s156_36, s156_37, s156_40, s156_41, s156_44, s156_47, s156_50, s156_51, s156_52, s156_55, s156_56, s156_57, s156_58, s156_61, s156_62, s156_65, s156_66, s156_67, s156_70, List.cons_append, List.nil_append, if_true, if_false, true_and, and_true, and_self, eq_self, true_or, or_true, false_or, or_false, tIn, tLe, fLe, tLt, fLt, tEq, fEq, isL]
        refine wr154 t1 wf.1 wf.2 lp _ (fun σ2 R t2 e2 l2 g2 f2 => ?_)
        have G2 := FrG_tr (FrA_G F1 (by omega) (by omega)) g2
        have f2' : ∀ a, a < 130 → σ2 a = σ a := fun a ha => (f2 a ha).trans (a1 a (by omega) (by omega))
        have e7 := t2.1
        have fin : ∀ (σ3 : aSg) (R3 : List Int), tmM σ3 R3 → FrG σ σ3 → (∀ a, a < 130 → σ3 a = σ a) → (R3 = toZ n (sv S p) ∨ (120 < R3.length ∧ 120 < (toZ n (sv S p)).length)) → WP m156 65 [.inr (.inl 130), .inl (p : Int), .inl n] [] σ3 (fun v σ' => v = [.inl (layS S p (toZ n (sv S p))).1] ∧ RepM σ' (layS S p (toZ n (sv S p))).2 ∧ FrM σ σ') := by
          intro σ3 R3 t3 g3 f3 e3
          rw [show layS S p (toZ n (sv S p)) = layS S p R3 from lay_big (by rcases e3 with e3 | e3; exact Or.inl e3.symm; exact Or.inr ⟨by omega, by omega⟩)]
          simp (disch := omega) only [s156_0, s156_1, s156_4, s156_7, s156_9, s156_10, s156_11, s156_14, s156_17, s156_19, s156_20, s156_21, s156_22, s156_25, s156_28, s156_30, s156_31, s156_32, s156_33, s156_36, s156_37, s156_40, s156_41, s156_44, s156_47, s156_50, s156_51, s156_52, s156_55, s156_56, s156_57, s156_58, s156_61, s156_62, s156_65, s156_66, s156_67, s156_70, List.cons_append, List.nil_append, if_true, if_false, true_and, and_true, and_self, eq_self, true_or, or_true, false_or, or_false, tIn, tLe, fLe, tLt, fLt, tEq, fEq, isL]
          refine CA_use (lay_ok (RepM_G hR g3) hp t3 (fun hl => Or.inr ⟨?_, hl⟩)) (fun v σ' h => ?_)
          · rcases e3 with e3 | e3
            · rw [e3]; exact ⟨y1, y2⟩
            · omega
          · obtain ⟨rfl, h2, h3⟩ := h
            simp (disch := omega) only [s156_0, s156_1, s156_4, s156_7, s156_9, s156_10, s156_11, s156_14, s156_17, s156_19, s156_20, s156_21, s156_22, s156_25, s156_28, s156_30, s156_31, s156_32, s156_33, s156_36, s156_37, s156_40, s156_41, s156_44, s156_47, s156_50, s156_51, s156_52, s156_55, s156_56, s156_57, s156_58, s156_61, s156_62, s156_65, s156_66, s156_67, s156_70, List.cons_append, List.nil_append, if_true, if_false, true_and, and_true, and_self, eq_self, true_or, or_true, false_or, or_false, tIn, tLe, fLe, tLt, fLt, tEq, fEq, isL]
            exact ⟨h2, fun a ha => (h3 a ha).trans (f3 a ha)⟩
        by_cases hs : R.length ≤ 480
        · have e3 : R = cmZ (sv S p) := by rcases e2 with e2 | e2; exact e2; omega
          subst e3
          obtain ⟨u, A⟩ := At_ex z1 (isT_pos z1)
          have ea := trA_eq A
          have na : noB u := by
            obtain ⟨_, r, e⟩ := A
            intro c hc
            exact nbF_mem z3 (by rw [e]; exact List.mem_append_left _ hc)
          have su := tk_up (n := n) A.1 na
          have hle := At_le A
          simp (disch := omega) only [s156_0, s156_1, s156_4, s156_7, s156_9, s156_10, s156_11, s156_14, s156_17, s156_19, s156_20, s156_21, s156_22, s156_25, s156_28, s156_30, s156_31, s156_32, s156_33, s156_36, s156_37, s156_40, s156_41, s156_44, s156_47, s156_50, s156_51, s156_52, s156_55, s156_56, s156_57, s156_58, s156_61, s156_62, s156_66, s156_67, s156_70, List.cons_append, List.nil_append, if_true, if_false, true_and, and_true, and_self, eq_self, true_or, or_true, false_or, or_false, tIn, tLe, fLe, tLt, fLt, tEq, fEq, isL, e7]
          have M0 : mdM (aup σ2 130 9 0) [] := ⟨aup_s, fun k c hc => by simp at hc⟩
          have F0 : FrA 135 9 σ2 (aup σ2 130 9 0) := ⟨fun a h1 h2 => aup_f h2, fun j hj => aup_n2 hj⟩
          refine wr152 (p := 0) (n := n) (tmM_fr t2 F0 (by omega) (by omega)) M0 z1 z2 hs hn A na (by simp; omega) _ (fun σ4 t4 d4 g4 f4 => ?_)
          simp (disch := omega) only [s156_0, s156_1, s156_4, s156_7, s156_9, s156_10, s156_11, s156_14, s156_17, s156_19, s156_20, s156_21, s156_22, s156_25, s156_28, s156_30, s156_31, s156_32, s156_33, s156_36, s156_37, s156_40, s156_41, s156_44, s156_47, s156_50, s156_51, s156_52, s156_55, s156_56, s156_57, s156_58, s156_61, s156_62, s156_66, s156_67, s156_70, List.cons_append, List.nil_append, if_true, if_false, true_and, and_true, and_self, eq_self, true_or, or_true, false_or, or_false, tIn, tLe, fLe, tLt, fLt, tEq, fEq, isL]
          refine c139 d4 (by simp; omega) _ (fun σ5 t5 b1 b2 => ?_)
          have F5 : FrA 134 7 σ4 σ5 := ⟨b1, b2⟩
          simp (disch := omega) only [s156_0, s156_1, s156_4, s156_7, s156_9, s156_10, s156_11, s156_14, s156_17, s156_19, s156_20, s156_21, s156_22, s156_25, s156_28, s156_30, s156_31, s156_32, s156_33, s156_36, s156_37, s156_40, s156_41, s156_44, s156_47, s156_50, s156_51, s156_52, s156_55, s156_56, s156_57, s156_58, s156_61, s156_62, s156_66, s156_67, s156_70, List.cons_append, List.nil_append, if_true, if_false, true_and, and_true, and_self, eq_self, true_or, or_true, false_or, or_false, tIn, tLe, fLe, tLt, fLt, tEq, fEq, isL]
          refine fin σ5 _ t5 (FrG_tr G2 (FrG_tr (FrA_G F0 (by omega) (by omega)) (FrG_tr g4 (FrA_G F5 (by omega) (by omega))))) (fun a ha => ?_) (Or.inl ?_)
          · rw [b1 a (by omega) (by omega), f4 a ha, F0.1 a (by omega) (by omega), f2' a ha]
          · unfold toZ; rw [ea]; rfl
        · simp (disch := omega) only [s156_0, s156_1, s156_4, s156_7, s156_9, s156_10, s156_11, s156_14, s156_17, s156_19, s156_20, s156_21, s156_22, s156_25, s156_28, s156_30, s156_31, s156_32, s156_33, s156_36, s156_37, s156_40, s156_41, s156_44, s156_47, s156_50, s156_51, s156_52, s156_55, s156_56, s156_57, s156_58, s156_61, s156_62, s156_66, s156_67, s156_70, List.cons_append, List.nil_append, if_true, if_false, true_and, and_true, and_self, eq_self, true_or, or_true, false_or, or_false, tIn, tLe, fLe, tLt, fLt, tEq, fEq, isL, e7]
          refine fin σ2 R t2 G2 f2' (Or.inr ⟨by omega, ?_⟩)
          rcases e2 with e2 | e2
          · rw [e2] at hs; omega
          · omega
    · rw [if_pos hn]
      simp (disch := omega) only [s156_0, s156_1, s156_4, s156_7, s156_9, s156_10, s156_11, s156_14, s156_17, s156_19, s156_20, s156_21, s156_22, s156_25, s156_28, s156_30, s156_31, s156_32, s156_33, s156_36, s156_37, s156_40, s156_41, s156_44, s156_47, s156_50, s156_51, s156_52, s156_55, s156_56, s156_57, s156_58, s156_61, s156_62, s156_65, s156_66, s156_67, s156_70, List.cons_append, List.nil_append, if_true, if_false, true_and, and_true, and_self, eq_self, true_or, or_true, false_or, or_false, tIn, tLe, fLe, tLt, fLt, tEq, fEq, isL, c130, c128, hn]
      exact ⟨hR, fun _ _ => rfl⟩
  · rw [if_pos hx]
    have gx : ¬ (0 ≤ x ∧ x ≤ 3) := by omega
    simp (disch := omega) only [s156_0, s156_1, s156_4, s156_7, s156_9, s156_10, s156_11, s156_14, s156_17, s156_19, s156_20, s156_21, s156_22, s156_25, s156_28, s156_30, s156_31, s156_32, s156_33, s156_36, s156_37, s156_40, s156_41, s156_44, s156_47, s156_50, s156_51, s156_52, s156_55, s156_56, s156_57, s156_58, s156_61, s156_62, s156_65, s156_66, s156_67, s156_70, List.cons_append, List.nil_append, if_true, if_false, true_and, and_true, and_self, eq_self, true_or, or_true, false_or, or_false, tIn, tLe, fLe, tLt, fLt, tEq, fEq, isL, c130, gx]
    exact ⟨hR, fun _ _ => rfl⟩
end CMS
