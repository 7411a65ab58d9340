/-! Reader: letters, the text; term -/
section RDD
variable {σ σ0 σ' : aSg} {K : List AV → aSg → Prop} {x y z i n c pl : Int} {S : SS} {T W st F R s : List Int} {r q t j k p nx w : Nat} {b : Bool} {l lv : List Lv}
theorem rd18 (h : RDI σ0 σ pl lv nx nx) (hI : RIv lv nx) (hlen : lv.length < 241) (Q : List AV → aSg → Prop) (hq0 : ∀ σ', (rdT lv nx c).1 = 0 → RDI σ0 σ' pl (rdT lv nx c).2.1 (rdT lv nx c).2.2 (rdT lv nx c).2.2 → Q [.inl 0] σ') (hq1 : ∀ σ', (rdT lv nx c).1 ≠ 0 → RDX σ0 σ' pl → Q [.inl (rdT lv nx c).1] σ') : CA m18 [.inr (.inl 55), .inl c, .inr (.inl 53)] σ Q := by
  rw [e18]
  obtain ⟨h1, h2, h3, h4, h5, h6⟩ := id h
  obtain ⟨b, s, l, rfl, r1, r2, r3, r4, r5, r6⟩ := hI
  have hle := rv_le h1.1 row53
  rw [h2, cp53] at hle
  simp only [List.length_cons] at hlen
  simp only [rdT] at hq0 hq1
  unfold rdS at hq0 hq1
  by_cases g1 : c = 32
  · simp only [if_pos g1] at hq0 hq1
    simp (disch := omega) only [s18_0, s18_1, s18_3, s18_6, s18_7, s18_8, s18_9, s18_12, s18_13, s18_16, s18_17, s18_18, s18_19, s18_22, s18_23, s18_24, s18_27, s18_28, s18_31, s18_32, s18_33, s18_34, s18_37, s18_38, s18_39, s18_41, s18_44, s18_45, s18_46, s18_49, s18_50, s18_51, s18_53, s18_56, s18_57, s18_58, s18_61, s18_62, s18_63, s18_65, s18_68, s18_69, s18_70, s18_73, s18_74, s18_77, s18_78, s18_81, s18_82, s18_83, s18_86, s18_89, s18_90, s18_93, s18_96, s18_97, s18_100, s18_101, s18_102, s18_103, s18_106, s18_107, s18_108, s18_109, s18_112, s18_115, s18_116, List.cons_append, List.nil_append, if_true, if_false, true_and, and_true, and_self, eq_self, true_or, or_true, false_or, or_false, tIn, tLe, fLe, tLt, fLt, tEq, fEq, isL]
    exact hq0 σ trivial h
  simp only [if_neg g1] at hq0 hq1
  by_cases g2 : nx = 1
  · subst g2
    simp only [if_true] at hq0 hq1 h2
    have h6' : σ 55 3 = 1 := h6
    by_cases g3 : 97 ≤ c ∧ c ≤ 122
    · simp only [if_pos g3] at hq0 hq1
      have eL : ((conc ((b, s) :: l) ++ [1000]).length : Int) = ((conc ((b, s) :: l)).length : Int) + 1 := by simp
      have hx : (conc ((b, s) :: l)).length ≤ 120 := by simp only [if_true] at r5; omega
      have es : lset (conc ((b, s) :: l) ++ [1000]) (((conc ((b, s) :: l)).length : Int) + 1 - 1) (1000 + c) = conc ((b, s ++ [1000 + c]) :: l) := by
        unfold lset
        rw [if_pos (by omega), show (((conc ((b, s) :: l)).length : Int) + 1 - 1).toNat = (conc ((b, s) :: l)).length by omega]
        rw [List.set_append_right _ _ (Nat.le_refl _)]
        simp [conc]
      have kk : RK (rs σ 53 (conc ((b, s ++ [1000 + c]) :: l))) := RK_rs h1.1 row53 (by rw [cp53]; simp [conc] at hx ⊢; omega)
      have ff : FrW 53 σ (rs σ 53 (conc ((b, s ++ [1000 + c]) :: l))) := fun a h1 h2 => rs_at h1 h2
      simp (disch := omega) only [s18_0, s18_1, s18_3, s18_6, s18_7, s18_8, s18_9, s18_12, s18_13, s18_16, s18_17, s18_18, s18_19, s18_22, s18_23, s18_24, s18_27, s18_28, s18_31, s18_32, s18_33, s18_34, s18_37, s18_38, s18_39, s18_41, s18_44, s18_45, s18_46, s18_49, s18_50, s18_51, s18_53, s18_56, s18_57, s18_58, s18_61, s18_62, s18_63, s18_65, s18_68, s18_69, s18_70, s18_73, s18_74, s18_77, s18_78, s18_81, s18_82, s18_83, s18_86, s18_89, s18_90, s18_93, s18_96, s18_97, s18_100, s18_101, s18_102, s18_103, s18_106, s18_107, s18_108, s18_109, s18_112, s18_115, s18_116, List.cons_append, List.nil_append, if_true, if_false, true_and, and_true, and_self, eq_self, true_or, or_true, false_or, or_false, tIn, tLe, fLe, tLt, fLt, tEq, fEq, isL, h6', e19, s19_0, s19_1, s19_4, s19_7, s19_8, s19_9, s19_10, s19_11, s19_14, s19_15, s19_16, s19_19, s19_20, s19_21, s19_24, s19_25, s19_26, s19_29, s19_30, c116, g3, row53.1, c28 row53 h1.1, h2, eL, c33 row53 h1.1, es]
      refine hq0 _ trivial ⟨RDX_u (RDX_w h1 row53 (by omega) kk ff) (by omega), ?_, ?_, ?_, ?_, aup_s⟩
      · rw [rv55 row53, rv_rs]; simp
      · rw [rv55 row56, FrW_rv ff row53 row56 (by omega)]; exact h3
      · rw [rv55 row58, FrW_rv ff row53 row58 (by omega)]; exact h4
      · rw [aup_n2 (by omega), f55 row53 ff]; exact h5
    · simp only [if_neg g3] at hq0 hq1
      simp (disch := omega) only [s18_0, s18_1, s18_3, s18_6, s18_7, s18_8, s18_9, s18_12, s18_13, s18_16, s18_17, s18_18, s18_19, s18_22, s18_23, s18_24, s18_27, s18_28, s18_31, s18_32, s18_33, s18_34, s18_37, s18_38, s18_39, s18_41, s18_44, s18_45, s18_46, s18_49, s18_50, s18_51, s18_53, s18_56, s18_57, s18_58, s18_61, s18_62, s18_63, s18_65, s18_68, s18_69, s18_70, s18_73, s18_74, s18_77, s18_78, s18_81, s18_82, s18_83, s18_86, s18_89, s18_90, s18_93, s18_96, s18_97, s18_100, s18_101, s18_102, s18_103, s18_106, s18_107, s18_108, s18_109, s18_112, s18_115, s18_116, List.cons_append, List.nil_append, if_true, if_false, true_and, and_true, and_self, eq_self, true_or, or_true, false_or, or_false, tIn, tLe, fLe, tLt, fLt, tEq, fEq, isL, h6', e19, s19_0, s19_1, s19_4, s19_7, s19_8, s19_9, s19_10, s19_11, s19_14, s19_15, s19_16, s19_19, s19_20, s19_21, s19_24, s19_25, s19_26, s19_29, s19_30, c116, g3]
      exact hq1 σ (by simp) h1
  simp only [if_neg g2] at hq0 hq1 h2
  by_cases g4 : nx = 2
  · subst g4
    simp only [if_true] at hq0 hq1
    have h6' : σ 55 3 = 2 := h6
    rw [List.append_nil] at h2
    by_cases g3 : c = 46
    · simp only [if_pos g3] at hq0 hq1
      simp (disch := omega) only [s18_0, s18_1, s18_3, s18_6, s18_7, s18_8, s18_9, s18_12, s18_13, s18_16, s18_17, s18_18, s18_19, s18_22, s18_23, s18_24, s18_27, s18_28, s18_31, s18_32, s18_33, s18_34, s18_37, s18_38, s18_39, s18_41, s18_44, s18_45, s18_46, s18_49, s18_50, s18_51, s18_53, s18_56, s18_57, s18_58, s18_61, s18_62, s18_63, s18_65, s18_68, s18_69, s18_70, s18_73, s18_74, s18_77, s18_78, s18_81, s18_82, s18_83, s18_86, s18_89, s18_90, s18_93, s18_96, s18_97, s18_100, s18_101, s18_102, s18_103, s18_106, s18_107, s18_108, s18_109, s18_112, s18_115, s18_116, List.cons_append, List.nil_append, if_true, if_false, true_and, and_true, and_self, eq_self, true_or, or_true, false_or, or_false, tIn, tLe, fLe, tLt, fLt, tEq, fEq, isL, h6', e20, s20_0, s20_1, s20_3, s20_6, s20_7, s20_8, s20_9, s20_10, s20_13, s20_14, s20_17, s20_18, s20_19, s20_22, s20_23, row53.1, c28 row53 h1.1, h2]
      refine rd26 h (by simp; omega) _ (fun σ1 i1 i2 i3 i4 i5 => ?_)
      simp (disch := omega) only [s18_0, s18_1, s18_3, s18_6, s18_7, s18_8, s18_9, s18_12, s18_13, s18_16, s18_17, s18_18, s18_19, s18_22, s18_23, s18_24, s18_27, s18_28, s18_31, s18_32, s18_33, s18_34, s18_37, s18_38, s18_39, s18_41, s18_44, s18_45, s18_46, s18_49, s18_50, s18_51, s18_53, s18_56, s18_57, s18_58, s18_61, s18_62, s18_63, s18_65, s18_68, s18_69, s18_70, s18_73, s18_74, s18_77, s18_78, s18_81, s18_82, s18_83, s18_86, s18_89, s18_90, s18_93, s18_96, s18_97, s18_100, s18_101, s18_102, s18_103, s18_106, s18_107, s18_108, s18_109, s18_112, s18_115, s18_116, List.cons_append, List.nil_append, if_true, if_false, true_and, and_true, and_self, eq_self, true_or, or_true, false_or, or_false, tIn, tLe, fLe, tLt, fLt, tEq, fEq, isL, s20_0, s20_1, s20_3, s20_6, s20_7, s20_8, s20_9, s20_10, s20_13, s20_14, s20_17, s20_18, s20_19, s20_22, s20_23]
      refine hq0 _ trivial ⟨RDX_u i1 (by omega), ?_, ?_, ?_, ?_, aup_s⟩
      · rw [rv55 row53, i2, h2]; simp [conc]
      · rw [rv55 row56, i3]; rfl
      · rw [rv55 row58, i4]; rfl
      · rw [aup_n2 (by omega), i5, h5]; simp [nbr]
    · simp only [if_neg g3] at hq0 hq1
      simp (disch := omega) only [s18_0, s18_1, s18_3, s18_6, s18_7, s18_8, s18_9, s18_12, s18_13, s18_16, s18_17, s18_18, s18_19, s18_22, s18_23, s18_24, s18_27, s18_28, s18_31, s18_32, s18_33, s18_34, s18_37, s18_38, s18_39, s18_41, s18_44, s18_45, s18_46, s18_49, s18_50, s18_51, s18_53, s18_56, s18_57, s18_58, s18_61, s18_62, s18_63, s18_65, s18_68, s18_69, s18_70, s18_73, s18_74, s18_77, s18_78, s18_81, s18_82, s18_83, s18_86, s18_89, s18_90, s18_93, s18_96, s18_97, s18_100, s18_101, s18_102, s18_103, s18_106, s18_107, s18_108, s18_109, s18_112, s18_115, s18_116, List.cons_append, List.nil_append, if_true, if_false, true_and, and_true, and_self, eq_self, true_or, or_true, false_or, or_false, tIn, tLe, fLe, tLt, fLt, tEq, fEq, isL, h6', e20, s20_0, s20_1, s20_3, s20_6, s20_7, s20_8, s20_9, s20_10, s20_13, s20_14, s20_17, s20_18, s20_19, s20_22, s20_23]
      exact hq1 σ (by simp) h1
  simp only [if_neg g4] at hq0 hq1
  have nx0 : nx = 0 := by omega
  subst nx0
  have h6' : σ 55 3 = 0 := h6
  simp only [show ¬ (0 : Nat) = 1 by omega, if_false, Nat.add_zero] at r5
  by_cases g5 : c = 41
  · simp only [if_pos g5] at hq0 hq1
    simp (disch := omega) only [s18_0, s18_1, s18_3, s18_6, s18_7, s18_8, s18_9, s18_12, s18_13, s18_16, s18_17, s18_18, s18_19, s18_22, s18_23, s18_24, s18_27, s18_28, s18_31, s18_32, s18_33, s18_34, s18_37, s18_38, s18_39, s18_41, s18_44, s18_45, s18_46, s18_49, s18_50, s18_51, s18_53, s18_56, s18_57, s18_58, s18_61, s18_62, s18_63, s18_65, s18_68, s18_69, s18_70, s18_73, s18_74, s18_77, s18_78, s18_81, s18_82, s18_83, s18_86, s18_89, s18_90, s18_93, s18_96, s18_97, s18_100, s18_101, s18_102, s18_103, s18_106, s18_107, s18_108, s18_109, s18_112, s18_115, s18_116, List.cons_append, List.nil_append, if_true, if_false, true_and, and_true, and_self, eq_self, true_or, or_true, false_or, or_false, tIn, tLe, fLe, tLt, fLt, tEq, fEq, isL, h6']
    refine rd22 h r1 (by omega) _ (fun g => ?_) (fun σ1 lv g6 g7 i1 => ?_)
    · simp (disch := omega) only [s18_0, s18_1, s18_3, s18_6, s18_7, s18_8, s18_9, s18_12, s18_13, s18_16, s18_17, s18_18, s18_19, s18_22, s18_23, s18_24, s18_27, s18_28, s18_31, s18_32, s18_33, s18_34, s18_37, s18_38, s18_39, s18_41, s18_44, s18_45, s18_46, s18_49, s18_50, s18_51, s18_53, s18_56, s18_57, s18_58, s18_61, s18_62, s18_63, s18_65, s18_68, s18_69, s18_70, s18_73, s18_74, s18_77, s18_78, s18_81, s18_82, s18_83, s18_86, s18_89, s18_90, s18_93, s18_96, s18_97, s18_100, s18_101, s18_102, s18_103, s18_106, s18_107, s18_108, s18_109, s18_112, s18_115, s18_116, List.cons_append, List.nil_append, if_true, if_false, true_and, and_true, and_self, eq_self, true_or, or_true, false_or, or_false, tIn, tLe, fLe, tLt, fLt, tEq, fEq, isL]
      by_cases g6 : s = []
      · simp only [if_pos g6] at hq1
        exact hq1 σ (by simp) h1
      · simp only [if_neg g6] at hq1
        have gc : clo s b l = none := by rcases g with g | g; exact absurd g g6; exact g
        rw [gc] at hq1
        exact hq1 σ (by simp) h1
    · simp (disch := omega) only [s18_0, s18_1, s18_3, s18_6, s18_7, s18_8, s18_9, s18_12, s18_13, s18_16, s18_17, s18_18, s18_19, s18_22, s18_23, s18_24, s18_27, s18_28, s18_31, s18_32, s18_33, s18_34, s18_37, s18_38, s18_39, s18_41, s18_44, s18_45, s18_46, s18_49, s18_50, s18_51, s18_53, s18_56, s18_57, s18_58, s18_61, s18_62, s18_63, s18_65, s18_68, s18_69, s18_70, s18_73, s18_74, s18_77, s18_78, s18_81, s18_82, s18_83, s18_86, s18_89, s18_90, s18_93, s18_96, s18_97, s18_100, s18_101, s18_102, s18_103, s18_106, s18_107, s18_108, s18_109, s18_112, s18_115, s18_116, List.cons_append, List.nil_append, if_true, if_false, true_and, and_true, and_self, eq_self, true_or, or_true, false_or, or_false, tIn, tLe, fLe, tLt, fLt, tEq, fEq, isL]
      simp only [if_neg g6, g7] at hq0
      exact hq0 σ1 trivial i1
  simp only [if_neg g5] at hq0 hq1
  by_cases g7 : c = 40
  · simp only [if_pos g7] at hq0 hq1
    simp (disch := omega) only [s18_0, s18_1, s18_3, s18_6, s18_7, s18_8, s18_9, s18_12, s18_13, s18_16, s18_17, s18_18, s18_19, s18_22, s18_23, s18_24, s18_27, s18_28, s18_31, s18_32, s18_33, s18_34, s18_37, s18_38, s18_39, s18_41, s18_44, s18_45, s18_46, s18_49, s18_50, s18_51, s18_53, s18_56, s18_57, s18_58, s18_61, s18_62, s18_63, s18_65, s18_68, s18_69, s18_70, s18_73, s18_74, s18_77, s18_78, s18_81, s18_82, s18_83, s18_86, s18_89, s18_90, s18_93, s18_96, s18_97, s18_100, s18_101, s18_102, s18_103, s18_106, s18_107, s18_108, s18_109, s18_112, s18_115, s18_116, List.cons_append, List.nil_append, if_true, if_false, true_and, and_true, and_self, eq_self, true_or, or_true, false_or, or_false, tIn, tLe, fLe, tLt, fLt, tEq, fEq, isL, h6', e21, s21_0, s21_1, s21_2, s21_3, s21_6, s21_9, s21_10, s21_11, s21_12, s21_13, s21_16, s21_17, s21_20, s21_21, s21_22, s21_25, s21_26, s21_27, s21_30, s21_31]
    refine rd24 (m := 0) h r5 (by omega) _ (fun g => ?_) (fun g σ1 i1 => ?_)
    · simp only [if_pos (show 120 < (conc ((b, s) :: l)).length + mor s by omega)] at hq1
      simp (disch := omega) only [s18_0, s18_1, s18_3, s18_6, s18_7, s18_8, s18_9, s18_12, s18_13, s18_16, s18_17, s18_18, s18_19, s18_22, s18_23, s18_24, s18_27, s18_28, s18_31, s18_32, s18_33, s18_34, s18_37, s18_38, s18_39, s18_41, s18_44, s18_45, s18_46, s18_49, s18_50, s18_51, s18_53, s18_56, s18_57, s18_58, s18_61, s18_62, s18_63, s18_65, s18_68, s18_69, s18_70, s18_73, s18_74, s18_77, s18_78, s18_81, s18_82, s18_83, s18_86, s18_89, s18_90, s18_93, s18_96, s18_97, s18_100, s18_101, s18_102, s18_103, s18_106, s18_107, s18_108, s18_109, s18_112, s18_115, s18_116, List.cons_append, List.nil_append, if_true, if_false, true_and, and_true, and_self, eq_self, true_or, or_true, false_or, or_false, tIn, tLe, fLe, tLt, fLt, tEq, fEq, isL, s21_0, s21_1, s21_2, s21_3, s21_6, s21_9, s21_10, s21_11, s21_12, s21_13, s21_16, s21_17, s21_20, s21_21, s21_22, s21_25, s21_26, s21_27, s21_30, s21_31]
      exact hq1 σ (by simp) h1
    · simp only [if_neg (show ¬ 120 < (conc ((b, s) :: l)).length + mor s by omega)] at hq0
      have v3 : rv σ1 53 = conc ((b, joi s) :: l) := by rw [i1.2.1]; simp
      simp (disch := omega) only [s18_0, s18_1, s18_3, s18_6, s18_7, s18_8, s18_9, s18_12, s18_13, s18_16, s18_17, s18_18, s18_19, s18_22, s18_23, s18_24, s18_27, s18_28, s18_31, s18_32, s18_33, s18_34, s18_37, s18_38, s18_39, s18_41, s18_44, s18_45, s18_46, s18_49, s18_50, s18_51, s18_53, s18_56, s18_57, s18_58, s18_61, s18_62, s18_63, s18_65, s18_68, s18_69, s18_70, s18_73, s18_74, s18_77, s18_78, s18_81, s18_82, s18_83, s18_86, s18_89, s18_90, s18_93, s18_96, s18_97, s18_100, s18_101, s18_102, s18_103, s18_106, s18_107, s18_108, s18_109, s18_112, s18_115, s18_116, List.cons_append, List.nil_append, if_true, if_false, true_and, and_true, and_self, eq_self, true_or, or_true, false_or, or_false, tIn, tLe, fLe, tLt, fLt, tEq, fEq, isL, s21_0, s21_1, s21_2, s21_3, s21_6, s21_9, s21_10, s21_11, s21_12, s21_13, s21_16, s21_17, s21_20, s21_21, s21_22, s21_25, s21_26, s21_27, s21_30, s21_31, row53.1, c28 row53 i1.1.1, v3]
      refine rd26 i1 (by simp; omega) _ (fun σ2 a1 a2 a3 a4 a5 => ?_)
      have n5 : σ2 55 2 = (nbr ((b, joi s) :: l) : Int) := by rw [a5]; exact i1.2.2.2.2.1
      have nb : nbr ((b, joi s) :: l) ≤ 300 := by
        have nle : ∀ l : List Lv, nbr l ≤ l.length := by
          intro l; induction l with
          | nil => simp [nbr]
          | cons x l ih => simp only [nbr, List.length_cons]; split <;> omega
        have := nle ((b, joi s) :: l)
        simp at this; omega
      simp (disch := omega) only [s18_0, s18_1, s18_3, s18_6, s18_7, s18_8, s18_9, s18_12, s18_13, s18_16, s18_17, s18_18, s18_19, s18_22, s18_23, s18_24, s18_27, s18_28, s18_31, s18_32, s18_33, s18_34, s18_37, s18_38, s18_39, s18_41, s18_44, s18_45, s18_46, s18_49, s18_50, s18_51, s18_53, s18_56, s18_57, s18_58, s18_61, s18_62, s18_63, s18_65, s18_68, s18_69, s18_70, s18_73, s18_74, s18_77, s18_78, s18_81, s18_82, s18_83, s18_86, s18_89, s18_90, s18_93, s18_96, s18_97, s18_100, s18_101, s18_102, s18_103, s18_106, s18_107, s18_108, s18_109, s18_112, s18_115, s18_116, List.cons_append, List.nil_append, if_true, if_false, true_and, and_true, and_self, eq_self, true_or, or_true, false_or, or_false, tIn, tLe, fLe, tLt, fLt, tEq, fEq, isL, s21_0, s21_1, s21_2, s21_3, s21_6, s21_9, s21_10, s21_11, s21_12, s21_13, s21_16, s21_17, s21_20, s21_21, s21_22, s21_25, s21_26, s21_27, s21_30, s21_31, n5]
      refine hq0 _ trivial ⟨RDX_u a1 (by omega), ?_, ?_, ?_, ?_, ?_⟩
      · rw [rv55 row53, a2, v3]; simp [conc]
      · rw [rv55 row56, a3]; rfl
      · rw [rv55 row58, a4]; rfl
      · rw [aup_s]; simp [nbr]; omega
      · rw [aup_n2 (by omega), a5]; exact i1.2.2.2.2.2
  simp only [if_neg g7] at hq0 hq1
  by_cases g9 : c = 94
  · simp only [if_pos g9] at hq0 hq1
    have i0 : RDI σ0 (aup σ 55 3 1) pl ((b, s) :: l) 0 1 := ⟨RDX_u h1 (by omega), by rw [rv55 row53]; exact h2, by rw [rv55 row56]; exact h3, by rw [rv55 row58]; exact h4, by rw [aup_n2 (by omega)]; exact h5, aup_s⟩
    simp (disch := omega) only [s18_0, s18_1, s18_3, s18_6, s18_7, s18_8, s18_9, s18_12, s18_13, s18_16, s18_17, s18_18, s18_19, s18_22, s18_23, s18_24, s18_27, s18_28, s18_31, s18_32, s18_33, s18_34, s18_37, s18_38, s18_39, s18_41, s18_44, s18_45, s18_46, s18_49, s18_50, s18_51, s18_53, s18_56, s18_57, s18_58, s18_61, s18_62, s18_63, s18_65, s18_68, s18_69, s18_70, s18_73, s18_74, s18_77, s18_78, s18_81, s18_82, s18_83, s18_86, s18_89, s18_90, s18_93, s18_96, s18_97, s18_100, s18_101, s18_102, s18_103, s18_106, s18_107, s18_108, s18_109, s18_112, s18_115, s18_116, List.cons_append, List.nil_append, if_true, if_false, true_and, and_true, and_self, eq_self, true_or, or_true, false_or, or_false, tIn, tLe, fLe, tLt, fLt, tEq, fEq, isL, h6']
    refine rd23 i0 r5 _ (fun g => ?_) (fun g σ1 a1 a2 a3 a4 a5 a6 => ?_)
    · simp only [if_pos g] at hq1
      simp (disch := omega) only [s18_0, s18_1, s18_3, s18_6, s18_7, s18_8, s18_9, s18_12, s18_13, s18_16, s18_17, s18_18, s18_19, s18_22, s18_23, s18_24, s18_27, s18_28, s18_31, s18_32, s18_33, s18_34, s18_37, s18_38, s18_39, s18_41, s18_44, s18_45, s18_46, s18_49, s18_50, s18_51, s18_53, s18_56, s18_57, s18_58, s18_61, s18_62, s18_63, s18_65, s18_68, s18_69, s18_70, s18_73, s18_74, s18_77, s18_78, s18_81, s18_82, s18_83, s18_86, s18_89, s18_90, s18_93, s18_96, s18_97, s18_100, s18_101, s18_102, s18_103, s18_106, s18_107, s18_108, s18_109, s18_112, s18_115, s18_116, List.cons_append, List.nil_append, if_true, if_false, true_and, and_true, and_self, eq_self, true_or, or_true, false_or, or_false, tIn, tLe, fLe, tLt, fLt, tEq, fEq, isL]
      exact hq1 _ (by simp) i0.1
    · simp only [if_neg g] at hq0
      simp (disch := omega) only [s18_0, s18_1, s18_3, s18_6, s18_7, s18_8, s18_9, s18_12, s18_13, s18_16, s18_17, s18_18, s18_19, s18_22, s18_23, s18_24, s18_27, s18_28, s18_31, s18_32, s18_33, s18_34, s18_37, s18_38, s18_39, s18_41, s18_44, s18_45, s18_46, s18_49, s18_50, s18_51, s18_53, s18_56, s18_57, s18_58, s18_61, s18_62, s18_63, s18_65, s18_68, s18_69, s18_70, s18_73, s18_74, s18_77, s18_78, s18_81, s18_82, s18_83, s18_86, s18_89, s18_90, s18_93, s18_96, s18_97, s18_100, s18_101, s18_102, s18_103, s18_106, s18_107, s18_108, s18_109, s18_112, s18_115, s18_116, List.cons_append, List.nil_append, if_true, if_false, true_and, and_true, and_self, eq_self, true_or, or_true, false_or, or_false, tIn, tLe, fLe, tLt, fLt, tEq, fEq, isL]
      exact hq0 σ1 trivial ⟨a1, by rw [a2]; simp, a3, a4, a5, a6⟩
  simp only [if_neg g9] at hq0 hq1
  by_cases g10 : (97 ≤ c ∧ c ≤ 122) ∨ c = 73 ∨ c = 75 ∨ c = 83 ∨ c = 66 ∨ c = 67
  · simp only [if_pos g10] at hq0 hq1
    have fin : CA m23 [.inr (.inl 55), .inl c, .inr (.inl 53)] σ (fun v σ2 => WP m18 112 [.inr (.inl 55), .inl c, .inr (.inl 53), .inl 1] (v ++ []) σ2 Q) := by
      refine rd23 h r5 _ (fun g => ?_) (fun g σ1 a1 a2 a3 a4 a5 a6 => ?_)
      · simp only [if_pos g] at hq1
        simp (disch := omega) only [s18_0, s18_1, s18_3, s18_6, s18_7, s18_8, s18_9, s18_12, s18_13, s18_16, s18_17, s18_18, s18_19, s18_22, s18_23, s18_24, s18_27, s18_28, s18_31, s18_32, s18_33, s18_34, s18_37, s18_38, s18_39, s18_41, s18_44, s18_45, s18_46, s18_49, s18_50, s18_51, s18_53, s18_56, s18_57, s18_58, s18_61, s18_62, s18_63, s18_65, s18_68, s18_69, s18_70, s18_73, s18_74, s18_77, s18_78, s18_81, s18_82, s18_83, s18_86, s18_89, s18_90, s18_93, s18_96, s18_97, s18_100, s18_101, s18_102, s18_103, s18_106, s18_107, s18_108, s18_109, s18_112, s18_115, s18_116, List.cons_append, List.nil_append, if_true, if_false, true_and, and_true, and_self, eq_self, true_or, or_true, false_or, or_false, tIn, tLe, fLe, tLt, fLt, tEq, fEq, isL]
        exact hq1 _ (by simp) h1
      · simp only [if_neg g] at hq0
        simp (disch := omega) only [s18_0, s18_1, s18_3, s18_6, s18_7, s18_8, s18_9, s18_12, s18_13, s18_16, s18_17, s18_18, s18_19, s18_22, s18_23, s18_24, s18_27, s18_28, s18_31, s18_32, s18_33, s18_34, s18_37, s18_38, s18_39, s18_41, s18_44, s18_45, s18_46, s18_49, s18_50, s18_51, s18_53, s18_56, s18_57, s18_58, s18_61, s18_62, s18_63, s18_65, s18_68, s18_69, s18_70, s18_73, s18_74, s18_77, s18_78, s18_81, s18_82, s18_83, s18_86, s18_89, s18_90, s18_93, s18_96, s18_97, s18_100, s18_101, s18_102, s18_103, s18_106, s18_107, s18_108, s18_109, s18_112, s18_115, s18_116, List.cons_append, List.nil_append, if_true, if_false, true_and, and_true, and_self, eq_self, true_or, or_true, false_or, or_false, tIn, tLe, fLe, tLt, fLt, tEq, fEq, isL]
        exact hq0 σ1 trivial ⟨a1, by rw [a2]; simp [conc], by rw [a3]; rfl, by rw [a4]; rfl, by rw [a5]; rfl, a6⟩
    by_cases g11 : 97 ≤ c ∧ c ≤ 122
    · simp (disch := omega) only [s18_0, s18_1, s18_3, s18_6, s18_7, s18_8, s18_9, s18_12, s18_13, s18_16, s18_17, s18_18, s18_19, s18_22, s18_23, s18_24, s18_27, s18_28, s18_31, s18_32, s18_33, s18_34, s18_37, s18_38, s18_39, s18_41, s18_44, s18_45, s18_46, s18_49, s18_50, s18_51, s18_53, s18_56, s18_57, s18_58, s18_61, s18_62, s18_63, s18_65, s18_68, s18_69, s18_70, s18_73, s18_74, s18_77, s18_78, s18_81, s18_82, s18_83, s18_86, s18_89, s18_90, s18_93, s18_96, s18_97, s18_100, s18_101, s18_102, s18_103, s18_106, s18_107, s18_108, s18_109, s18_112, s18_115, s18_116, List.cons_append, List.nil_append, if_true, if_false, true_and, and_true, and_self, eq_self, true_or, or_true, false_or, or_false, tIn, tLe, fLe, tLt, fLt, tEq, fEq, isL, h6', c116, g11]
      exact fin
    · have hw : 0 < wnt c := by unfold wnt; repeat' split
                                all_goals omega
      simp (disch := omega) only [s18_0, s18_1, s18_3, s18_6, s18_7, s18_8, s18_9, s18_12, s18_13, s18_16, s18_17, s18_18, s18_19, s18_22, s18_23, s18_24, s18_27, s18_28, s18_31, s18_32, s18_33, s18_34, s18_37, s18_38, s18_39, s18_41, s18_44, s18_45, s18_46, s18_49, s18_50, s18_51, s18_53, s18_56, s18_57, s18_58, s18_61, s18_62, s18_63, s18_65, s18_68, s18_69, s18_70, s18_73, s18_74, s18_77, s18_78, s18_81, s18_82, s18_83, s18_86, s18_89, s18_90, s18_93, s18_96, s18_97, s18_100, s18_101, s18_102, s18_103, s18_106, s18_107, s18_108, s18_109, s18_112, s18_115, s18_116, List.cons_append, List.nil_append, if_true, if_false, true_and, and_true, and_self, eq_self, true_or, or_true, false_or, or_false, tIn, tLe, fLe, tLt, fLt, tEq, fEq, isL, h6', c116, g11, c119]
      exact fin
  · simp only [if_neg g10] at hq0 hq1
    have g11 : ¬ (97 ≤ c ∧ c ≤ 122) := fun z => g10 (Or.inl z)
    have hw : wnt c = 0 := by
      unfold wnt
      repeat' split
      all_goals omega
    simp (disch := omega) only [s18_0, s18_1, s18_3, s18_6, s18_7, s18_8, s18_9, s18_12, s18_13, s18_16, s18_17, s18_18, s18_19, s18_22, s18_23, s18_24, s18_27, s18_28, s18_31, s18_32, s18_33, s18_34, s18_37, s18_38, s18_39, s18_41, s18_44, s18_45, s18_46, s18_49, s18_50, s18_51, s18_53, s18_56, s18_57, s18_58, s18_61, s18_62, s18_63, s18_65, s18_68, s18_69, s18_70, s18_73, s18_74, s18_77, s18_78, s18_81, s18_82, s18_83, s18_86, s18_89, s18_90, s18_93, s18_96, s18_97, s18_100, s18_101, s18_102, s18_103, s18_106, s18_107, s18_108, s18_109, s18_112, s18_115, s18_116, List.cons_append, List.nil_append, if_true, if_false, true_and, and_true, and_self, eq_self, true_or, or_true, false_or, or_false, tIn, tLe, fLe, tLt, fLt, tEq, fEq, isL, h6', c116, g11, c119, hw]
    exact hq1 σ (by simp) h1
end RDD
