/-! work, steps: the reference -/
section WRR
variable {σ σ0 σ' : aSg} {K : List AV → aSg → Prop} {x y z i c : Int} {S : SS} {T W st F R s : List Int} {r q t j k p h N : Nat} {G : Gr} {ρ : Nat → Nat}
theorem FrV_E (h : FrE σ σ') : FrV σ σ' := ⟨⟨fun a h1 h2 => h.1 a (by omega) (by omega) h2, h.2 1 (by omega), h.2 4 (by omega), h.2 5 (by omega)⟩, fun a ha => h.1 a (by omega) (by omega) (by omega)⟩
theorem FrV_E2 (h : FrE2 σ σ') : FrV σ σ' := ⟨⟨fun a h1 h2 => h.1 a (by omega) (by omega) (by omega) (by omega) (by omega) h2, h.2 1 (by omega) (by omega), h.2 4 (by omega) (by omega), h.2 5 (by omega) (by omega)⟩, fun a ha => h.1 a (by omega) (by omega) (by omega) (by omega) (by omega) (by omega)⟩
theorem FrV_O (h : FrO σ σ') : FrV σ σ' := ⟨⟨fun a h1 h2 => h.1 a (by omega) (by omega) (by omega) h2, h.2 1 (by omega) (by omega) (by omega) (by omega), h.2 4 (by omega) (by omega) (by omega) (by omega), h.2 5 (by omega) (by omega) (by omega) (by omega)⟩, fun a ha => h.1 a (by omega) (by omega) (by omega) (by omega)⟩
theorem FrV_L (h : FrL σ σ') : FrV σ σ' := ⟨⟨fun a h1 h2 => h.1 a (by omega) (by omega) (by omega) (by omega) h2, h.2 1 (by omega) (by omega), h.2 4 (by omega) (by omega), h.2 5 (by omega) (by omega)⟩, fun a ha => h.1 a (by omega) (by omega) (by omega) (by omega) (by omega)⟩
theorem RGr_u {j : Nat} {v : Int} (h : RGr σ G N) (hj : j ≠ 23) : RGr (aup σ 130 j v) G N := RGr_k h (aup_f (by omega)) (aup_f (by omega)) (aup_f (by omega)) (aup_n2 (by omega))
theorem tmM_E (h : tmM σ T) (hf : FrE σ σ') : tmM σ' T := ⟨by rw [hf.2 7 (by omega)]; exact h.1, by rw [hf.1 134 (by omega) (by omega) (by omega)]; exact h.2⟩
theorem wr176 (hm : tmM σ T) (hT : isT T) (hkT : tks T) (hn : nbA T) (hl : T.length ≤ 120) {n : Nat} (hn2 : n ≤ 200) (Q : List AV → aSg → Prop) (hq : ∀ σ', tmM σ' (wkS n (gr0 T)).2 → σ' 130 18 = bgZ (wkS n (gr0 T)).2 → σ' 130 19 = moZ (wkS n (gr0 T)).2 → FrV σ σ' → Q [.inl ((wkS n (gr0 T)).1 : Int)] σ') : CA m176 [.inr (.inl 130), .inl (n : Int)] σ Q := by
  rw [e176]
  have bz : ∀ G : Gr, bgZ ((fG G).take 301) = if 300 < (fG G).length then 1 else 0 := by
    intro G
    unfold bgZ
    rw [List.length_take]
    by_cases g : 300 < (fG G).length
    · rw [if_pos (by omega), if_pos g]
    · rw [if_neg (by omega), if_neg g]
  have mz : ∀ G : Gr, moZ ((fG G).take 301) = if 300 < (fG G).length then 0 else if (scn (fG G) 0 0).isSome = true then 1 else 0 := by
    intro G
    unfold moZ
    rw [List.length_take]
    by_cases g : 300 < (fG G).length
    · rw [if_pos (by omega), if_pos g]
    · rw [if_neg (by omega), if_neg g, List.take_of_length_le (by omega)]
  have lp : ∀ (m k : Nat) (G : Gr) (ρ : Nat → Nat) (σ2 : aSg), k + m = n → WG G ρ → 0 < G.length → G.length ≤ 120 + 2 * k → RGr σ2 G T.length → tmM σ2 ((fG G).take 301) → σ2 130 18 = bgZ ((fG G).take 301) → σ2 130 19 = moZ ((fG G).take 301) → FrV σ σ2 → k + (wkS m G).1 = (wkS n (gr0 T)).1 → (wkS m G).2 = (wkS n (gr0 T)).2 → WP m176 21 [.inr (.inl 130), .inl (n : Int), .inl (pI T.length 0 : Int), .inl (k : Int)] [] σ2 Q := by
    intro m
    induction m with
    | zero =>
      intro k G ρ σ2 h1 h2 h3 h4 h5 h6 h7 h8 h9 h11 h12
      have : k = n := by omega
      subst this
      simp only [wkS, Nat.add_zero] at h11 h12
      have fin := hq σ2 (by rw [← h12]; exact h6) (by rw [← h12]; exact h7) (by rw [← h12]; exact h8) h9
      rw [← h11] at fin
      rw [s176_21]
      by_cases g : moZ ((fG G).take 301) = 0
      · simp (disch := omega) only [s176_0, s176_1, s176_4, s176_5, s176_6, s176_7, s176_8, s176_9, s176_12, s176_13, s176_14, s176_15, s176_18, s176_22, s176_25, s176_28, s176_29, s176_30, s176_33, s176_34, s176_37, s176_40, s176_41, s176_42, s176_45, s176_46, s176_49, s176_50, s176_51, s176_54, s176_55, s176_56, s176_59, s176_62, s176_63, s176_64, s176_67, s176_70, s176_71, s176_74, s176_75, s176_78, s176_81, s176_82, List.cons_append, List.nil_append, if_true, if_false, true_and, and_true, and_self, eq_self, true_or, or_true, false_or, or_false, tIn, tLe, fLe, tLt, fLt, tEq, fEq, isL, h8, g]
        exact fin
      · simp (disch := omega) only [s176_0, s176_1, s176_4, s176_5, s176_6, s176_7, s176_8, s176_9, s176_12, s176_13, s176_14, s176_15, s176_18, s176_22, s176_25, s176_28, s176_29, s176_30, s176_33, s176_34, s176_37, s176_40, s176_41, s176_42, s176_45, s176_46, s176_49, s176_50, s176_51, s176_54, s176_55, s176_56, s176_59, s176_62, s176_63, s176_64, s176_67, s176_70, s176_71, s176_74, s176_75, s176_78, s176_81, s176_82, List.cons_append, List.nil_append, if_true, if_false, true_and, and_true, and_self, eq_self, true_or, or_true, false_or, or_false, tIn, tLe, fLe, tLt, fLt, tEq, fEq, isL, h8, g]
        exact fin
    | succ m ih =>
      intro k G ρ σ2 h1 h2 h3 h4 h5 h6 h7 h8 h9 h11 h12
      simp only [wkS] at h11 h12
      rw [s176_21]
      by_cases g1 : 300 < (fG G).length
      · rw [if_pos g1] at h11 h12
        simp only [Nat.add_zero] at h11 h12
        have fin := hq σ2 (by rw [← h12]; exact h6) (by rw [← h12]; exact h7) (by rw [← h12]; exact h8) h9
        rw [← h11] at fin
        have e0 : σ2 130 19 = 0 := by rw [h8, mz, if_pos g1]
        simp (disch := omega) only [s176_0, s176_1, s176_4, s176_5, s176_6, s176_7, s176_8, s176_9, s176_12, s176_13, s176_14, s176_15, s176_18, s176_22, s176_25, s176_28, s176_29, s176_30, s176_33, s176_34, s176_37, s176_40, s176_41, s176_42, s176_45, s176_46, s176_49, s176_50, s176_51, s176_54, s176_55, s176_56, s176_59, s176_62, s176_63, s176_64, s176_67, s176_70, s176_71, s176_74, s176_75, s176_78, s176_81, s176_82, List.cons_append, List.nil_append, if_true, if_false, true_and, and_true, and_self, eq_self, true_or, or_true, false_or, or_false, tIn, tLe, fLe, tLt, fLt, tEq, fEq, isL, e0]
        exact fin
      · rw [if_neg g1] at h11 h12
        have e18 : σ2 130 18 = 0 := by rw [h7, bz, if_neg g1]
        cases hs : scn (fG G) 0 0 with
        | none =>
          rw [hs] at h11 h12
          simp only [Nat.add_zero] at h11 h12
          have e0 : σ2 130 19 = 0 := by rw [h8, mz, if_neg g1, hs]; rfl
          have fin := hq σ2 (by rw [← h12]; exact h6) (by rw [← h12]; exact h7) (by rw [← h12]; exact h8) h9
          rw [← h11] at fin
          simp (disch := omega) only [s176_0, s176_1, s176_4, s176_5, s176_6, s176_7, s176_8, s176_9, s176_12, s176_13, s176_14, s176_15, s176_18, s176_22, s176_25, s176_28, s176_29, s176_30, s176_33, s176_34, s176_37, s176_40, s176_41, s176_42, s176_45, s176_46, s176_49, s176_50, s176_51, s176_54, s176_55, s176_56, s176_59, s176_62, s176_63, s176_64, s176_67, s176_70, s176_71, s176_74, s176_75, s176_78, s176_81, s176_82, List.cons_append, List.nil_append, if_true, if_false, true_and, and_true, and_self, eq_self, true_or, or_true, false_or, or_false, tIn, tLe, fLe, tLt, fLt, tEq, fEq, isL, e0]
          exact fin
        | some hh =>
          rw [hs] at h11 h12
          simp only at h11 h12
          have e0 : σ2 130 19 = 1 := by rw [h8, mz, if_neg g1, hs]; rfl
          obtain ⟨⟨ρ', q1⟩, q2, q3, q4⟩ := stG_ok h2 h3 hs
          simp (disch := omega) only [s176_0, s176_1, s176_4, s176_5, s176_6, s176_7, s176_8, s176_9, s176_12, s176_13, s176_14, s176_15, s176_18, s176_22, s176_25, s176_28, s176_29, s176_30, s176_33, s176_34, s176_37, s176_40, s176_41, s176_42, s176_45, s176_46, s176_49, s176_50, s176_51, s176_54, s176_55, s176_56, s176_59, s176_62, s176_63, s176_64, s176_67, s176_70, s176_71, s176_74, s176_75, s176_78, s176_81, s176_82, List.cons_append, List.nil_append, if_true, if_false, true_and, and_true, and_self, eq_self, true_or, or_true, false_or, or_false, tIn, tLe, fLe, tLt, fLt, tEq, fEq, isL, e0, e18]
          refine wr173 h5 h2 h3 (by omega) (by omega) (by rw [hs]; rfl) _ (fun σ3 h' hs' R3 f3 => ?_)
          rw [hs] at hs'
          cases hs'
          have V3 := FrV_tr h9 (FrV_E2 f3)
          simp (disch := omega) only [s176_0, s176_1, s176_4, s176_5, s176_6, s176_7, s176_8, s176_9, s176_12, s176_13, s176_14, s176_15, s176_18, s176_22, s176_25, s176_28, s176_29, s176_30, s176_33, s176_34, s176_37, s176_40, s176_41, s176_42, s176_45, s176_46, s176_49, s176_50, s176_51, s176_54, s176_55, s176_56, s176_59, s176_62, s176_63, s176_64, s176_67, s176_70, s176_71, s176_74, s176_75, s176_78, s176_81, s176_82, List.cons_append, List.nil_append, if_true, if_false, true_and, and_true, and_self, eq_self, true_or, or_true, false_or, or_false, tIn, tLe, fLe, tLt, fLt, tEq, fEq, isL]
          refine wr172 R3 q1 (by omega) _ (fun σ4 t4 b4 f4 => ?_)
          have R4 := RGr_O R3 f4
          have V4 := FrV_tr V3 (FrV_O f4)
          by_cases g2 : 300 < (fG (stG G (idG G) hh)).length
          · have e8 : σ4 130 18 = 1 := by rw [b4, bz, if_pos g2]
            have m8 : moZ ((fG (stG G (idG G) hh)).take 301) = 0 := by rw [mz, if_pos g2]
            simp (disch := omega) only [s176_0, s176_1, s176_4, s176_5, s176_6, s176_7, s176_8, s176_9, s176_12, s176_13, s176_14, s176_15, s176_18, s176_22, s176_25, s176_28, s176_29, s176_30, s176_33, s176_34, s176_37, s176_40, s176_41, s176_42, s176_45, s176_46, s176_49, s176_50, s176_51, s176_54, s176_55, s176_56, s176_59, s176_62, s176_63, s176_64, s176_67, s176_70, s176_71, s176_74, s176_75, s176_78, s176_81, s176_82, List.cons_append, List.nil_append, if_true, if_false, true_and, and_true, and_self, eq_self, true_or, or_true, false_or, or_false, tIn, tLe, fLe, tLt, fLt, tEq, fEq, isL, e8]
            exact ih (k + 1) _ ρ' _ (by omega) q1 (by omega) (by omega) (RGr_u R4 (by omega)) (tmM_u t4 (by omega)) (by rw [aup_n2 (by omega)]; exact b4) (by rw [aup_s, m8]) (FrV_tr V4 (FrV_u (by omega))) (by omega) h12
          · have e8 : σ4 130 18 = 0 := by rw [b4, bz, if_neg g2]
            simp (disch := omega) only [s176_0, s176_1, s176_4, s176_5, s176_6, s176_7, s176_8, s176_9, s176_12, s176_13, s176_14, s176_15, s176_18, s176_22, s176_25, s176_28, s176_29, s176_30, s176_33, s176_34, s176_37, s176_40, s176_41, s176_42, s176_45, s176_46, s176_49, s176_50, s176_51, s176_54, s176_55, s176_56, s176_59, s176_62, s176_63, s176_64, s176_67, s176_70, s176_71, s176_74, s176_75, s176_78, s176_81, s176_82, List.cons_append, List.nil_append, if_true, if_false, true_and, and_true, and_self, eq_self, true_or, or_true, false_or, or_false, tIn, tLe, fLe, tLt, fLt, tEq, fEq, isL, e8]
            refine wr175 R4 q1 (by omega) (by omega) _ (fun σ5 f5 => ?_)
            have R5 := RGr_E R4 f5
            have t5 := tmM_E t4 f5
            have V5 := FrV_tr V4 (FrV_E f5)
            have b5 : σ5 130 18 = bgZ ((fG (stG G (idG G) hh)).take 301) := by rw [f5.2 18 (by omega)]; exact b4
            by_cases g3 : (scn (fG (stG G (idG G) hh)) 0 0).isSome = true
            · rw [if_pos g3]
              have m8 : moZ ((fG (stG G (idG G) hh)).take 301) = 1 := by rw [mz, if_neg g2, if_pos g3]
              simp (disch := omega) only [s176_0, s176_1, s176_4, s176_5, s176_6, s176_7, s176_8, s176_9, s176_12, s176_13, s176_14, s176_15, s176_18, s176_22, s176_25, s176_28, s176_29, s176_30, s176_33, s176_34, s176_37, s176_40, s176_41, s176_42, s176_45, s176_46, s176_49, s176_50, s176_51, s176_54, s176_55, s176_56, s176_59, s176_62, s176_63, s176_64, s176_67, s176_70, s176_71, s176_74, s176_75, s176_78, s176_81, s176_82, List.cons_append, List.nil_append, if_true, if_false, true_and, and_true, and_self, eq_self, true_or, or_true, false_or, or_false, tIn, tLe, fLe, tLt, fLt, tEq, fEq, isL]
              exact ih (k + 1) _ ρ' _ (by omega) q1 (by omega) (by omega) (RGr_u R5 (by omega)) (tmM_u t5 (by omega)) (by rw [aup_n2 (by omega)]; exact b5) (by rw [aup_s, m8]) (FrV_tr V5 (FrV_u (by omega))) (by omega) h12
            · rw [if_neg g3]
              have m8 : moZ ((fG (stG G (idG G) hh)).take 301) = 0 := by rw [mz, if_neg g2, if_neg g3]
              simp (disch := omega) only [s176_0, s176_1, s176_4, s176_5, s176_6, s176_7, s176_8, s176_9, s176_12, s176_13, s176_14, s176_15, s176_18, s176_22, s176_25, s176_28, s176_29, s176_30, s176_33, s176_34, s176_37, s176_40, s176_41, s176_42, s176_45, s176_46, s176_49, s176_50, s176_51, s176_54, s176_55, s176_56, s176_59, s176_62, s176_63, s176_64, s176_67, s176_70, s176_71, s176_74, s176_75, s176_78, s176_81, s176_82, List.cons_append, List.nil_append, if_true, if_false, true_and, and_true, and_self, eq_self, true_or, or_true, false_or, or_false, tIn, tLe, fLe, tLt, fLt, tEq, fEq, isL]
              exact ih (k + 1) _ ρ' _ (by omega) q1 (by omega) (by omega) (RGr_u R5 (by omega)) (tmM_u t5 (by omega)) (by rw [aup_n2 (by omega)]; exact b5) (by rw [aup_s, m8]) (FrV_tr V5 (FrV_u (by omega))) (by omega) h12
  obtain ⟨i1, i2⟩ := gr0_id hT hkT hn
  obtain ⟨W0, N0⟩ := gr0_W hT hkT hn
  have p0 : 0 < (gr0 T).length := by rw [gr0_len]; exact isT_pos hT
  simp (disch := omega) only [s176_0, s176_1, s176_4, s176_5, s176_6, s176_7, s176_8, s176_9, s176_12, s176_13, s176_14, s176_15, s176_18, s176_22, s176_25, s176_28, s176_29, s176_30, s176_33, s176_34, s176_37, s176_40, s176_41, s176_42, s176_45, s176_46, s176_49, s176_50, s176_51, s176_54, s176_55, s176_56, s176_59, s176_62, s176_63, s176_64, s176_67, s176_70, s176_71, s176_74, s176_75, s176_78, s176_81, s176_82, List.cons_append, List.nil_append, if_true, if_false, true_and, and_true, and_self, eq_self, true_or, or_true, false_or, or_false, tIn, tLe, fLe, tLt, fLt, tEq, fEq, isL]
  refine wr171 hm hT hkT hn hl _ (fun σ1 R1 t1 f1 => ?_)
  simp (disch := omega) only [s176_0, s176_1, s176_4, s176_5, s176_6, s176_7, s176_8, s176_9, s176_12, s176_13, s176_14, s176_15, s176_18, s176_22, s176_25, s176_28, s176_29, s176_30, s176_33, s176_34, s176_37, s176_40, s176_41, s176_42, s176_45, s176_46, s176_49, s176_50, s176_51, s176_54, s176_55, s176_56, s176_59, s176_62, s176_63, s176_64, s176_67, s176_70, s176_71, s176_74, s176_75, s176_78, s176_81, s176_82, List.cons_append, List.nil_append, if_true, if_false, true_and, and_true, and_self, eq_self, true_or, or_true, false_or, or_false, tIn, tLe, fLe, tLt, fLt, tEq, fEq, isL]
  refine wr175 (RGr_u R1 (by omega)) W0 p0 (by rw [i2]; omega) _ (fun σ5 f5 => ?_)
  have R5 := RGr_E (RGr_u (v := 0) (j := 18) R1 (by omega)) f5
  have t5 := tmM_E (tmM_u (v := 0) (j := 18) t1 (by omega)) f5
  have V5 := FrV_tr (FrV_L f1) (FrV_tr (FrV_u (v := 0) (j := 18) (by omega)) (FrV_E f5))
  have z1 : (fG (gr0 T)).take 301 = T := by rw [i2, List.take_of_length_le (by omega)]
  have g2 : ¬ 300 < (fG (gr0 T)).length := by rw [i2]; omega
  have b5 : σ5 130 18 = bgZ ((fG (gr0 T)).take 301) := by rw [f5.2 18 (by omega), aup_s, bz, if_neg g2]
  by_cases g3 : (scn (fG (gr0 T)) 0 0).isSome = true
  · rw [if_pos g3]
    have m8 : moZ ((fG (gr0 T)).take 301) = 1 := by rw [mz, if_neg g2, if_pos g3]
    simp (disch := omega) only [s176_0, s176_1, s176_4, s176_5, s176_6, s176_7, s176_8, s176_9, s176_12, s176_13, s176_14, s176_15, s176_18, s176_22, s176_25, s176_28, s176_29, s176_30, s176_33, s176_34, s176_37, s176_40, s176_41, s176_42, s176_45, s176_46, s176_49, s176_50, s176_51, s176_54, s176_55, s176_56, s176_59, s176_62, s176_63, s176_64, s176_67, s176_70, s176_71, s176_74, s176_75, s176_78, s176_81, s176_82, List.cons_append, List.nil_append, if_true, if_false, true_and, and_true, and_self, eq_self, true_or, or_true, false_or, or_false, tIn, tLe, fLe, tLt, fLt, tEq, fEq, isL]
    exact lp n 0 (gr0 T) (rk0 T) _ (by omega) W0 p0 (by rw [gr0_len]; omega) (RGr_u R5 (by omega)) (by rw [z1]; exact tmM_u t5 (by omega)) (by rw [aup_n2 (by omega)]; exact b5) (by rw [aup_s, m8]) (FrV_tr V5 (FrV_u (by omega))) (by omega) rfl
  · rw [if_neg g3]
    have m8 : moZ ((fG (gr0 T)).take 301) = 0 := by rw [mz, if_neg g2, if_neg g3]
    simp (disch := omega) only [s176_0, s176_1, s176_4, s176_5, s176_6, s176_7, s176_8, s176_9, s176_12, s176_13, s176_14, s176_15, s176_18, s176_22, s176_25, s176_28, s176_29, s176_30, s176_33, s176_34, s176_37, s176_40, s176_41, s176_42, s176_45, s176_46, s176_49, s176_50, s176_51, s176_54, s176_55, s176_56, s176_59, s176_62, s176_63, s176_64, s176_67, s176_70, s176_71, s176_74, s176_75, s176_78, s176_81, s176_82, List.cons_append, List.nil_append, if_true, if_false, true_and, and_true, and_self, eq_self, true_or, or_true, false_or, or_false, tIn, tLe, fLe, tLt, fLt, tEq, fEq, isL]
    exact lp n 0 (gr0 T) (rk0 T) _ (by omega) W0 p0 (by rw [gr0_len]; omega) (RGr_u R5 (by omega)) (by rw [z1]; exact tmM_u t5 (by omega)) (by rw [aup_n2 (by omega)]; exact b5) (by rw [aup_s, m8]) (FrV_tr V5 (FrV_u (by omega))) (by omega) rfl
/-- works: what it leaves; the term, where it isn't too big -/
theorem wr177 {how : Int} (hh : how = 0 ∨ how = 1) (hm : tmM σ T) (hT : isT T) (hkT : tks T) (hn : nbA T) (hl : T.length ≤ 120) {n : Nat} (hn2 : n ≤ 200) (Q : List AV → aSg → Prop) (hq : ∀ σ', ((wkA how n T).2.length ≤ 300 → tmM σ' (wkA how n T).2) → σ' 130 18 = bgZ (wkA how n T).2 → σ' 130 19 = moZ (wkA how n T).2 → FrV σ σ' → Q [.inl ((wkA how n T).1 : Int)] σ') : CA m177 [.inr (.inl 130), .inl how, .inl (n : Int)] σ Q := by
  rw [e177]
  rcases hh with rfl | rfl
  · have e : wkA 0 n T = ((wkP n T).1, (wkP n T).2.take 301) := by unfold wkA; rw [if_pos rfl]
    rw [e] at hq
    simp (disch := omega) only [s177_0, s177_1, s177_4, s177_5, s177_6, s177_9, s177_12, s177_13, s177_14, s177_17, List.cons_append, List.nil_append, if_true, if_false, true_and, and_true, and_self, eq_self, true_or, or_true, false_or, or_false, tIn, tLe, fLe, tLt, fLt, tEq, fEq, isL]
    refine wr168 hm hT hkT hn hl hn2 _ (fun σ1 t1 b1 m1 l1 V1 => ?_)
    simp (disch := omega) only [s177_0, s177_1, s177_4, s177_5, s177_6, s177_9, s177_12, s177_13, s177_14, s177_17, List.cons_append, List.nil_append, if_true, if_false, true_and, and_true, and_self, eq_self, true_or, or_true, false_or, or_false, tIn, tLe, fLe, tLt, fLt, tEq, fEq, isL]
    have hb : bgZ ((wkP n T).2.take 301) = bgZ (wkP n T).2 := by
      unfold bgZ
      rw [List.length_take]
      by_cases g : 300 < (wkP n T).2.length
      · rw [if_pos (by omega), if_pos g]
      · rw [if_neg (by omega), if_neg g]
    have hmo : moZ ((wkP n T).2.take 301) = moZ (wkP n T).2 := by
      unfold moZ
      rw [List.length_take]
      by_cases g : 300 < (wkP n T).2.length
      · rw [if_pos (by omega), if_pos g]
      · rw [if_neg (by omega), if_neg g, List.take_of_length_le (by omega)]
    refine hq σ1 (fun h => ?_) (by rw [hb]; exact b1) (by rw [hmo]; exact m1) V1
    simp only [List.length_take] at h
    simp only
    rw [List.take_of_length_le (by omega)]
    exact t1
  · have e : wkA 1 n T = wkS n (gr0 T) := by unfold wkA; rw [if_neg (by omega)]
    rw [e] at hq
    simp (disch := omega) only [s177_0, s177_1, s177_4, s177_5, s177_6, s177_9, s177_12, s177_13, s177_14, s177_17, List.cons_append, List.nil_append, if_true, if_false, true_and, and_true, and_self, eq_self, true_or, or_true, false_or, or_false, tIn, tLe, fLe, tLt, fLt, tEq, fEq, isL]
    refine wr176 hm hT hkT hn hl hn2 _ (fun σ1 t1 b1 m1 V1 => ?_)
    simp (disch := omega) only [s177_0, s177_1, s177_4, s177_5, s177_6, s177_9, s177_12, s177_13, s177_14, s177_17, List.cons_append, List.nil_append, if_true, if_false, true_and, and_true, and_self, eq_self, true_or, or_true, false_or, or_false, tIn, tLe, fLe, tLt, fLt, tEq, fEq, isL]
    exact hq σ1 (fun _ => t1) b1 m1 V1
theorem m178_ok (hR : RepM σ S) : MM m178 [.inr (.inl 130), .inl x, .inl y, .inl z] σ (f94 S x y z).1 (f94 S x y z).2 := by
  unfold MM
  rw [e178]
  unfold f94
  by_cases hx : 0 ≤ x ∧ x < 4
  · rw [if_neg (fun q => q hx)]
    obtain ⟨p, rfl⟩ := Int.eq_ofNat_of_zero_le hx.1
    have hp : p < 4 := by omega
    have sp := hR.sh hp
    have op := hR.1.2.2.1 p hp
    have lp := sh_len op
    simp only [Int.toNat_natCast]
    by_cases hy : y = 0 ∨ y = 1
    · have hy' : 0 ≤ y ∧ y ≤ 1 := by omega
      by_cases hz : 0 ≤ z ∧ z ≤ 200
      · rw [if_neg (fun q => q ⟨hy, hz⟩)]
        by_cases np : sv S p = [] ∨ 0 < nbB (sv S p)
        · rw [if_pos np]
          simp (disch := omega) only [s178_0, s178_1, s178_4, s178_7, s178_9, s178_10, s178_11, s178_12, s178_13, s178_14, s178_17, s178_20, s178_21, s178_22, s178_23, s178_26, s178_29, s178_32, s178_34, s178_35, s178_36, s178_37, s178_40, s178_43, s178_45, s178_46, s178_47, s178_48, s178_51, s178_52, s178_53, s178_54, s178_57, s178_59, s178_60, s178_63, s178_66, s178_67, s178_68, s178_71, s178_73, s178_76, s178_78, s178_81, s178_83, List.cons_append, List.nil_append, if_true, if_false, true_and, and_true, and_self, eq_self, true_or, or_true, false_or, or_false, tIn, tLe, fLe, tLt, fLt, tEq, fEq, isL, tIL, c130, c127, hy', hz, c160 hp sp lp (sh_tks op), np]
          exact ⟨hR, fun _ _ => rfl⟩
        rw [if_neg np]
        obtain ⟨n, rfl⟩ := Int.eq_ofNat_of_zero_le hz.1
        simp only [Int.toNat_natCast]
        have ep : ¬ sv S p = [] := fun q => np (Or.inl q)
        have wf := sh_wf op ep
        have na := nbB_A _ (show nbB (sv S p) = 0 by have : ¬ 0 < nbB (sv S p) := fun q => np (Or.inr q); omega)
        obtain ⟨t1, t2⟩ := wkA_T (how := y) (n := n) wf.1 wf.2 na
        generalize hQ : (fun (v : List AV) (σ' : aSg) => v = [.inl (if 120 < (wkA y n (sv S p)).2.length then (FUL, S) else (((wkA y n (sv S p)).1 : Int), (layS S p (wkA y n (sv S p)).2).2)).1] ∧ RepM σ' (if 120 < (wkA y n (sv S p)).2.length then (FUL, S) else (((wkA y n (sv S p)).1 : Int), (layS S p (wkA y n (sv S p)).2).2)).2 ∧ FrM σ σ') = Q
        simp (disch := omega) only [s178_0, s178_1, s178_4, s178_7, s178_9, s178_10, s178_11, s178_12, s178_13, s178_14, s178_17, s178_20, s178_21, s178_22, s178_23, s178_26, s178_29, s178_32, s178_34, s178_35, s178_36, s178_37, s178_40, s178_43, s178_45, s178_46, s178_47, s178_48, s178_51, s178_52, s178_53, s178_54, s178_57, s178_59, s178_60, s178_63, s178_66, s178_67, s178_68, s178_71, s178_73, s178_76, s178_78, s178_81, s178_83, List.cons_append, List.nil_append, if_true, if_false, true_and, and_true, and_self, eq_self, true_or, or_true, false_or, or_false, tIn, tLe, fLe, tLt, fLt, tEq, fEq, isL, tIL, c130, c127, hy', hz, c160 hp sp lp (sh_tks op), np]
        refine c136 hp sp lp _ (fun σ1 u1 a1 a2 => ?_)
        have F1 : FrA 134 7 σ σ1 := ⟨a1, a2⟩
        simp (disch := omega) only [s178_0, s178_1, s178_4, s178_7, s178_9, s178_10, s178_11, s178_12, s178_13, s178_14, s178_17, s178_20, s178_21, s178_22, s178_23, s178_26, s178_29, s178_32, s178_34, s178_35, s178_36, s178_37, s178_40, s178_43, s178_45, s178_46, s178_47, s178_48, s178_51, s178_52, s178_53, s178_54, s178_57, s178_59, s178_60, s178_63, s178_66, s178_67, s178_68, s178_71, s178_73, s178_76, s178_78, s178_81, s178_83, List.cons_append, List.nil_append, if_true, if_false, true_and, and_true, and_self, eq_self, true_or, or_true, false_or, or_false, tIn, tLe, fLe, tLt, fLt, tEq, fEq, isL]
        refine wr177 hy u1 wf.1 wf.2 na lp (by omega) _ (fun σ2 t3 b2 m2 V2 => ?_)
        have R2 : RepM σ2 S := RepM_G (RepM_G hR (FrA_G F1 (by omega) (by omega))) V2.1
        have f2 : ∀ a, a < 130 → σ2 a = σ a := fun a ha => (V2.2 a ha).trans (a1 a (by omega) (by omega))
        by_cases g3 : 300 < (wkA y n (sv S p)).2.length
        · have e18 : σ2 130 18 = 1 := by rw [b2]; unfold bgZ; rw [if_pos g3]
          simp (disch := omega) only [s178_0, s178_1, s178_4, s178_7, s178_9, s178_10, s178_11, s178_12, s178_13, s178_14, s178_17, s178_20, s178_21, s178_22, s178_23, s178_26, s178_29, s178_32, s178_34, s178_35, s178_36, s178_37, s178_40, s178_43, s178_45, s178_46, s178_47, s178_48, s178_51, s178_52, s178_53, s178_54, s178_57, s178_59, s178_60, s178_63, s178_66, s178_67, s178_68, s178_71, s178_73, s178_76, s178_78, s178_81, s178_83, List.cons_append, List.nil_append, if_true, if_false, true_and, and_true, and_self, eq_self, true_or, or_true, false_or, or_false, tIn, tLe, fLe, tLt, fLt, tEq, fEq, isL, e18]
          rw [← hQ, if_pos (by omega)]
          exact ⟨rfl, R2, f2⟩
        · have e18 : σ2 130 18 = 0 := by rw [b2]; unfold bgZ; rw [if_neg g3]
          simp (disch := omega) only [s178_0, s178_1, s178_4, s178_7, s178_9, s178_10, s178_11, s178_12, s178_13, s178_14, s178_17, s178_20, s178_21, s178_22, s178_23, s178_26, s178_29, s178_32, s178_34, s178_35, s178_36, s178_37, s178_40, s178_43, s178_45, s178_46, s178_47, s178_48, s178_51, s178_52, s178_53, s178_54, s178_57, s178_59, s178_60, s178_63, s178_66, s178_67, s178_68, s178_71, s178_73, s178_76, s178_78, s178_81, s178_83, List.cons_append, List.nil_append, if_true, if_false, true_and, and_true, and_self, eq_self, true_or, or_true, false_or, or_false, tIn, tLe, fLe, tLt, fLt, tEq, fEq, isL, e18]
          refine CA_use (lay_ok R2 hp (t3 (by omega)) (fun hl => Or.inr ⟨t2 (by omega), hl⟩)) (fun v σ' h => ?_)
          obtain ⟨rfl, h2, h3⟩ := h
          have ff : FrM σ σ' := fun a ha => (h3 a ha).trans (f2 a ha)
          by_cases g : 120 < (wkA y n (sv S p)).2.length
          · have el : layS S p (wkA y n (sv S p)).2 = (-1000000004, S) := by unfold layS; rw [if_pos g]
            rw [el] at h2 ⊢
            simp (disch := omega) only [s178_0, s178_1, s178_4, s178_7, s178_9, s178_10, s178_11, s178_12, s178_13, s178_14, s178_17, s178_20, s178_21, s178_22, s178_23, s178_26, s178_29, s178_32, s178_34, s178_35, s178_36, s178_37, s178_40, s178_43, s178_45, s178_46, s178_47, s178_48, s178_51, s178_52, s178_53, s178_54, s178_57, s178_59, s178_60, s178_63, s178_66, s178_67, s178_68, s178_71, s178_73, s178_76, s178_78, s178_81, s178_83, List.cons_append, List.nil_append, if_true, if_false, true_and, and_true, and_self, eq_self, true_or, or_true, false_or, or_false, tIn, tLe, fLe, tLt, fLt, tEq, fEq, isL]
            rw [← hQ, if_pos g]
            exact ⟨rfl, h2, ff⟩
          · have el : (layS S p (wkA y n (sv S p)).2).1 = ((wkA y n (sv S p)).2.length : Int) := by unfold layS; rw [if_neg g]
            rw [el]
            simp (disch := omega) only [s178_0, s178_1, s178_4, s178_7, s178_9, s178_10, s178_11, s178_12, s178_13, s178_14, s178_17, s178_20, s178_21, s178_22, s178_23, s178_26, s178_29, s178_32, s178_34, s178_35, s178_36, s178_37, s178_40, s178_43, s178_45, s178_46, s178_47, s178_48, s178_51, s178_52, s178_53, s178_54, s178_57, s178_59, s178_60, s178_63, s178_66, s178_67, s178_68, s178_71, s178_73, s178_76, s178_78, s178_81, s178_83, List.cons_append, List.nil_append, if_true, if_false, true_and, and_true, and_self, eq_self, true_or, or_true, false_or, or_false, tIn, tLe, fLe, tLt, fLt, tEq, fEq, isL]
            rw [← hQ, if_neg g]
            exact ⟨rfl, h2, ff⟩
      · rw [if_pos (fun q => hz q.2)]
        simp (disch := omega) only [s178_0, s178_1, s178_4, s178_7, s178_9, s178_10, s178_11, s178_12, s178_13, s178_14, s178_17, s178_20, s178_21, s178_22, s178_23, s178_26, s178_29, s178_32, s178_34, s178_35, s178_36, s178_37, s178_40, s178_43, s178_45, s178_46, s178_47, s178_48, s178_51, s178_52, s178_53, s178_54, s178_57, s178_59, s178_60, s178_63, s178_66, s178_67, s178_68, s178_71, s178_73, s178_76, s178_78, s178_81, s178_83, List.cons_append, List.nil_append, if_true, if_false, true_and, and_true, and_self, eq_self, true_or, or_true, false_or, or_false, tIn, tLe, fLe, tLt, fLt, tEq, fEq, isL, tIL, c130, c127, hy', hz]
        exact ⟨hR, fun _ _ => rfl⟩
    · have hy' : ¬ (0 ≤ y ∧ y ≤ 1) := by omega
      rw [if_pos (fun q => hy q.1)]
      simp (disch := omega) only [s178_0, s178_1, s178_4, s178_7, s178_9, s178_10, s178_11, s178_12, s178_13, s178_14, s178_17, s178_20, s178_21, s178_22, s178_23, s178_26, s178_29, s178_32, s178_34, s178_35, s178_36, s178_37, s178_40, s178_43, s178_45, s178_46, s178_47, s178_48, s178_51, s178_52, s178_53, s178_54, s178_57, s178_59, s178_60, s178_63, s178_66, s178_67, s178_68, s178_71, s178_73, s178_76, s178_78, s178_81, s178_83, List.cons_append, List.nil_append, if_true, if_false, true_and, and_true, and_self, eq_self, true_or, or_true, false_or, or_false, tIn, tLe, fLe, tLt, fLt, tEq, fEq, isL, tIL, c130, c127, hy']
      exact ⟨hR, fun _ _ => rfl⟩
  · rw [if_pos hx]
    have gx : ¬ (0 ≤ x ∧ x ≤ 3) := by omega
    simp (disch := omega) only [s178_0, s178_1, s178_4, s178_7, s178_9, s178_10, s178_11, s178_12, s178_13, s178_14, s178_17, s178_20, s178_21, s178_22, s178_23, s178_26, s178_29, s178_32, s178_34, s178_35, s178_36, s178_37, s178_40, s178_43, s178_45, s178_46, s178_47, s178_48, s178_51, s178_52, s178_53, s178_54, s178_57, s178_59, s178_60, s178_63, s178_66, s178_67, s178_68, s178_71, s178_73, s178_76, s178_78, s178_81, s178_83, List.cons_append, List.nil_append, if_true, if_false, true_and, and_true, and_self, eq_self, true_or, or_true, false_or, or_false, tIn, tLe, fLe, tLt, fLt, tEq, fEq, isL, c130, gx]
    exact ⟨hR, fun _ _ => rfl⟩
theorem m179_ok (hR : RepM σ S) : MM m179 [.inr (.inl 130), .inl x, .inl y] σ (f102 S x y).1 (f102 S x y).2 := by
  unfold MM
  rw [e179]
  unfold f102
  by_cases hx : 0 ≤ x ∧ x < 4
  · rw [if_neg (fun q => q hx)]
    obtain ⟨p, rfl⟩ := Int.eq_ofNat_of_zero_le hx.1
    have hp : p < 4 := by omega
    have sp := hR.sh hp
    have op := hR.1.2.2.1 p hp
    have lp := sh_len op
    simp only [Int.toNat_natCast]
    by_cases hy : y = 0 ∨ y = 1
    · have hy' : 0 ≤ y ∧ y ≤ 1 := by omega
      rw [if_neg (fun q => q hy)]
      by_cases np : sv S p = [] ∨ 0 < nbB (sv S p)
      · rw [if_pos np]
        simp (disch := omega) only [s179_0, s179_1, s179_4, s179_7, s179_9, s179_10, s179_11, s179_12, s179_13, s179_14, s179_17, s179_20, s179_22, s179_23, s179_24, s179_25, s179_28, s179_31, s179_33, s179_34, s179_35, s179_36, s179_39, s179_40, s179_41, s179_44, s179_47, s179_48, s179_49, s179_52, s179_55, s179_57, s179_60, s179_61, s179_64, s179_67, s179_69, s179_72, s179_73, List.cons_append, List.nil_append, if_true, if_false, true_and, and_true, and_self, eq_self, true_or, or_true, false_or, or_false, tIn, tLe, fLe, tLt, fLt, tEq, fEq, isL, tIL, c130, c127, hy', c160 hp sp lp (sh_tks op), np]
        exact ⟨hR, fun _ _ => rfl⟩
      rw [if_neg np]
      have ep : ¬ sv S p = [] := fun q => np (Or.inl q)
      have wf := sh_wf op ep
      have na := nbB_A _ (show nbB (sv S p) = 0 by have : ¬ 0 < nbB (sv S p) := fun q => np (Or.inr q); omega)
      obtain ⟨t1, t2⟩ := wkA_T (how := y) (n := 200) wf.1 wf.2 na
      generalize hQ : (fun (v : List AV) (σ' : aSg) => v = [.inl (if 300 < (wkA y 200 (sv S p)).2.length then -3 else if (scn (wkA y 200 (sv S p)).2 0 0).isSome = true then -2 else ((wkA y 200 (sv S p)).1 : Int))] ∧ RepM σ' S ∧ FrM σ σ') = Q
      simp (disch := omega) only [s179_0, s179_1, s179_4, s179_7, s179_9, s179_10, s179_11, s179_12, s179_13, s179_14, s179_17, s179_20, s179_22, s179_23, s179_24, s179_25, s179_28, s179_31, s179_33, s179_34, s179_35, s179_36, s179_39, s179_40, s179_41, s179_44, s179_47, s179_48, s179_49, s179_52, s179_55, s179_57, s179_60, s179_61, s179_64, s179_67, s179_69, s179_72, s179_73, List.cons_append, List.nil_append, if_true, if_false, true_and, and_true, and_self, eq_self, true_or, or_true, false_or, or_false, tIn, tLe, fLe, tLt, fLt, tEq, fEq, isL, tIL, c130, c127, hy', c160 hp sp lp (sh_tks op), np]
      refine c136 hp sp lp _ (fun σ1 u1 a1 a2 => ?_)
      have F1 : FrA 134 7 σ σ1 := ⟨a1, a2⟩
      simp (disch := omega) only [s179_0, s179_1, s179_4, s179_7, s179_9, s179_10, s179_11, s179_12, s179_13, s179_14, s179_17, s179_20, s179_22, s179_23, s179_24, s179_25, s179_28, s179_31, s179_33, s179_34, s179_35, s179_36, s179_39, s179_40, s179_41, s179_44, s179_47, s179_48, s179_49, s179_52, s179_55, s179_57, s179_60, s179_61, s179_64, s179_67, s179_69, s179_72, s179_73, List.cons_append, List.nil_append, if_true, if_false, true_and, and_true, and_self, eq_self, true_or, or_true, false_or, or_false, tIn, tLe, fLe, tLt, fLt, tEq, fEq, isL]
      refine wr177 (n := 200) hy u1 wf.1 wf.2 na lp (by omega) _ (fun σ2 t3 b2 m2 V2 => ?_)
      have R2 : RepM σ2 S := RepM_G (RepM_G hR (FrA_G F1 (by omega) (by omega))) V2.1
      have f2 : ∀ a, a < 130 → σ2 a = σ a := fun a ha => (V2.2 a ha).trans (a1 a (by omega) (by omega))
      by_cases g3 : 300 < (wkA y 200 (sv S p)).2.length
      · have e18 : σ2 130 18 = 1 := by rw [b2]; unfold bgZ; rw [if_pos g3]
        simp (disch := omega) only [s179_0, s179_1, s179_4, s179_7, s179_9, s179_10, s179_11, s179_12, s179_13, s179_14, s179_17, s179_20, s179_22, s179_23, s179_24, s179_25, s179_28, s179_31, s179_33, s179_34, s179_35, s179_36, s179_39, s179_40, s179_41, s179_44, s179_47, s179_48, s179_49, s179_52, s179_55, s179_57, s179_60, s179_61, s179_64, s179_67, s179_69, s179_72, s179_73, List.cons_append, List.nil_append, if_true, if_false, true_and, and_true, and_self, eq_self, true_or, or_true, false_or, or_false, tIn, tLe, fLe, tLt, fLt, tEq, fEq, isL, e18]
        rw [← hQ, if_pos (by omega)]
        exact ⟨rfl, R2, f2⟩
      · have e18 : σ2 130 18 = 0 := by rw [b2]; unfold bgZ; rw [if_neg g3]
        by_cases g4 : (scn (wkA y 200 (sv S p)).2 0 0).isSome = true
        · have e19 : σ2 130 19 = 1 := by rw [m2]; unfold moZ; rw [if_neg g3, if_pos g4]
          simp (disch := omega) only [s179_0, s179_1, s179_4, s179_7, s179_9, s179_10, s179_11, s179_12, s179_13, s179_14, s179_17, s179_20, s179_22, s179_23, s179_24, s179_25, s179_28, s179_31, s179_33, s179_34, s179_35, s179_36, s179_39, s179_40, s179_41, s179_44, s179_47, s179_48, s179_49, s179_52, s179_55, s179_57, s179_60, s179_61, s179_64, s179_67, s179_69, s179_72, s179_73, List.cons_append, List.nil_append, if_true, if_false, true_and, and_true, and_self, eq_self, true_or, or_true, false_or, or_false, tIn, tLe, fLe, tLt, fLt, tEq, fEq, isL, e18, e19]
          rw [← hQ, if_neg g3, if_pos g4]
          exact ⟨rfl, R2, f2⟩
        · have e19 : σ2 130 19 = 0 := by rw [m2]; unfold moZ; rw [if_neg g3, if_neg g4]
          simp (disch := omega) only [s179_0, s179_1, s179_4, s179_7, s179_9, s179_10, s179_11, s179_12, s179_13, s179_14, s179_17, s179_20, s179_22, s179_23, s179_24, s179_25, s179_28, s179_31, s179_33, s179_34, s179_35, s179_36, s179_39, s179_40, s179_41, s179_44, s179_47, s179_48, s179_49, s179_52, s179_55, s179_57, s179_60, s179_61, s179_64, s179_67, s179_69, s179_72, s179_73, List.cons_append, List.nil_append, if_true, if_false, true_and, and_true, and_self, eq_self, true_or, or_true, false_or, or_false, tIn, tLe, fLe, tLt, fLt, tEq, fEq, isL, e18, e19]
          rw [← hQ, if_neg g3, if_neg g4]
          exact ⟨rfl, R2, f2⟩
    · have hy' : ¬ (0 ≤ y ∧ y ≤ 1) := by omega
      rw [if_pos hy]
      simp (disch := omega) only [s179_0, s179_1, s179_4, s179_7, s179_9, s179_10, s179_11, s179_12, s179_13, s179_14, s179_17, s179_20, s179_22, s179_23, s179_24, s179_25, s179_28, s179_31, s179_33, s179_34, s179_35, s179_36, s179_39, s179_40, s179_41, s179_44, s179_47, s179_48, s179_49, s179_52, s179_55, s179_57, s179_60, s179_61, s179_64, s179_67, s179_69, s179_72, s179_73, List.cons_append, List.nil_append, if_true, if_false, true_and, and_true, and_self, eq_self, true_or, or_true, false_or, or_false, tIn, tLe, fLe, tLt, fLt, tEq, fEq, isL, tIL, c130, c127, hy']
      exact ⟨hR, fun _ _ => rfl⟩
  · rw [if_pos hx]
    have gx : ¬ (0 ≤ x ∧ x ≤ 3) := by omega
    simp (disch := omega) only [s179_0, s179_1, s179_4, s179_7, s179_9, s179_10, s179_11, s179_12, s179_13, s179_14, s179_17, s179_20, s179_22, s179_23, s179_24, s179_25, s179_28, s179_31, s179_33, s179_34, s179_35, s179_36, s179_39, s179_40, s179_41, s179_44, s179_47, s179_48, s179_49, s179_52, s179_55, s179_57, s179_60, s179_61, s179_64, s179_67, s179_69, s179_72, s179_73, List.cons_append, List.nil_append, if_true, if_false, true_and, and_true, and_self, eq_self, true_or, or_true, false_or, or_false, tIn, tLe, fLe, tLt, fLt, tEq, fEq, isL, c130, gx]
    exact ⟨hR, fun _ _ => rfl⟩
end WRR
