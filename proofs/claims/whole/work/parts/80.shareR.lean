/-! shared: the reference -/
section TRW
variable {σ σ0 σ' : aSg} {K : List AV → aSg → Prop} {x y z c : Int} {T W st F I L R C s : List Int} {r q t i p h m w N : Nat} {G G' : Gr} {ρ : Nat → Nat} {v : Int × Nat × Nat} {X : Gr}
abbrev FrO (σ σ' : aSg) : Prop := (∀ a, a ≠ 134 → a ≠ 135 → a ≠ 136 → a ≠ 130 → σ' a = σ a) ∧ ∀ j, j ≠ 7 → j ≠ 9 → j ≠ 11 → j ≠ 18 → σ' 130 j = σ 130 j
theorem FrO_tr {σ1 σ2 : aSg} (h : FrO σ σ1) (h' : FrO σ1 σ2) : FrO σ σ2 := ⟨fun a h1 h2 h3 h4 => (h'.1 a h1 h2 h3 h4).trans (h.1 a h1 h2 h3 h4), fun j h1 h2 h3 h4 => (h'.2 j h1 h2 h3 h4).trans (h.2 j h1 h2 h3 h4)⟩
theorem FrO_s (h : FrA 136 11 σ σ') : FrO σ σ' := ⟨fun a _ _ h3 h4 => h.1 a h3 h4, fun j _ _ h3 _ => h.2 j h3⟩
theorem FrO_m (h : FrA 135 9 σ σ') : FrO σ σ' := ⟨fun a _ h2 _ h4 => h.1 a h2 h4, fun j _ h2 _ _ => h.2 j h2⟩
theorem RGr_O (hR : RGr σ G N) (h : FrO σ σ') : RGr σ' G N := RGr_k hR (h.1 140 (by omega) (by omega) (by omega) (by omega)) (h.1 141 (by omega) (by omega) (by omega) (by omega)) (h.1 142 (by omega) (by omega) (by omega) (by omega)) (h.2 23 (by omega) (by omega) (by omega) (by omega))
theorem wr172 (hR : RGr σ G N) (hW : WG G ρ) (h0 : 0 < G.length) (Q : List AV → aSg → Prop) (hq : ∀ σ', tmM σ' ((fG G).take 301) → σ' 130 18 = bgZ ((fG G).take 301) → FrO σ σ' → Q [] σ') : CA m172 [.inr (.inl 130), .inl (pI N 0 : Int)] σ Q := by
  rw [e172]
  have l0 := ln140
  have l1 := ln141
  have l2 := ln142
  obtain ⟨r1, r2, r3, r4⟩ := id hR
  have U0 := ufd_ok hW h0
  simp (disch := omega) only [s172_0, s172_1, s172_2, s172_5, s172_6, s172_7, s172_10, s172_11, s172_12, s172_16, s172_19, s172_22, s172_23, s172_26, s172_29, s172_32, s172_33, s172_34, s172_37, s172_40, s172_41, s172_42, s172_43, s172_46, s172_47, s172_48, s172_51, s172_52, s172_55, s172_56, s172_57, s172_60, s172_61, s172_62, s172_65, s172_66, s172_67, s172_70, s172_71, s172_72, s172_75, s172_76, s172_77, s172_80, s172_83, s172_84, s172_85, s172_88, s172_91, s172_94, s172_95, s172_98, s172_99, s172_102, s172_103, s172_106, List.cons_append, List.nil_append, if_true, if_false, true_and, and_true, and_self, eq_self, true_or, or_true, false_or, or_false, tIn, tLe, fLe, tLt, fLt, tEq, fEq, isL]
  have M0 : mdM (aup (aup σ 130 9 0) 130 11 0) [] := ⟨by rw [aup_n2 (by omega), aup_s]; rfl, fun k c hc => by simp at hc⟩
  have S0' : stM (aup (aup σ 130 9 0) 130 11 0) [] := ⟨by rw [aup_s]; rfl, fun k c hc => by simp at hc⟩
  have F0 : FrO σ (aup (aup σ 130 9 0) 130 11 0) := ⟨fun a _ _ _ h4 => by rw [aup_f h4, aup_f h4], fun j _ h2 h3 _ => by rw [aup_n2 h3, aup_n2 h2]⟩
  refine zpush S0' (by simp) _ (fun σ1 w1 f1 => ?_)
  have M1 := mdM_fr M0 f1 (by omega) (by omega)
  simp (disch := omega) only [s172_0, s172_1, s172_2, s172_5, s172_6, s172_7, s172_10, s172_11, s172_12, s172_16, s172_19, s172_22, s172_23, s172_26, s172_29, s172_32, s172_33, s172_34, s172_37, s172_40, s172_41, s172_42, s172_43, s172_46, s172_47, s172_48, s172_51, s172_52, s172_55, s172_56, s172_57, s172_60, s172_61, s172_62, s172_65, s172_66, s172_67, s172_70, s172_71, s172_72, s172_75, s172_76, s172_77, s172_80, s172_83, s172_84, s172_85, s172_88, s172_91, s172_94, s172_95, s172_98, s172_99, s172_102, s172_103, s172_106, List.cons_append, List.nil_append, if_true, if_false, true_and, and_true, and_self, eq_self, true_or, or_true, false_or, or_false, tIn, tLe, fLe, tLt, fLt, tEq, fEq, isL]
  have fin : ∀ (X : List Nat) (σ2 : aSg) (l2 : AV), (idG G).take 301 = X → mdM σ2 (X.map (cl G)) → FrO σ σ2 → WP m172 83 [.inr (.inl 130), .inl (pI N 0 : Int), l2] [] σ2 Q := by
    intro X σ2 l2 hX m2 f2
    have e9 := m2.1
    have eZ : (fG G).take 301 = X.map (cl G) := by unfold fG; rw [← List.map_take, hX]
    have hXl : X.length ≤ 301 := by rw [← hX, List.length_take]; omega
    rw [eZ] at hq
    have go : ∀ b : Int, b = bgZ (X.map (cl G)) → CA m139 [.inr (.inl 130)] (aup σ2 130 18 b) (fun v σ3 => WP m172 106 [.inr (.inl 130), .inl (pI N 0 : Int), l2] (v ++ []) σ3 Q) := by
      intro b hb
      have Fu : FrA 134 18 σ2 (aup σ2 130 18 b) := ⟨fun a _ q => aup_f q, fun j q => aup_n2 q⟩
      refine c139 (mdM_fr m2 Fu (by omega) (by omega)) (by simp; omega) _ (fun σ3 t3 b1 b2 => ?_)
      simp (disch := omega) only [s172_0, s172_1, s172_2, s172_5, s172_6, s172_7, s172_10, s172_11, s172_12, s172_16, s172_19, s172_22, s172_23, s172_26, s172_29, s172_32, s172_33, s172_34, s172_37, s172_40, s172_41, s172_42, s172_43, s172_46, s172_47, s172_48, s172_51, s172_52, s172_55, s172_56, s172_57, s172_60, s172_61, s172_62, s172_65, s172_66, s172_67, s172_70, s172_71, s172_72, s172_75, s172_76, s172_77, s172_80, s172_83, s172_84, s172_85, s172_88, s172_91, s172_94, s172_95, s172_98, s172_99, s172_102, s172_103, s172_106, List.cons_append, List.nil_append, if_true, if_false, true_and, and_true, and_self, eq_self, true_or, or_true, false_or, or_false, tIn, tLe, fLe, tLt, fLt, tEq, fEq, isL]
      refine hq σ3 t3 (by rw [b2 18 (by omega), aup_s]; exact hb) (FrO_tr f2 ⟨fun a q1 _ _ q4 => by rw [b1 a q1 q4, aup_f q4], fun j q1 _ _ q4 => by rw [b2 j q1, aup_n2 q4]⟩)
    by_cases g : 300 < (X.map (cl G)).length
    · have eb : bgZ (X.map (cl G)) = 1 := by unfold bgZ; rw [if_pos g]
      simp (disch := omega) only [s172_0, s172_1, s172_2, s172_5, s172_6, s172_7, s172_10, s172_11, s172_12, s172_16, s172_19, s172_22, s172_23, s172_26, s172_29, s172_32, s172_33, s172_34, s172_37, s172_40, s172_41, s172_42, s172_43, s172_46, s172_47, s172_48, s172_51, s172_52, s172_55, s172_56, s172_57, s172_60, s172_61, s172_62, s172_65, s172_66, s172_67, s172_70, s172_71, s172_72, s172_75, s172_76, s172_77, s172_80, s172_83, s172_84, s172_85, s172_88, s172_91, s172_94, s172_95, s172_98, s172_99, s172_102, s172_103, s172_106, List.cons_append, List.nil_append, if_true, if_false, true_and, and_true, and_self, eq_self, true_or, or_true, false_or, or_false, tIn, tLe, fLe, tLt, fLt, tEq, fEq, isL, e9]
      exact go 1 eb.symm
    · have eb : bgZ (X.map (cl G)) = 0 := by unfold bgZ; rw [if_neg g]
      simp (disch := omega) only [s172_0, s172_1, s172_2, s172_5, s172_6, s172_7, s172_10, s172_11, s172_12, s172_16, s172_19, s172_22, s172_23, s172_26, s172_29, s172_32, s172_33, s172_34, s172_37, s172_40, s172_41, s172_42, s172_43, s172_46, s172_47, s172_48, s172_51, s172_52, s172_55, s172_56, s172_57, s172_60, s172_61, s172_62, s172_65, s172_66, s172_67, s172_70, s172_71, s172_72, s172_75, s172_76, s172_77, s172_80, s172_83, s172_84, s172_85, s172_88, s172_91, s172_94, s172_95, s172_98, s172_99, s172_102, s172_103, s172_106, List.cons_append, List.nil_append, if_true, if_false, true_and, and_true, and_self, eq_self, true_or, or_true, false_or, or_false, tIn, tLe, fLe, tLt, fLt, tEq, fEq, isL, e9]
      exact go 0 eb.symm
  have lp : ∀ (m : Nat) (X : List Nat) (es : List Nt) (σ2 : aSg) (l2 : AV), X.length + m = 301 → X ++ fiL es = idG G → es.length ≤ X.length + 1 → (∀ e ∈ es, e.1 < G.length ∧ Ul G e.1 e.2) → mdM σ2 (X.map (cl G)) → stM σ2 (es.map (fun e => (pI N e.1 : Int))) → FrO σ σ2 → WP m172 15 [.inr (.inl 130), .inl (pI N 0 : Int), l2] [] σ2 Q := by
    intro m
    induction m with
    | zero =>
      intro X es σ2 l2 h1 h2 h3 h4 h5 h6 h7
      have e1 : (idG G).take 301 = X := by rw [← h2, List.take_append_of_le_length (by omega), List.take_of_length_le (by omega)]
      have e9 : σ2 130 9 = 301 := by rw [h5.1]; simp; omega
      have d0 : σ2 130 11 = (es.length : Int) := by rw [h6.1]; simp
      rw [s172_15]
      by_cases g : (es.length : Int) ≤ 0
      · simp (disch := omega) only [s172_0, s172_1, s172_2, s172_5, s172_6, s172_7, s172_10, s172_11, s172_12, s172_16, s172_19, s172_22, s172_23, s172_26, s172_29, s172_32, s172_33, s172_34, s172_37, s172_40, s172_41, s172_42, s172_43, s172_46, s172_47, s172_48, s172_51, s172_52, s172_55, s172_56, s172_57, s172_60, s172_61, s172_62, s172_65, s172_66, s172_67, s172_70, s172_71, s172_72, s172_75, s172_76, s172_77, s172_80, s172_84, s172_85, s172_88, s172_91, s172_94, s172_95, s172_98, s172_99, s172_102, s172_103, s172_106, List.cons_append, List.nil_append, if_true, if_false, true_and, and_true, and_self, eq_self, true_or, or_true, false_or, or_false, tIn, tLe, fLe, tLt, fLt, tEq, fEq, isL, d0]
        exact fin X σ2 _ e1 h5 h7
      · simp (disch := omega) only [s172_0, s172_1, s172_2, s172_5, s172_6, s172_7, s172_10, s172_11, s172_12, s172_16, s172_19, s172_22, s172_23, s172_26, s172_29, s172_32, s172_33, s172_34, s172_37, s172_40, s172_41, s172_42, s172_43, s172_46, s172_47, s172_48, s172_51, s172_52, s172_55, s172_56, s172_57, s172_60, s172_61, s172_62, s172_65, s172_66, s172_67, s172_70, s172_71, s172_72, s172_75, s172_76, s172_77, s172_80, s172_84, s172_85, s172_88, s172_91, s172_94, s172_95, s172_98, s172_99, s172_102, s172_103, s172_106, List.cons_append, List.nil_append, if_true, if_false, true_and, and_true, and_self, eq_self, true_or, or_true, false_or, or_false, tIn, tLe, fLe, tLt, fLt, tEq, fEq, isL, d0, e9]
        exact fin X σ2 _ e1 h5 h7
    | succ m ih =>
      intro X es σ2 l2 h1 h2 h3 h4 h5 h6 h7
      have e9 : σ2 130 9 = (X.length : Int) := by rw [h5.1]; simp
      rw [s172_15]
      cases es with
      | nil =>
        have e1 : (idG G).take 301 = X := by rw [← h2]; simp only [fiL, List.append_nil]; rw [List.take_of_length_le (by omega)]
        have d0 : σ2 130 11 = 0 := h6.1
        simp (disch := omega) only [s172_0, s172_1, s172_2, s172_5, s172_6, s172_7, s172_10, s172_11, s172_12, s172_16, s172_19, s172_22, s172_23, s172_26, s172_29, s172_32, s172_33, s172_34, s172_37, s172_40, s172_41, s172_42, s172_43, s172_46, s172_47, s172_48, s172_51, s172_52, s172_55, s172_56, s172_57, s172_60, s172_61, s172_62, s172_65, s172_66, s172_67, s172_70, s172_71, s172_72, s172_75, s172_76, s172_77, s172_80, s172_84, s172_85, s172_88, s172_91, s172_94, s172_95, s172_98, s172_99, s172_102, s172_103, s172_106, List.cons_append, List.nil_append, if_true, if_false, true_and, and_true, and_self, eq_self, true_or, or_true, false_or, or_false, tIn, tLe, fLe, tLt, fLt, tEq, fEq, isL, d0]
        exact fin X σ2 _ e1 h5 h7
      | cons e es =>
        obtain ⟨n, U⟩ := e
        obtain ⟨hn, hU⟩ := h4 _ (List.mem_cons_self ..)
        have h4' : ∀ e ∈ es, e.1 < G.length ∧ Ul G e.1 e.2 := fun u hu => h4 u (List.mem_cons_of_mem _ hu)
        have d0 : σ2 130 11 = (es.length : Int) + 1 := by have := h6.1; rw [this]; simp
        simp only [List.length_cons] at h3
        simp (disch := omega) only [s172_0, s172_1, s172_2, s172_5, s172_6, s172_7, s172_10, s172_11, s172_12, s172_16, s172_19, s172_22, s172_23, s172_26, s172_29, s172_32, s172_33, s172_34, s172_37, s172_40, s172_41, s172_42, s172_43, s172_46, s172_47, s172_48, s172_51, s172_52, s172_55, s172_56, s172_57, s172_60, s172_61, s172_62, s172_65, s172_66, s172_67, s172_70, s172_71, s172_72, s172_75, s172_76, s172_77, s172_80, s172_84, s172_85, s172_88, s172_91, s172_94, s172_95, s172_98, s172_99, s172_102, s172_103, s172_106, List.cons_append, List.nil_append, if_true, if_false, true_and, and_true, and_self, eq_self, true_or, or_true, false_or, or_false, tIn, tLe, fLe, tLt, fLt, tEq, fEq, isL, d0, e9]
        refine zpop (st := es.map (fun e => (pI N e.1 : Int))) (v := (pI N n : Int)) (by simpa using h6) (by simp; omega) _ (fun σ3 w3 f3 => ?_)
        have F3 := FrO_tr h7 (FrO_s f3)
        have R3 : RGr σ3 G N := RGr_O hR F3
        have m3 := mdM_fr h5 f3 (by omega) (by omega)
        obtain ⟨j, hj⟩ : ∃ j, Rl G n j := ⟨_, Ul_ro hU⟩
        obtain ⟨g1, g2, g3⟩ := Rl_in hW hn hj
        obtain ⟨b1, b2, b3⟩ := RG_at R3 g1
        have hpj := pI_lt r2 g1
        have ect : cT (cl G j) = tau (cl G j) := by unfold cT; rw [if_neg g3]
        rw [ect] at b1
        simp (disch := omega) only [s172_0, s172_1, s172_2, s172_5, s172_6, s172_7, s172_10, s172_11, s172_12, s172_16, s172_19, s172_22, s172_23, s172_26, s172_29, s172_32, s172_33, s172_34, s172_37, s172_40, s172_41, s172_42, s172_43, s172_46, s172_47, s172_48, s172_51, s172_52, s172_55, s172_56, s172_57, s172_60, s172_61, s172_62, s172_65, s172_66, s172_67, s172_70, s172_71, s172_72, s172_75, s172_76, s172_77, s172_80, s172_84, s172_85, s172_88, s172_91, s172_94, s172_95, s172_98, s172_99, s172_102, s172_103, s172_106, List.cons_append, List.nil_append, if_true, if_false, true_and, and_true, and_self, eq_self, true_or, or_true, false_or, or_false, tIn, tLe, fLe, tLt, fLt, tEq, fEq, isL, c170 R3 hW hn hj, kd140, ln140, Int.toNat_natCast, b1]
        refine make_ok m3 rfl (by simp; omega) _ (fun σ4 b4 f4 => ?_)
        have b4' : mdM σ4 ((X ++ [j]).map (cl G)) := by simpa using b4
        have F4 := FrO_tr F3 (FrO_m f4)
        have R4 : RGr σ4 G N := RGr_O hR F4
        have s4 : stM σ4 (es.map (fun e => (pI N e.1 : Int))) := arM_fr (a := 136) (j := 11) w3 f4 (by omega) (by omega) (by omega)
        obtain ⟨d1, d2, d3⟩ := RG_at R4 g1
        rw [ect] at d1
        cases U with
        | leaf j2 =>
          have e2 := Rl_un hj hU.1
          subst e2
          have tk : tok (cl G j) := by
            rcases hW j g1 with z | z | z
            · exact absurd z.1 hU.2
            · exact absurd z.1 g3
            · exact z.1
          have tz : ¬ tau (cl G j) = 0 := fun z => hU.2 ((tau_0 tk).mp z)
          simp only [fiL, fi] at h2
          simp (disch := omega) only [s172_0, s172_1, s172_2, s172_5, s172_6, s172_7, s172_10, s172_11, s172_12, s172_16, s172_19, s172_22, s172_23, s172_26, s172_29, s172_32, s172_33, s172_34, s172_37, s172_40, s172_41, s172_42, s172_43, s172_46, s172_47, s172_48, s172_51, s172_52, s172_55, s172_56, s172_57, s172_60, s172_61, s172_62, s172_65, s172_66, s172_67, s172_70, s172_71, s172_72, s172_75, s172_76, s172_77, s172_80, s172_84, s172_85, s172_88, s172_91, s172_94, s172_95, s172_98, s172_99, s172_102, s172_103, s172_106, List.cons_append, List.nil_append, if_true, if_false, true_and, and_true, and_self, eq_self, true_or, or_true, false_or, or_false, tIn, tLe, fLe, tLt, fLt, tEq, fEq, isL, kd140, ln140, Int.toNat_natCast, d1]
          exact ih (X ++ [j]) es σ4 _ (by simp; omega) (by rw [← h2]; simp) (by simp; omega) h4' b4' s4 F4
        | branch j2 a b =>
          have e2 := Rl_un hj hU.1
          subst e2
          have hc := hU.2.1
          obtain ⟨p1, p2, p3, p4⟩ := put_in hW g1 hc
          obtain ⟨x1, x2⟩ := d2 hc
          have tz : tau (cl G j) = 0 := by rw [hc]; rfl
          simp only [fiL, fi] at h2
          simp (disch := omega) only [s172_0, s172_1, s172_2, s172_5, s172_6, s172_7, s172_10, s172_11, s172_12, s172_16, s172_19, s172_22, s172_23, s172_26, s172_29, s172_32, s172_33, s172_34, s172_37, s172_40, s172_41, s172_42, s172_43, s172_46, s172_47, s172_48, s172_51, s172_52, s172_55, s172_56, s172_57, s172_60, s172_61, s172_62, s172_65, s172_66, s172_67, s172_70, s172_71, s172_72, s172_75, s172_76, s172_77, s172_80, s172_84, s172_85, s172_88, s172_91, s172_94, s172_95, s172_98, s172_99, s172_102, s172_103, s172_106, List.cons_append, List.nil_append, if_true, if_false, true_and, and_true, and_self, eq_self, true_or, or_true, false_or, or_false, tIn, tLe, fLe, tLt, fLt, tEq, fEq, isL, kd140, ln140, kd142, ln142, Int.toNat_natCast, d1, tz, x2]
          refine zpush s4 (by simp; omega) _ (fun σ5 w5 f5 => ?_)
          have F5 := FrO_tr F4 (FrO_s f5)
          have R5 : RGr σ5 G N := RGr_O hR F5
          have y1 := ((RG_at R5 g1).2.1 hc).1
          simp (disch := omega) only [s172_0, s172_1, s172_2, s172_5, s172_6, s172_7, s172_10, s172_11, s172_12, s172_16, s172_19, s172_22, s172_23, s172_26, s172_29, s172_32, s172_33, s172_34, s172_37, s172_40, s172_41, s172_42, s172_43, s172_46, s172_47, s172_48, s172_51, s172_52, s172_55, s172_56, s172_57, s172_60, s172_61, s172_62, s172_65, s172_66, s172_67, s172_70, s172_71, s172_72, s172_75, s172_76, s172_77, s172_80, s172_84, s172_85, s172_88, s172_91, s172_94, s172_95, s172_98, s172_99, s172_102, s172_103, s172_106, List.cons_append, List.nil_append, if_true, if_false, true_and, and_true, and_self, eq_self, true_or, or_true, false_or, or_false, tIn, tLe, fLe, tLt, fLt, tEq, fEq, isL, kd141, ln141, Int.toNat_natCast, y1]
          refine zpush w5 (by simp; omega) _ (fun σ6 w6 f6 => ?_)
          simp (disch := omega) only [s172_0, s172_1, s172_2, s172_5, s172_6, s172_7, s172_10, s172_11, s172_12, s172_16, s172_19, s172_22, s172_23, s172_26, s172_29, s172_32, s172_33, s172_34, s172_37, s172_40, s172_41, s172_42, s172_43, s172_46, s172_47, s172_48, s172_51, s172_52, s172_55, s172_56, s172_57, s172_60, s172_61, s172_62, s172_65, s172_66, s172_67, s172_70, s172_71, s172_72, s172_75, s172_76, s172_77, s172_80, s172_84, s172_85, s172_88, s172_91, s172_94, s172_95, s172_98, s172_99, s172_102, s172_103, s172_106, List.cons_append, List.nil_append, if_true, if_false, true_and, and_true, and_self, eq_self, true_or, or_true, false_or, or_false, tIn, tLe, fLe, tLt, fLt, tEq, fEq, isL]
          refine ih (X ++ [j]) ((lf G j, a) :: (rt G j, b) :: es) σ6 _ (by simp; omega) (by rw [← h2]; simp [fiL]) (by simp; omega) (fun e he => ?_) (mdM_fr (mdM_fr b4' f5 (by omega) (by omega)) f6 (by omega) (by omega)) (by simpa using w6) (FrO_tr F5 (FrO_s f6))
          rcases List.mem_cons.mp he with rfl | he
          · exact ⟨p1, hU.2.2.1⟩
          rcases List.mem_cons.mp he with rfl | he
          · exact ⟨p2, hU.2.2.2⟩
          exact h4' e he
  exact lp 301 [] [(0, ufd G)] σ1 _ rfl (by simp [fiL, idG]) (by simp) (fun e he => by rcases List.mem_singleton.mp he with rfl; exact ⟨h0, U0⟩) M1 (by simpa using w1) (FrO_tr F0 (FrO_s f1))
abbrev FrL (σ σ' : aSg) : Prop := (∀ a, a ≠ 136 → a ≠ 140 → a ≠ 141 → a ≠ 142 → a ≠ 130 → σ' a = σ a) ∧ ∀ j, j ≠ 11 → j ≠ 23 → σ' 130 j = σ 130 j
theorem FrL_tr {σ1 σ2 : aSg} (h : FrL σ σ1) (h' : FrL σ1 σ2) : FrL σ σ2 := ⟨fun a h1 h2 h3 h4 h5 => (h'.1 a h1 h2 h3 h4 h5).trans (h.1 a h1 h2 h3 h4 h5), fun j h1 h2 => (h'.2 j h1 h2).trans (h.2 j h1 h2)⟩
theorem FrL_s (h : FrA 136 11 σ σ') : FrL σ σ' := ⟨fun a h1 _ _ _ h5 => h.1 a h1 h5, fun j h1 _ => h.2 j h1⟩
theorem tmM_L (h : tmM σ T) (hf : FrL σ σ') : tmM σ' T := ⟨by rw [hf.2 7 (by omega) (by omega)]; exact h.1, by rw [hf.1 134 (by omega) (by omega) (by omega) (by omega) (by omega)]; exact h.2⟩
theorem wr171 (hm : tmM σ T) (hT : isT T) (hk : tks T) (hn : nbA T) (hl : T.length ≤ 120) (Q : List AV → aSg → Prop) (hq : ∀ σ', RGr σ' (gr0 T) T.length → tmM σ' T → FrL σ σ' → Q [.inl (pI T.length 0 : Int)] σ') : CA m171 [.inr (.inl 130)] σ Q := by
  rw [e171]
  have l0 := ln134
  have e7 := hm.1
  simp (disch := omega) only [s171_0, s171_1, s171_2, s171_5, s171_6, s171_7, s171_10, s171_11, s171_14, s171_15, s171_16, s171_18, s171_21, s171_22, s171_25, s171_26, s171_27, s171_30, s171_31, s171_34, s171_37, s171_38, s171_39, s171_40, s171_43, s171_44, s171_45, s171_48, s171_49, s171_52, s171_55, s171_56, s171_57, s171_58, s171_59, s171_60, s171_63, s171_64, s171_65, s171_66, s171_67, s171_70, s171_73, s171_76, s171_79, s171_80, s171_83, List.cons_append, List.nil_append, if_true, if_false, true_and, and_true, and_self, eq_self, true_or, or_true, false_or, or_false, tIn, tLe, fLe, tLt, fLt, tEq, fEq, isL, aup_n2, e7]
  have S0' : stM (aup (aup σ 130 23 0) 130 11 0) (lNI []) := ⟨by rw [aup_s]; rfl, fun k c hc => by simp [lNI] at hc⟩
  have F0 : FrL σ (aup (aup σ 130 23 0) 130 11 0) := ⟨fun a _ _ _ _ h5 => by rw [aup_f h5, aup_f h5], fun j h1 h2 => by rw [aup_n2 h1, aup_n2 h2]⟩
  have nod : Nat → Int × Nat × Nat := fun q => (T.getD q 0, q + 1, te T (q + 1))
  have lp : ∀ (k : Nat) (ps : List Nat) (σ2 : aSg) (l2 l3 : AV), k ≤ T.length → cfo T ps k → stM σ2 (lNI (ps.map (pI T.length))) → σ2 130 23 = ((T.length - k : Nat) : Int) → (∀ q, k ≤ q → q < T.length → nodR σ2 T.length q ((gr0 T).getD q (0, 0, 0))) → FrL σ σ2 → WP m171 17 [.inr (.inl 130), .inl ((k : Int) - 1), l2, l3] [] σ2 Q := by
    intro k
    induction k with
    | zero =>
      intro ps σ2 l2 l3 h1 h2 h3 h4 h5 h6
      have hpos := isT_pos hT
      cases ps with
      | nil => have : 0 = T.length := h2; omega
      | cons p ps =>
        obtain ⟨rfl, hp, h2'⟩ := h2
        have : ps = [] := by
          have := cfo_len hT ps _ h2'
          rw [te_all hT] at this
          exact List.length_eq_zero_iff.mp (by omega)
        subst this
        rw [s171_17]
        simp (disch := omega) only [s171_0, s171_1, s171_2, s171_5, s171_6, s171_7, s171_10, s171_11, s171_14, s171_15, s171_16, s171_18, s171_21, s171_22, s171_25, s171_26, s171_27, s171_30, s171_31, s171_34, s171_37, s171_38, s171_39, s171_40, s171_43, s171_44, s171_45, s171_48, s171_49, s171_52, s171_55, s171_56, s171_57, s171_58, s171_59, s171_60, s171_63, s171_64, s171_65, s171_66, s171_67, s171_70, s171_73, s171_76, s171_79, s171_80, s171_83, List.cons_append, List.nil_append, if_true, if_false, true_and, and_true, and_self, eq_self, true_or, or_true, false_or, or_false, tIn, tLe, fLe, tLt, fLt, tEq, fEq, isL]
        refine zpop (st := lNI []) (v := (pI T.length 0 : Int)) (by simpa [lNI] using h3) (by simp [lNI]) _ (fun σ3 w3 f3 => ?_)
        have F3 := FrL_tr h6 (FrL_s f3)
        simp (disch := omega) only [s171_0, s171_1, s171_2, s171_5, s171_6, s171_7, s171_10, s171_11, s171_14, s171_15, s171_16, s171_18, s171_21, s171_22, s171_25, s171_26, s171_27, s171_30, s171_31, s171_34, s171_37, s171_38, s171_39, s171_40, s171_43, s171_44, s171_45, s171_48, s171_49, s171_52, s171_55, s171_56, s171_57, s171_58, s171_59, s171_60, s171_63, s171_64, s171_65, s171_66, s171_67, s171_70, s171_73, s171_76, s171_79, s171_80, s171_83, List.cons_append, List.nil_append, if_true, if_false, true_and, and_true, and_self, eq_self, true_or, or_true, false_or, or_false, tIn, tLe, fLe, tLt, fLt, tEq, fEq, isL]
        refine hq σ3 ⟨?_, by rw [gr0_len]; omega, by rw [gr0_len]; omega, fun i hi => ?_⟩ (tmM_L hm F3) F3
        · rw [f3.2 23 (by omega), h4, gr0_len]; omega
        · rw [gr0_len] at hi
          have := h5 i (by omega) hi
          unfold nodR at this ⊢
          rw [f3.1 140 (by omega) (by omega), f3.1 141 (by omega) (by omega), f3.1 142 (by omega) (by omega)]
          exact this
    | succ p ih =>
      intro ps σ2 l2 l3 h1 h2 h3 h4 h5 h6
      have hp : p < T.length := by omega
      have q1 : ((p + 1 : Nat) : Int) - 1 = (p : Int) := by omega
      have T2 := tmM_L hm h6
      have hc := T2.2 _ _ (List.getElem?_eq_getElem hp)
      have tk := hk _ (List.getElem_mem hp)
      have nb := hn _ (List.getElem_mem hp)
      have hpl := cfo_len hT ps _ h2
      have epi : pI T.length p = T.length - (p + 1) := by unfold pI; rw [if_pos hp]; omega
      have gd : (gr0 T).getD p (0, 0, 0) = (T[p], p + 1, te T (p + 1)) := by
        obtain ⟨e1, e2, e3⟩ := gr0_at hp
        unfold cl lf rt at *
        exact Prod.ext e1 (Prod.ext e2 e3)
      have ect : cT T[p] = tau T[p] := (cT_t tk).1
      -- the thing is laid
      have fin : ∀ (σ3 : aSg) (ps' : List Nat) (a b : Int), stM σ3 (lNI (ps'.map (pI T.length))) → ps'.length ≤ 300 → cfo T (p :: ps') p → FrL σ σ3 → σ3 130 23 = ((T.length - (p + 1) : Nat) : Int) → (∀ q, p + 1 ≤ q → q < T.length → nodR σ3 T.length q ((gr0 T).getD q (0, 0, 0))) → (T[p] = 1 → a = (pI T.length (p + 1) : Int) ∧ b = (pI T.length (te T (p + 1)) : Int)) → WP m171 57 [.inr (.inl 130), .inl (p : Int), .inl a, .inl b] [] σ3 Q := by
        intro σ3 ps' a b i3 hl3 hcf F3 m3 n3 hab
        have T3 := tmM_L hm F3
        have hc3 := T3.2 _ _ (List.getElem?_eq_getElem hp)
        simp (disch := omega) only [s171_0, s171_1, s171_2, s171_5, s171_6, s171_7, s171_10, s171_11, s171_14, s171_15, s171_16, s171_18, s171_21, s171_22, s171_25, s171_26, s171_27, s171_30, s171_31, s171_34, s171_37, s171_38, s171_39, s171_40, s171_43, s171_44, s171_45, s171_48, s171_49, s171_52, s171_55, s171_56, s171_57, s171_58, s171_59, s171_60, s171_63, s171_64, s171_65, s171_66, s171_67, s171_70, s171_73, s171_76, s171_79, s171_80, s171_83, List.cons_append, List.nil_append, if_true, if_false, true_and, and_true, and_self, eq_self, true_or, or_true, false_or, or_false, tIn, tLe, fLe, tLt, fLt, tEq, fEq, isL, kd134, ln134, Int.toNat_natCast, hc3, c169 m3 (show T.length - (p + 1) < 640 by omega)]
        have Fl : FrL σ3 (aup (aup (aup (aup σ3 140 (T.length - (p + 1)) (tau T[p])) 141 (T.length - (p + 1)) a) 142 (T.length - (p + 1)) b) 130 23 (((T.length - (p + 1) : Nat) : Int) + 1)) := ⟨fun c h1 h2 h3 h4 h5 => by rw [aup_f h5, aup_f h4, aup_f h3, aup_f h2], fun j h1 h2 => by rw [aup_n2 h2, aup_n1 (by omega), aup_n1 (by omega), aup_n1 (by omega)]⟩
        have i4 : stM (aup (aup (aup (aup σ3 140 (T.length - (p + 1)) (tau T[p])) 141 (T.length - (p + 1)) a) 142 (T.length - (p + 1)) b) 130 23 (((T.length - (p + 1) : Nat) : Int) + 1)) (lNI (ps'.map (pI T.length))) := ⟨by rw [aup_n2 (by omega), aup_n1 (by omega), aup_n1 (by omega), aup_n1 (by omega)]; exact i3.1, by rw [aup_f (by omega), aup_f (by omega), aup_f (by omega), aup_f (by omega)]; exact i3.2⟩
        refine zpush i4 (by simp [lNI]; omega) _ (fun σ5 i5 f5 => ?_)
        simp (disch := omega) only [s171_0, s171_1, s171_2, s171_5, s171_6, s171_7, s171_10, s171_11, s171_14, s171_15, s171_16, s171_18, s171_21, s171_22, s171_25, s171_26, s171_27, s171_30, s171_31, s171_34, s171_37, s171_38, s171_39, s171_40, s171_43, s171_44, s171_45, s171_48, s171_49, s171_52, s171_55, s171_56, s171_57, s171_58, s171_59, s171_60, s171_63, s171_64, s171_65, s171_66, s171_67, s171_70, s171_73, s171_76, s171_79, s171_80, s171_83, List.cons_append, List.nil_append, if_true, if_false, true_and, and_true, and_self, eq_self, true_or, or_true, false_or, or_false, tIn, tLe, fLe, tLt, fLt, tEq, fEq, isL]
        refine ih (p :: ps') σ5 _ _ (by omega) hcf (by simpa [lNI, epi] using i5) ?_ (fun q hq1 hq2 => ?_) (FrL_tr F3 (FrL_tr Fl (FrL_s f5)))
        · rw [f5.2 23 (by omega), aup_s]; omega
        · have o0 := f5.1 140 (by omega) (by omega)
          have o1 := f5.1 141 (by omega) (by omega)
          have o2 := f5.1 142 (by omega) (by omega)
          unfold nodR
          rw [o0, o1, o2]
          by_cases e : q = p
          · subst e
            rw [gd, epi]
            refine ⟨?_, fun z => ?_, fun z => ?_⟩
            · rw [aup_n1 (by omega), aup_n1 (by omega), aup_n1 (by omega), aup_s, ect]
            · obtain ⟨a1, a2⟩ := hab z
              refine ⟨?_, ?_⟩
              · rw [aup_n1 (by omega), aup_n1 (by omega), aup_s, a1]
              · rw [aup_n1 (by omega), aup_s, a2]
            · exact absurd z (by show ¬ T[q] = 2; unfold tok at tk; omega)
          · have := n3 q (by omega) hq2
            have eq2 : pI T.length q ≠ T.length - (p + 1) := by unfold pI; rw [if_pos hq2]; omega
            unfold nodR at this
            obtain ⟨t1, t2, t3⟩ := this
            refine ⟨?_, fun z => ?_, fun z => ?_⟩
            · rw [aup_n1 (by omega), aup_n1 (by omega), aup_n1 (by omega), aup_n2 eq2]; exact t1
            · rw [aup_n1 (by omega), aup_n1 (by omega), aup_n2 eq2, aup_n1 (by omega), aup_n1 (by omega), aup_n2 eq2, aup_n1 (by omega), aup_n1 (by omega)]
              exact t2 z
            · rw [aup_n1 (by omega), aup_n1 (by omega), aup_n2 eq2, aup_n1 (by omega)]
              exact t3 z
      rw [s171_17]
      by_cases g : T[p] = 1
      · have z1 := (tau_0 tk).mpr g
        obtain ⟨g1, g2, g3⟩ := te_2 hT (List.getElem?_eq_getElem hp) (by rw [g]; rfl)
        cases ps with
        | nil => have : p + 1 = T.length := h2; omega
        | cons a ps =>
          obtain ⟨rfl, -, h2'⟩ := h2
          cases ps with
          | nil => have : te T (p + 1) = T.length := h2'; omega
          | cons b ps =>
            obtain ⟨rfl, -, h2''⟩ := h2'
            simp only [List.length_cons] at hpl
            simp (disch := omega) only [s171_0, s171_1, s171_2, s171_5, s171_6, s171_7, s171_10, s171_11, s171_14, s171_15, s171_16, s171_18, s171_21, s171_22, s171_25, s171_26, s171_27, s171_30, s171_31, s171_34, s171_37, s171_38, s171_39, s171_40, s171_43, s171_44, s171_45, s171_48, s171_49, s171_52, s171_55, s171_56, s171_58, s171_59, s171_60, s171_63, s171_64, s171_65, s171_66, s171_67, s171_70, s171_73, s171_76, s171_79, s171_80, s171_83, List.cons_append, List.nil_append, if_true, if_false, true_and, and_true, and_self, eq_self, true_or, or_true, false_or, or_false, tIn, tLe, fLe, tLt, fLt, tEq, fEq, isL, q1, kd134, ln134, Int.toNat_natCast, hc, z1]
            refine zpop (st := lNI ((te T (p + 1) :: ps).map (pI T.length))) (v := (pI T.length (p + 1) : Int)) (by simpa [lNI] using h3) (by simp [lNI]; omega) _ (fun σ3 w3 f3 => ?_)
            have F3 := FrL_tr h6 (FrL_s f3)
            have T3 := tmM_L hm F3
            have hc3 := T3.2 _ _ (List.getElem?_eq_getElem hp)
            simp (disch := omega) only [s171_0, s171_1, s171_2, s171_5, s171_6, s171_7, s171_10, s171_11, s171_14, s171_15, s171_16, s171_18, s171_21, s171_22, s171_25, s171_26, s171_27, s171_30, s171_31, s171_34, s171_37, s171_38, s171_39, s171_40, s171_43, s171_44, s171_45, s171_48, s171_49, s171_52, s171_55, s171_56, s171_58, s171_59, s171_60, s171_63, s171_64, s171_65, s171_66, s171_67, s171_70, s171_73, s171_76, s171_79, s171_80, s171_83, List.cons_append, List.nil_append, if_true, if_false, true_and, and_true, and_self, eq_self, true_or, or_true, false_or, or_false, tIn, tLe, fLe, tLt, fLt, tEq, fEq, isL, kd134, ln134, Int.toNat_natCast, hc3, z1]
            refine zpop (st := lNI (ps.map (pI T.length))) (v := (pI T.length (te T (p + 1)) : Int)) (by simpa [lNI] using w3) (by simp [lNI]; omega) _ (fun σ4 w4 f4 => ?_)
            have F4 := FrL_tr F3 (FrL_s f4)
            simp (disch := omega) only [s171_0, s171_1, s171_2, s171_5, s171_6, s171_7, s171_10, s171_11, s171_14, s171_15, s171_16, s171_18, s171_21, s171_22, s171_25, s171_26, s171_27, s171_30, s171_31, s171_34, s171_37, s171_38, s171_39, s171_40, s171_43, s171_44, s171_45, s171_48, s171_49, s171_52, s171_55, s171_56, s171_58, s171_59, s171_60, s171_63, s171_64, s171_65, s171_66, s171_67, s171_70, s171_73, s171_76, s171_79, s171_80, s171_83, List.cons_append, List.nil_append, if_true, if_false, true_and, and_true, and_self, eq_self, true_or, or_true, false_or, or_false, tIn, tLe, fLe, tLt, fLt, tEq, fEq, isL]
            refine fin σ4 ps _ _ w4 (by omega) ⟨rfl, hp, by rw [g3]; exact h2''⟩ F4 ?_ (fun q hq1 hq2 => ?_) (fun _ => ⟨rfl, rfl⟩)
            · rw [f4.2 23 (by omega), f3.2 23 (by omega)]; exact h4
            · have := h5 q hq1 hq2
              unfold nodR at this ⊢
              rw [f4.1 140 (by omega) (by omega), f4.1 141 (by omega) (by omega), f4.1 142 (by omega) (by omega), f3.1 140 (by omega) (by omega), f3.1 141 (by omega) (by omega), f3.1 142 (by omega) (by omega)]
              exact this
      · have z1 : ¬ tau T[p] = 0 := fun z => g ((tau_0 tk).mp z)
        have te1 := te_0 hT (List.getElem?_eq_getElem hp) (arT_0 g nb)
        simp (disch := omega) only [s171_0, s171_1, s171_2, s171_5, s171_6, s171_7, s171_10, s171_11, s171_14, s171_15, s171_16, s171_18, s171_21, s171_22, s171_25, s171_26, s171_27, s171_30, s171_31, s171_34, s171_37, s171_38, s171_39, s171_40, s171_43, s171_44, s171_45, s171_48, s171_49, s171_52, s171_55, s171_56, s171_58, s171_59, s171_60, s171_63, s171_64, s171_65, s171_66, s171_67, s171_70, s171_73, s171_76, s171_79, s171_80, s171_83, List.cons_append, List.nil_append, if_true, if_false, true_and, and_true, and_self, eq_self, true_or, or_true, false_or, or_false, tIn, tLe, fLe, tLt, fLt, tEq, fEq, isL, q1, kd134, ln134, Int.toNat_natCast, hc]
        exact fin σ2 ps _ _ h3 (by omega) ⟨rfl, hp, by rw [te1]; exact h2⟩ h6 h4 h5 (fun z => absurd z g)
  exact lp T.length [] _ _ _ (Nat.le_refl _) rfl S0' (by rw [aup_n2 (by omega), aup_s]; simp) (fun q h1 h2 => by omega) F0
end TRW
