/-! Reader: the text; term: the component -/
section TRM
variable {σ σ0 σ' : aSg} {K : List AV → aSg → Prop} {x y z i n c pl : Int} {S : SS} {T W st F R s : List Int} {r q t j k p nx w : Nat} {b : Bool} {l lv : List Lv}
theorem rdT_num (h : RIv lv nx) : (rdT lv nx c).1 = 0 ∨ (rdT lv nx c).1 = 1 ∨ (rdT lv nx c).1 = 2 := by
  obtain ⟨b, s, l, rfl, -⟩ := h
  simp only [rdT]
  unfold rdS
  repeat' split
  all_goals simp
theorem rdA_in : ∀ (cs : List Int) (p : Nat) (lv : List Lv) (nx : Nat), RIv lv nx → ((rdA cs p lv nx).1 = 0 ∨ (rdA cs p lv nx).1 = 1 ∨ (rdA cs p lv nx).1 = 2) ∧ ((rdA cs p lv nx).1 = 0 → RIv (rdA cs p lv nx).2.2.1 (rdA cs p lv nx).2.2.2) ∧ (rdA cs p lv nx).2.1 ≤ p + cs.length := by
  intro cs
  induction cs with
  | nil => intro p lv nx h; exact ⟨Or.inl rfl, fun _ => h, by simp [rdA]⟩
  | cons c cs ih =>
    intro p lv nx h
    simp only [rdA]
    by_cases g : (rdT lv nx c).1 = 0
    · rw [if_pos g]
      obtain ⟨h1, h2, h3⟩ := ih (p + 1) _ _ (rdT_ok h g).1
      exact ⟨h1, h2, by simp at h3 ⊢; omega⟩
    · rw [if_neg g]
      exact ⟨rdT_num h, fun z => absurd z g, by simp⟩
theorem rdE_T (h : RIv lv nx) (he : rdE lv nx = true) : isT (conc lv) ∧ tks (conc lv) ∧ (conc lv).length ≤ 120 := by
  obtain ⟨b, s, l, rfl, h1, h2, h3, h4, h5, h6⟩ := h
  simp only [rdE, Bool.and_eq_true, decide_eq_true_eq, Bool.not_eq_true', decide_eq_false_iff_not] at he
  obtain ⟨rfl, -, e3⟩ := he
  rw [if_pos rfl] at h4
  have hT : isT s := by rcases h4 with h | h; exact absurd h e3; exact h
  obtain ⟨q1, q2⟩ := conc_T l b s h2 hT h3
  exact ⟨q1, q2, by simpa using h5⟩
theorem rd17 (hk : RK σ) (hv : rv σ 1 = T) (hl : T.length ≤ 240) (Q : List AV → aSg → Prop) (hq : ∀ σ', RK σ' → (∀ a, (a < 53 ∨ 59 < a) → σ' a = σ a) → (rdN (rdA T 0 rd0 0) = 0 → rv σ' 53 = conc (rdA T 0 rd0 0).2.2.1) → (rdN (rdA T 0 rd0 0) ≠ 0 → σ' 55 4 = ((rdA T 0 rd0 0).2.1 : Int)) → Q [.inl (rdN (rdA T 0 rd0 0))] σ') : CA m17 [.inr (.inl 55), .inr (.inl 1), .inr (.inl 53)] σ Q := by
  rw [e17]
  obtain ⟨RR, hRR⟩ : ∃ z, z = rdA T 0 rd0 0 := ⟨_, rfl⟩
  rw [← hRR] at hq
  simp (disch := omega) only [s17_0, s17_1, s17_4, s17_5, s17_8, s17_11, s17_12, s17_15, s17_18, s17_19, s17_20, s17_23, s17_24, s17_25, s17_28, s17_29, s17_30, s17_31, s17_34, s17_35, s17_37, s17_38, s17_41, s17_44, s17_45, s17_46, s17_49, s17_50, s17_51, s17_52, s17_55, s17_56, s17_59, s17_61, s17_63, s17_66, s17_68, s17_69, s17_72, s17_75, s17_76, s17_77, s17_80, s17_83, s17_84, s17_87, s17_90, s17_91, s17_94, s17_97, s17_98, s17_99, s17_102, s17_105, s17_106, s17_109, s17_110, s17_111, s17_112, s17_115, s17_116, s17_119, s17_120, List.cons_append, List.nil_append, if_true, if_false, true_and, and_true, and_self, eq_self, true_or, or_true, false_or, or_false, tIn, tLe, fLe, tLt, fLt, tEq, fEq, isL, row53.1, row56.1, row58.1]
  refine rclr_ok row53 hk _ (fun σ1 k1 w1 f1 => ?_)
  simp (disch := omega) only [s17_0, s17_1, s17_4, s17_5, s17_8, s17_11, s17_12, s17_15, s17_18, s17_19, s17_20, s17_23, s17_24, s17_25, s17_28, s17_29, s17_30, s17_31, s17_34, s17_35, s17_37, s17_38, s17_41, s17_44, s17_45, s17_46, s17_49, s17_50, s17_51, s17_52, s17_55, s17_56, s17_59, s17_61, s17_63, s17_66, s17_68, s17_69, s17_72, s17_75, s17_76, s17_77, s17_80, s17_83, s17_84, s17_87, s17_90, s17_91, s17_94, s17_97, s17_98, s17_99, s17_102, s17_105, s17_106, s17_109, s17_110, s17_111, s17_112, s17_115, s17_116, s17_119, s17_120, List.cons_append, List.nil_append, if_true, if_false, true_and, and_true, and_self, eq_self, true_or, or_true, false_or, or_false, tIn, tLe, fLe, tLt, fLt, tEq, fEq, isL, row53.1, row56.1, row58.1]
  refine rclr_ok row56 k1 _ (fun σ2 k2 w2 f2 => ?_)
  simp (disch := omega) only [s17_0, s17_1, s17_4, s17_5, s17_8, s17_11, s17_12, s17_15, s17_18, s17_19, s17_20, s17_23, s17_24, s17_25, s17_28, s17_29, s17_30, s17_31, s17_34, s17_35, s17_37, s17_38, s17_41, s17_44, s17_45, s17_46, s17_49, s17_50, s17_51, s17_52, s17_55, s17_56, s17_59, s17_61, s17_63, s17_66, s17_68, s17_69, s17_72, s17_75, s17_76, s17_77, s17_80, s17_83, s17_84, s17_87, s17_90, s17_91, s17_94, s17_97, s17_98, s17_99, s17_102, s17_105, s17_106, s17_109, s17_110, s17_111, s17_112, s17_115, s17_116, s17_119, s17_120, List.cons_append, List.nil_append, if_true, if_false, true_and, and_true, and_self, eq_self, true_or, or_true, false_or, or_false, tIn, tLe, fLe, tLt, fLt, tEq, fEq, isL, row53.1, row56.1, row58.1]
  refine rclr_ok row58 k2 _ (fun σ3 k3 w3 f3 => ?_)
  simp (disch := omega) only [s17_0, s17_1, s17_4, s17_5, s17_8, s17_11, s17_12, s17_15, s17_18, s17_19, s17_20, s17_23, s17_24, s17_25, s17_28, s17_29, s17_30, s17_31, s17_34, s17_35, s17_37, s17_38, s17_41, s17_44, s17_45, s17_46, s17_49, s17_50, s17_51, s17_52, s17_55, s17_56, s17_59, s17_61, s17_63, s17_66, s17_68, s17_69, s17_72, s17_75, s17_76, s17_77, s17_80, s17_83, s17_84, s17_87, s17_90, s17_91, s17_94, s17_97, s17_98, s17_99, s17_102, s17_105, s17_106, s17_109, s17_110, s17_111, s17_112, s17_115, s17_116, s17_119, s17_120, List.cons_append, List.nil_append, if_true, if_false, true_and, and_true, and_self, eq_self, true_or, or_true, false_or, or_false, tIn, tLe, fLe, tLt, fLt, tEq, fEq, isL]
  have X3 : RDX σ (aup (aup σ3 55 2 0) 55 3 0) (σ 55 4) := by
    refine RDX_u (RDX_u ⟨k3, ?_, fun a ha => ?_⟩ (by omega)) (by omega)
    · rw [f55 row58 f3, f55 row56 f2, f55 row53 f1]
    · rw [f3 a (by omega) (by omega), f2 a (by omega) (by omega), f1 a (by omega) (by omega)]
  have I3 : RDI σ (aup (aup σ3 55 2 0) 55 3 0) (σ 55 4) [] 0 0 := by
    refine ⟨X3, ?_, ?_, ?_, ?_, aup_s⟩
    · rw [rv55 row53, rv55 row53, FrW_rv f3 row58 row53 (by omega), FrW_rv f2 row56 row53 (by omega), w1]; rfl
    · rw [rv55 row56, rv55 row56, FrW_rv f3 row58 row56 (by omega), w2]; rfl
    · rw [rv55 row58, rv55 row58, w3]; rfl
    · rw [aup_n2 (by omega), aup_s]; rfl
  refine rd26 I3 (by simp) _ (fun σ4 a1 a2 a3 a4 a5 => ?_)
  have I4 : RDI σ σ4 (σ 55 4) rd0 0 0 := ⟨a1, by rw [a2, I3.2.1]; rfl, by rw [a3]; rfl, by rw [a4]; rfl, by rw [a5]; exact I3.2.2.2.2.1, by rw [a5]; exact I3.2.2.2.2.2⟩
  simp (disch := omega) only [s17_0, s17_1, s17_4, s17_5, s17_8, s17_11, s17_12, s17_15, s17_18, s17_19, s17_20, s17_23, s17_24, s17_25, s17_28, s17_29, s17_30, s17_31, s17_34, s17_35, s17_37, s17_38, s17_41, s17_44, s17_45, s17_46, s17_49, s17_50, s17_51, s17_52, s17_55, s17_56, s17_59, s17_61, s17_63, s17_66, s17_68, s17_69, s17_72, s17_75, s17_76, s17_77, s17_80, s17_83, s17_84, s17_87, s17_90, s17_91, s17_94, s17_97, s17_98, s17_99, s17_102, s17_105, s17_106, s17_109, s17_110, s17_111, s17_112, s17_115, s17_116, s17_119, s17_120, List.cons_append, List.nil_append, if_true, if_false, true_and, and_true, and_self, eq_self, true_or, or_true, false_or, or_false, tIn, tLe, fLe, tLt, fLt, tEq, fEq, isL]
  have lp : ∀ (cs : List Int) (p : Nat) (lv : List Lv) (nx : Nat) (pl : Int) (σ5 : aSg) (l4 : AV), T.drop p = cs → p + cs.length = T.length → RIv lv nx → lv.length ≤ p + 1 → rdA cs p lv nx = RR → RDI σ σ5 pl lv nx nx → WP m17 36 [.inr (.inl 55), .inr (.inl 1), .inr (.inl 53), .inl (p : Int), l4] [] σ5 Q := by
    intro cs
    induction cs with
    | nil =>
      intro p lv nx pl σ5 l4 h1 h2 h3 h4 h5 h6
      obtain ⟨b1, b2, b3, b4, b5, b6⟩ := id h6
      have v1 : rv σ5 1 = T := by rw [rv_same (b1.2.2 1 (by omega)) (b1.2.2 2 (by omega))]; exact hv
      simp only [List.length_nil, Nat.add_zero] at h2
      subst h2
      simp only [rdA] at h5
      subst h5
      have k5 : RK (aup σ5 55 4 (T.length : Int)) := RK_aup b1.1 kd55
      have e3 : (aup σ5 55 4 (T.length : Int)) 55 3 = (nx : Int) := by rw [aup_n2 (by omega)]; exact b6
      have e2 : (aup σ5 55 4 (T.length : Int)) 55 2 = (nbr lv : Int) := by rw [aup_n2 (by omega)]; exact b5
      have fr : ∀ a, (a < 53 ∨ 59 < a) → (aup σ5 55 4 (T.length : Int)) a = σ a := fun a ha => by rw [aup_f (by omega)]; exact b1.2.2 a ha
      have X5 : RDX σ (aup σ5 55 4 (T.length : Int)) (T.length : Int) := ⟨k5, aup_s, fr⟩
      obtain ⟨b, s, l, rfl, r1, r2, r3, r4, r5, r6⟩ := h3
      rw [s17_36]
      simp only [rdN, if_true] at hq
      by_cases g1 : nx = 0
      · subst g1
        have e3' : (aup σ5 55 4 (T.length : Int)) 55 3 = 0 := e3
        by_cases g2 : nbr ((b, s) :: l) = 0
        · have e2' : (aup σ5 55 4 (T.length : Int)) 55 2 = 0 := by rw [e2, g2]; rfl
          have J5 : RDI σ (aup σ5 55 4 (T.length : Int)) (T.length : Int) ((b, s) :: l) 0 0 := ⟨X5, by rw [rv55 row53]; exact b2, by rw [rv55 row56]; exact b3, by rw [rv55 row58]; exact b4, e2, e3⟩
          have hc := fun K => c25 (K := K) J5
          by_cases g3 : s = []
          · have he : rdE ((b, s) :: l) 0 = false := by simp [rdE, g3]
            rw [he] at hq
            rw [if_pos g3] at hc
            simp (disch := omega) only [s17_0, s17_1, s17_4, s17_5, s17_8, s17_11, s17_12, s17_15, s17_18, s17_19, s17_20, s17_23, s17_24, s17_25, s17_28, s17_29, s17_30, s17_31, s17_34, s17_35, s17_37, s17_38, s17_41, s17_44, s17_45, s17_46, s17_49, s17_50, s17_51, s17_52, s17_55, s17_56, s17_59, s17_61, s17_63, s17_66, s17_68, s17_69, s17_72, s17_75, s17_76, s17_77, s17_80, s17_83, s17_84, s17_87, s17_90, s17_91, s17_94, s17_97, s17_98, s17_99, s17_102, s17_105, s17_106, s17_109, s17_110, s17_111, s17_112, s17_115, s17_116, s17_119, s17_120, List.cons_append, List.nil_append, if_true, if_false, true_and, and_true, and_self, eq_self, true_or, or_true, false_or, or_false, tIn, tLe, fLe, tLt, fLt, tEq, fEq, isL, row1.1, c28 row1 b1.1, v1, e3', e2', hc]
            exact hq _ k5 fr (fun h => by simp at h) (fun _ => aup_s)
          · have he : rdE ((b, s) :: l) 0 = true := by simp [rdE, g3, g2]
            rw [he] at hq
            rw [if_neg g3] at hc
            simp (disch := omega) only [s17_0, s17_1, s17_4, s17_5, s17_8, s17_11, s17_12, s17_15, s17_18, s17_19, s17_20, s17_23, s17_24, s17_25, s17_28, s17_29, s17_30, s17_31, s17_34, s17_35, s17_37, s17_38, s17_41, s17_44, s17_45, s17_46, s17_49, s17_50, s17_51, s17_52, s17_55, s17_56, s17_59, s17_61, s17_63, s17_66, s17_68, s17_69, s17_72, s17_75, s17_76, s17_77, s17_80, s17_83, s17_84, s17_87, s17_90, s17_91, s17_94, s17_97, s17_98, s17_99, s17_102, s17_105, s17_106, s17_109, s17_110, s17_111, s17_112, s17_115, s17_116, s17_119, s17_120, List.cons_append, List.nil_append, if_true, if_false, true_and, and_true, and_self, eq_self, true_or, or_true, false_or, or_false, tIn, tLe, fLe, tLt, fLt, tEq, fEq, isL, row1.1, c28 row1 b1.1, v1, e3', e2', hc]
            exact hq _ k5 fr (fun _ => by rw [rv55 row53, b2]; simp) (fun h => by simp at h)
        · have he : rdE ((b, s) :: l) 0 = false := by simp [rdE, g2]
          rw [he] at hq
          simp (disch := omega) only [s17_0, s17_1, s17_4, s17_5, s17_8, s17_11, s17_12, s17_15, s17_18, s17_19, s17_20, s17_23, s17_24, s17_25, s17_28, s17_29, s17_30, s17_31, s17_34, s17_35, s17_37, s17_38, s17_41, s17_44, s17_45, s17_46, s17_49, s17_50, s17_51, s17_52, s17_55, s17_56, s17_59, s17_61, s17_63, s17_66, s17_68, s17_69, s17_72, s17_75, s17_76, s17_77, s17_80, s17_83, s17_84, s17_87, s17_90, s17_91, s17_94, s17_97, s17_98, s17_99, s17_102, s17_105, s17_106, s17_109, s17_110, s17_111, s17_112, s17_115, s17_116, s17_119, s17_120, List.cons_append, List.nil_append, if_true, if_false, true_and, and_true, and_self, eq_self, true_or, or_true, false_or, or_false, tIn, tLe, fLe, tLt, fLt, tEq, fEq, isL, row1.1, c28 row1 b1.1, v1, e3', e2]
          exact hq _ k5 fr (fun h => by simp at h) (fun _ => aup_s)
      · have he : rdE ((b, s) :: l) nx = false := by simp [rdE, g1]
        rw [he] at hq
        simp (disch := omega) only [s17_0, s17_1, s17_4, s17_5, s17_8, s17_11, s17_12, s17_15, s17_18, s17_19, s17_20, s17_23, s17_24, s17_25, s17_28, s17_29, s17_30, s17_31, s17_34, s17_35, s17_37, s17_38, s17_41, s17_44, s17_45, s17_46, s17_49, s17_50, s17_51, s17_52, s17_55, s17_56, s17_59, s17_61, s17_63, s17_66, s17_68, s17_69, s17_72, s17_75, s17_76, s17_77, s17_80, s17_83, s17_84, s17_87, s17_90, s17_91, s17_94, s17_97, s17_98, s17_99, s17_102, s17_105, s17_106, s17_109, s17_110, s17_111, s17_112, s17_115, s17_116, s17_119, s17_120, List.cons_append, List.nil_append, if_true, if_false, true_and, and_true, and_self, eq_self, true_or, or_true, false_or, or_false, tIn, tLe, fLe, tLt, fLt, tEq, fEq, isL, row1.1, c28 row1 b1.1, v1, e3]
        exact hq _ k5 fr (fun h => by simp at h) (fun _ => aup_s)
    | cons c cs ih =>
      intro p lv nx pl σ5 l4 h1 h2 h3 h4 h5 h6
      obtain ⟨b1, b2, b3, b4, b5, b6⟩ := id h6
      have v1 : rv σ5 1 = T := by rw [rv_same (b1.2.2 1 (by omega)) (b1.2.2 2 (by omega))]; exact hv
      simp only [List.length_cons] at h2
      obtain ⟨hp, e1, e2⟩ := drop_get h1
      have el := lat_i2 hp
      have k5 : RK (aup σ5 55 4 (p : Int)) := RK_aup b1.1 kd55
      have v1' : rv (aup σ5 55 4 (p : Int)) 1 = T := by rw [rv55 row1]; exact v1
      have J5 : RDI σ (aup σ5 55 4 (p : Int)) (p : Int) lv nx nx := ⟨⟨k5, aup_s, fun a ha => by rw [aup_f (by omega)]; exact b1.2.2 a ha⟩, by rw [rv55 row53]; exact b2, by rw [rv55 row56]; exact b3, by rw [rv55 row58]; exact b4, by rw [aup_n2 (by omega)]; exact b5, by rw [aup_n2 (by omega)]; exact b6⟩
      simp only [rdA] at h5
      rw [s17_36]
      simp (disch := omega) only [s17_0, s17_1, s17_4, s17_5, s17_8, s17_11, s17_12, s17_15, s17_18, s17_19, s17_20, s17_23, s17_24, s17_25, s17_28, s17_29, s17_30, s17_31, s17_34, s17_35, s17_37, s17_38, s17_41, s17_44, s17_45, s17_46, s17_49, s17_50, s17_51, s17_52, s17_55, s17_56, s17_59, s17_61, s17_63, s17_66, s17_68, s17_69, s17_72, s17_75, s17_76, s17_77, s17_80, s17_83, s17_84, s17_87, s17_90, s17_91, s17_94, s17_97, s17_98, s17_99, s17_102, s17_105, s17_106, s17_109, s17_110, s17_111, s17_112, s17_115, s17_116, s17_119, s17_120, List.cons_append, List.nil_append, if_true, if_false, true_and, and_true, and_self, eq_self, true_or, or_true, false_or, or_false, tIn, tLe, fLe, tLt, fLt, tEq, fEq, isL, row1.1, c28 row1 b1.1, v1, c30 row1 k5, v1', el, e1]
      refine rd18 J5 h3 (by omega) _ (fun σ6 g j6 => ?_) (fun σ6 g j6 => ?_)
      · rw [if_pos g] at h5
        obtain ⟨q1, q2⟩ := rdT_ok h3 g
        simp (disch := omega) only [s17_0, s17_1, s17_4, s17_5, s17_8, s17_11, s17_12, s17_15, s17_18, s17_19, s17_20, s17_23, s17_24, s17_25, s17_28, s17_29, s17_30, s17_31, s17_34, s17_35, s17_37, s17_38, s17_41, s17_44, s17_45, s17_46, s17_49, s17_50, s17_51, s17_52, s17_55, s17_56, s17_59, s17_61, s17_63, s17_66, s17_68, s17_69, s17_72, s17_75, s17_76, s17_77, s17_80, s17_83, s17_84, s17_87, s17_90, s17_91, s17_94, s17_97, s17_98, s17_99, s17_102, s17_105, s17_106, s17_109, s17_110, s17_111, s17_112, s17_115, s17_116, s17_119, s17_120, List.cons_append, List.nil_append, if_true, if_false, true_and, and_true, and_self, eq_self, true_or, or_true, false_or, or_false, tIn, tLe, fLe, tLt, fLt, tEq, fEq, isL]
        exact ih (p + 1) _ _ _ σ6 _ e2 (by omega) q1 (by omega) h5 j6
      · rw [if_neg g] at h5
        subst h5
        rcases rdT_num (c := c) h3 with gg | gg | gg
        · exact absurd gg g
        · rw [gg] at hq ⊢
          simp (disch := omega) only [s17_0, s17_1, s17_4, s17_5, s17_8, s17_11, s17_12, s17_15, s17_18, s17_19, s17_20, s17_23, s17_24, s17_25, s17_28, s17_29, s17_30, s17_31, s17_34, s17_35, s17_37, s17_38, s17_41, s17_44, s17_45, s17_46, s17_49, s17_50, s17_51, s17_52, s17_55, s17_56, s17_59, s17_61, s17_63, s17_66, s17_68, s17_69, s17_72, s17_75, s17_76, s17_77, s17_80, s17_83, s17_84, s17_87, s17_90, s17_91, s17_94, s17_97, s17_98, s17_99, s17_102, s17_105, s17_106, s17_109, s17_110, s17_111, s17_112, s17_115, s17_116, s17_119, s17_120, List.cons_append, List.nil_append, if_true, if_false, true_and, and_true, and_self, eq_self, true_or, or_true, false_or, or_false, tIn, tLe, fLe, tLt, fLt, tEq, fEq, isL]
          exact hq σ6 j6.1 j6.2.2 (fun h => by simp [rdN] at h) (fun _ => j6.2.1)
        · rw [gg] at hq ⊢
          simp (disch := omega) only [s17_0, s17_1, s17_4, s17_5, s17_8, s17_11, s17_12, s17_15, s17_18, s17_19, s17_20, s17_23, s17_24, s17_25, s17_28, s17_29, s17_30, s17_31, s17_34, s17_35, s17_37, s17_38, s17_41, s17_44, s17_45, s17_46, s17_49, s17_50, s17_51, s17_52, s17_55, s17_56, s17_59, s17_61, s17_63, s17_66, s17_68, s17_69, s17_72, s17_75, s17_76, s17_77, s17_80, s17_83, s17_84, s17_87, s17_90, s17_91, s17_94, s17_97, s17_98, s17_99, s17_102, s17_105, s17_106, s17_109, s17_110, s17_111, s17_112, s17_115, s17_116, s17_119, s17_120, List.cons_append, List.nil_append, if_true, if_false, true_and, and_true, and_self, eq_self, true_or, or_true, false_or, or_false, tIn, tLe, fLe, tLt, fLt, tEq, fEq, isL]
          exact hq σ6 j6.1 j6.2.2 (fun h => by simp [rdN] at h) (fun _ => j6.2.1)
  exact lp T 0 rd0 0 _ σ4 _ rfl (by simp) RIv_0 (by simp [rd0]) hRR.symm I4
theorem RepC_tf {v : Int} (h : RepC σ S) (hk : RK σ') (h1 : rv σ' 1 = []) (h2 : σ' 0 12 = v) (hv : inI v) (hf : ∀ a, 3 ≤ a → a < 53 → σ' a = σ a) : RepC σ' ([], sv S, v, pa S, im S) := by
  obtain ⟨a1, a2, a3, a4, a5, ⟨g, a6, a7, a8⟩, a9, a10⟩ := h
  obtain ⟨s1, s2, s3, s4, s5, s6, s7⟩ := a2
  have rvk : ∀ r, 3 ≤ r → r + 1 < 53 → rv σ' r = rv σ r := fun r h3 hr => rv_same (hf r h3 (by omega)) (hf (r + 1) (by omega) hr)
  refine ⟨hk, ⟨by simp [tx], fun c hc => by simp [tx] at hc, s3, s4, s5, s6, hv⟩, h1, ?_, h2, ⟨g, a6, a7.keep (hf 31 (by omega) (by omega)), a8.keep a6 s4 (hf 52 (by omega) (by omega)) (fun k hk => rvk _ (by omega) (by omega))⟩, ?_, ?_⟩
  · intro s hs
    rw [rvk _ (by omega) (by omega)]; exact a4 s hs
  · rw [hf 30 (by omega) (by omega)]; exact a9
  · intro i hi
    rw [hf 29 (by omega) (by omega)]
    rcases a10 i hi with h | ⟨f, e1, e2, e3⟩
    · exact Or.inl h
    · refine Or.inr ⟨f, e1, e2, fun s hs => ?_⟩
      rw [rvk _ (by omega) (by omega)]
      exact e3 s hs
theorem kd0 : kdS 0 ≠ 3 := by decide +kernel
theorem k88 (hR : RepC σ S) : CC m88 [.inr (.inl 0), .inl x] σ (f88 S x).1 (f88 S x).2 := by
  unfold CC
  rw [e88]
  unfold f88
  have hk := hR.1
  have htx := hR.2.2.1
  have hSO := hR.2.1
  by_cases hx : 0 ≤ x ∧ x < 4
  · rw [if_neg (fun q => q hx)]
    obtain ⟨p, rfl⟩ := Int.eq_ofNat_of_zero_le hx.1
    have hp : p < 4 := by omega
    simp only [Int.toNat_natCast]
    obtain ⟨q1, q2, q3⟩ := rdA_in (tx S) 0 rd0 0 RIv_0
    obtain ⟨RR, hRR⟩ : ∃ z, z = rdA (tx S) 0 rd0 0 := ⟨_, rfl⟩
    have htl := hSO.1
    have nn : 0 ≤ rdN RR ∧ rdN RR ≤ 2 := by
      rw [← hRR] at q1
      unfold rdN
      split
      · split <;> omega
      · omega
    simp (disch := omega) only [s88_0, s88_1, s88_4, s88_7, s88_9, s88_10, s88_11, s88_14, s88_15, s88_18, s88_19, s88_22, s88_25, s88_26, s88_27, s88_30, s88_33, s88_34, s88_37, s88_38, s88_39, s88_42, s88_45, s88_48, s88_50, s88_51, s88_52, s88_53, s88_54, s88_55, s88_58, s88_59, s88_60, s88_63, List.cons_append, List.nil_append, if_true, if_false, true_and, and_true, and_self, eq_self, true_or, or_true, false_or, or_false, tIn, tLe, fLe, tLt, fLt, tEq, fEq, isL, c113]
    refine rd17 hk htx htl _ (fun σ1 k1 f1 g1 g2 => ?_)
    rw [← hRR] at q1 q2 q3 g1 g2 ⊢
    have t1 : rv σ1 1 = tx S := by rw [rv_same (f1 1 (by omega)) (f1 2 (by omega))]; exact htx
    simp (disch := omega) only [s88_0, s88_1, s88_4, s88_7, s88_9, s88_10, s88_11, s88_14, s88_15, s88_18, s88_19, s88_22, s88_25, s88_26, s88_27, s88_30, s88_33, s88_34, s88_37, s88_38, s88_39, s88_42, s88_45, s88_48, s88_50, s88_51, s88_52, s88_53, s88_54, s88_55, s88_58, s88_59, s88_60, s88_63, List.cons_append, List.nil_append, if_true, if_false, true_and, and_true, and_self, eq_self, true_or, or_true, false_or, or_false, tIn, tLe, fLe, tLt, fLt, tEq, fEq, isL, row1.1]
    refine rclr_ok row1 k1 _ (fun σ2 k2 w2 f2 => ?_)
    have fr2 : ∀ a, 3 ≤ a → a < 53 → σ2 a = σ a := fun a h3 ha => by rw [f2 a (by omega) (by omega), f1 a (by omega)]
    by_cases g : rdN RR = 0
    · rw [if_pos g]
      obtain ⟨R1, hR1⟩ : ∃ z, z = aup σ2 0 12 (-1) := ⟨_, rfl⟩
      have kk : RK (aup σ2 0 12 (-1)) := RK_aup k2 kd0
      have RC : RepC (aup σ2 0 12 (-1)) ([], sv S, -1, pa S, im S) := RepC_tf hR kk (by rw [rv_aup (by omega) (by omega)]; exact w2) aup_s ⟨by decide, by decide⟩ (fun a h3 ha => by rw [aup_f (by omega)]; exact fr2 a h3 ha)
      have v3 : rv (aup σ2 0 12 (-1)) 53 = conc RR.2.2.1 := by
        rw [rv_aup (by omega) (by omega), FrW_rv f2 row1 row53 (by omega)]; exact g1 g
      have e0 : RR.1 = 0 := by
        unfold rdN at g
        split at g
        · assumption
        · exact g
      have eE : rdE RR.2.2.1 RR.2.2.2 = true := by
        unfold rdN at g
        rw [if_pos e0] at g
        split at g
        · assumption
        · omega
      obtain ⟨t1, t2, t3⟩ := rdE_T (q2 e0) eE
      simp (disch := omega) only [s88_0, s88_1, s88_4, s88_7, s88_9, s88_10, s88_11, s88_14, s88_15, s88_18, s88_19, s88_22, s88_25, s88_26, s88_27, s88_30, s88_33, s88_34, s88_37, s88_38, s88_39, s88_42, s88_45, s88_48, s88_50, s88_51, s88_52, s88_53, s88_54, s88_55, s88_58, s88_59, s88_60, s88_63, List.cons_append, List.nil_append, if_true, if_false, true_and, and_true, and_self, eq_self, true_or, or_true, false_or, or_false, tIn, tLe, fLe, tLt, fLt, tEq, fEq, isL, g]
      refine CA_use (change_ok RC hp v3 (fun hl => Or.inr ⟨⟨t1, t2⟩, hl⟩)) (fun v σ' h => ?_)
      obtain ⟨rfl, h2, h3⟩ := h
      simp (disch := omega) only [s88_0, s88_1, s88_4, s88_7, s88_9, s88_10, s88_11, s88_14, s88_15, s88_18, s88_19, s88_22, s88_25, s88_26, s88_27, s88_30, s88_33, s88_34, s88_37, s88_38, s88_39, s88_42, s88_45, s88_48, s88_50, s88_51, s88_52, s88_53, s88_54, s88_55, s88_58, s88_59, s88_60, s88_63, List.cons_append, List.nil_append, if_true, if_false, true_and, and_true, and_self, eq_self, true_or, or_true, false_or, or_false, tIn, tLe, fLe, tLt, fLt, tEq, fEq, isL]
      exact ⟨h2, fun a ha => (h3 a ha).trans (by rw [aup_f (by omega), f2 a (by omega) (by omega), f1 a (by omega)])⟩
    · rw [if_neg g]
      have e5 : σ2 55 4 = (RR.2.1 : Int) := by rw [f2 55 (by omega) (by omega)]; exact g2 g
      have kk : RK (aup σ2 0 12 (RR.2.1 : Int)) := RK_aup k2 kd0
      simp (disch := omega) only [s88_0, s88_1, s88_4, s88_7, s88_9, s88_10, s88_11, s88_14, s88_15, s88_18, s88_19, s88_22, s88_25, s88_26, s88_27, s88_30, s88_33, s88_34, s88_37, s88_38, s88_39, s88_42, s88_45, s88_48, s88_50, s88_51, s88_52, s88_53, s88_54, s88_55, s88_58, s88_59, s88_60, s88_63, List.cons_append, List.nil_append, if_true, if_false, true_and, and_true, and_self, eq_self, true_or, or_true, false_or, or_false, tIn, tLe, fLe, tLt, fLt, tEq, fEq, isL, g, e16, s16_0, s16_1, s16_4, e5]
      refine ⟨RepC_tf hR kk (by rw [rv_aup (by omega) (by omega)]; exact w2) aup_s ⟨by omega, by omega⟩ (fun a h3 ha => by rw [aup_f (by omega)]; exact fr2 a h3 ha), fun a ha => ?_⟩
      rw [aup_f (by omega), f2 a (by omega) (by omega), f1 a (by omega)]
  · rw [if_pos hx]
    simp (disch := omega) only [s88_0, s88_1, s88_4, s88_7, s88_9, s88_10, s88_11, s88_14, s88_15, s88_18, s88_19, s88_22, s88_25, s88_26, s88_27, s88_30, s88_33, s88_34, s88_37, s88_38, s88_39, s88_42, s88_45, s88_48, s88_50, s88_51, s88_52, s88_53, s88_54, s88_55, s88_58, s88_59, s88_60, s88_63, List.cons_append, List.nil_append, if_true, if_false, true_and, and_true, and_self, eq_self, true_or, or_true, false_or, or_false, tIn, tLe, fLe, tLt, fLt, tEq, fEq, isL, c113, hx]
    exact ⟨hR, fun _ _ => rfl⟩
end TRM
