/-! term: the reference, letters -/
section TRS
variable {σ σ0 σ' : aSg} {K : List AV → aSg → Prop} {x y z i n c pl : Int} {S : SS} {T W st F R s : List Int} {r q t j k p nx w : Nat} {b : Bool} {l lv : List Lv}
theorem RMI_pop {v : Int} {u : Lv} (h : RMI σ0 σ ((b, s) :: u :: l) 0) (hv : v = (l.length : Int)) : RMI σ0 (aup σ 130 14 v) ((u.1, u.2 ++ s) :: l) 0 := by
  obtain ⟨h1, h2, h3, h4, h5, h6, h7, h8⟩ := h
  have ec : conc ((u.1, u.2 ++ s) :: l) = conc ((b, s) :: u :: l) := by simp [conc]
  have eb : bdL ((u.1, u.2 ++ s) :: l) = bdL (u :: l) := by cases l <;> rfl
  refine ⟨by rw [aup_n2 (by omega), ec]; exact h1, by rw [aup_f (by omega), ec]; exact h2, by rw [aup_s, hv]; simp, ?_, ?_, by rw [aup_n2 (by omega)]; exact h6, FrG_tr h7 (G_up (by omega)), fun a ha => by rw [aup_f (by omega)]; exact h8 a ha⟩
  · intro k v hk
    rw [aup_n1 (by omega)]
    apply h4 k v
    simp only [stsL, List.reverse_cons] at hk ⊢
    rw [List.getElem?_append_left (List.getElem?_eq_some_iff.mp hk).1]
    exact hk
  · intro k v hk
    rw [aup_n1 (by omega)]
    apply h5 k v
    rw [eb] at hk
    simp only [bdL, List.reverse_cons]
    rw [List.getElem?_append_left (List.getElem?_eq_some_iff.mp hk).1]
    exact hk
theorem stp_spec : ∀ (l : List Lv) (s : List Int) (b : Bool), bot ((b, s) :: l) → conc (stp s b l) = conc ((b, s) :: l) ∧ (stp s b l).length ≤ l.length + 1 ∧ ((clo s b l = none ∧ ∃ b2 s2, stp s b l = [(b2, s2)]) ∨ (∃ s2 y2 l2, stp s b l = (true, s2) :: y2 :: l2 ∧ clo s b l = some ((y2.1, y2.2 ++ s2) :: l2))) := by
  intro l
  induction l with
  | nil => intro s b _; exact ⟨rfl, by simp [stp], Or.inl ⟨rfl, b, s, rfl⟩⟩
  | cons y l ih =>
    intro s b hb
    have b1 : bot ((y.1, y.2 ++ s) :: l) := by
      simp only [bot] at hb
      cases l with
      | nil => exact hb
      | cons z l => exact hb
    cases b with
    | true => exact ⟨by simp [stp], by simp [stp], Or.inr ⟨s, y, l, by simp [stp], by simp [clo]⟩⟩
    | false =>
      obtain ⟨h1, h2, h3⟩ := ih (y.2 ++ s) y.1 b1
      have e1 : stp s false (y :: l) = stp (y.2 ++ s) y.1 l := by simp [stp]
      have e2 : clo s false (y :: l) = clo (y.2 ++ s) y.1 l := by simp [clo]
      rw [e1, e2]
      exact ⟨by rw [h1]; simp [conc], by simp; omega, h3⟩
theorem rm145 (h : RMI σ0 σ ((b, s) :: l) 0) (hl : l.length ≤ 240) {y : Int} (Q : List AV → aSg → Prop) (hq0 : s = [] → Q [.inl 0] σ) (hq1 : s ≠ [] → ∀ σ', RMI σ0 σ' (stp s b l) 0 → WP m145 34 [.inr (.inl 130), .inl y, vU] [] σ' Q) : CA m145 [.inr (.inl 130), .inl y] σ Q := by
  rw [e145]
  have hc := fun K => c142 (K := K) h (by omega)
  have l1 := ln138
  by_cases g : s = []
  · rw [if_pos g] at hc
    simp (disch := omega) only [s145_0, s145_1, s145_4, s145_7, s145_8, s145_10, s145_13, s145_14, s145_17, s145_18, s145_21, s145_22, s145_23, s145_26, s145_27, s145_28, s145_31, s145_34, s145_35, s145_36, s145_39, s145_42, s145_43, s145_46, s145_47, s145_50, s145_51, s145_54, s145_55, s145_56, s145_57, s145_58, s145_61, s145_62, s145_65, s145_66, s145_69, s145_70, s145_73, s145_74, s145_75, s145_78, s145_79, List.cons_append, List.nil_append, if_true, if_false, true_and, and_true, and_self, eq_self, true_or, or_true, false_or, or_false, tIn, tLe, fLe, tLt, fLt, tEq, fEq, isL, hc]
    exact hq0 g
  · rw [if_neg g] at hc
    have hq1' := hq1 g
    simp (disch := omega) only [s145_0, s145_1, s145_4, s145_7, s145_8, s145_10, s145_13, s145_14, s145_17, s145_18, s145_21, s145_22, s145_23, s145_26, s145_27, s145_28, s145_31, s145_34, s145_35, s145_36, s145_39, s145_42, s145_43, s145_46, s145_47, s145_50, s145_51, s145_54, s145_55, s145_56, s145_57, s145_58, s145_61, s145_62, s145_65, s145_66, s145_69, s145_70, s145_73, s145_74, s145_75, s145_78, s145_79, List.cons_append, List.nil_append, if_true, if_false, true_and, and_true, and_self, eq_self, true_or, or_true, false_or, or_false, tIn, tLe, fLe, tLt, fLt, tEq, fEq, isL, hc]
    have lp : ∀ (l : List Lv) (s : List Int) (b : Bool) (σ1 : aSg), l.length ≤ 240 → RMI σ0 σ1 ((b, s) :: l) 0 → (∀ σ', RMI σ0 σ' (stp s b l) 0 → WP m145 34 [.inr (.inl 130), .inl y, vU] [] σ' Q) → WP m145 9 [.inr (.inl 130), .inl y, vU] [] σ1 Q := by
      intro l
      induction l with
      | nil =>
        intro s b σ1 hl1 i1 hh
        have e14 : σ1 130 14 = 0 := by have := i1.2.2.1; simp at this; omega
        have e8 : σ1 138 0 = 0 := i1.2.2.2.2.1 0 0 rfl
        have e0 : ((0 : Int).toNat) = 0 := rfl
        rw [s145_9]
        simp (disch := omega) only [s145_0, s145_1, s145_4, s145_7, s145_8, s145_10, s145_13, s145_14, s145_17, s145_18, s145_21, s145_22, s145_23, s145_26, s145_27, s145_28, s145_31, s145_35, s145_36, s145_39, s145_42, s145_43, s145_46, s145_47, s145_50, s145_51, s145_54, s145_55, s145_56, s145_57, s145_58, s145_61, s145_62, s145_65, s145_66, s145_69, s145_70, s145_73, s145_74, s145_75, s145_78, s145_79, List.cons_append, List.nil_append, if_true, if_false, true_and, and_true, and_self, eq_self, true_or, or_true, false_or, or_false, tIn, tLe, fLe, tLt, fLt, tEq, fEq, isL, e14, kd138, ln138, e0, e8]
        exact hh σ1 i1
      | cons u l ih =>
        intro s b σ1 hl1 i1 hh
        simp only [List.length_cons] at hl1
        have e14 : σ1 130 14 = (l.length : Int) + 1 := by have := i1.2.2.1; simp at this; omega
        have e8 : σ1 138 (l.length + 1) = (if b = true then 0 else 1) := i1.2.2.2.2.1 _ _ (by
          have := rev_top (if b = true then (0 : Int) else 1) (bdL (u :: l))
          rw [bdL_len] at this
          exact this)
        have e0 : ((l.length : Int) + 1).toNat = l.length + 1 := by omega
        rw [s145_9]
        cases b with
        | true =>
          simp only [if_true] at e8
          simp (disch := omega) only [s145_0, s145_1, s145_4, s145_7, s145_8, s145_10, s145_13, s145_14, s145_17, s145_18, s145_21, s145_22, s145_23, s145_26, s145_27, s145_28, s145_31, s145_35, s145_36, s145_39, s145_42, s145_43, s145_46, s145_47, s145_50, s145_51, s145_54, s145_55, s145_56, s145_57, s145_58, s145_61, s145_62, s145_65, s145_66, s145_69, s145_70, s145_73, s145_74, s145_75, s145_78, s145_79, List.cons_append, List.nil_append, if_true, if_false, true_and, and_true, and_self, eq_self, true_or, or_true, false_or, or_false, tIn, tLe, fLe, tLt, fLt, tEq, fEq, isL, e14, kd138, ln138, e0, e8]
          exact hh σ1 (by simpa [stp] using i1)
        | false =>
          simp only [Bool.false_eq_true, if_false] at e8
          simp (disch := omega) only [s145_0, s145_1, s145_4, s145_7, s145_8, s145_10, s145_13, s145_14, s145_17, s145_18, s145_21, s145_22, s145_23, s145_26, s145_27, s145_28, s145_31, s145_35, s145_36, s145_39, s145_42, s145_43, s145_46, s145_47, s145_50, s145_51, s145_54, s145_55, s145_56, s145_57, s145_58, s145_61, s145_62, s145_65, s145_66, s145_69, s145_70, s145_73, s145_74, s145_75, s145_78, s145_79, List.cons_append, List.nil_append, if_true, if_false, true_and, and_true, and_self, eq_self, true_or, or_true, false_or, or_false, tIn, tLe, fLe, tLt, fLt, tEq, fEq, isL, e14, kd138, ln138, e0, e8]
          exact ih (u.2 ++ s) u.1 _ (by omega) (RMI_pop i1 (by omega)) (by simpa [stp] using hh)
    exact lp l s b σ hl h hq1'
theorem rm145t (h : RMI σ0 σ ((b, s) :: l) 0) (hb : bot ((b, s) :: l)) (hl : l.length ≤ 240) (Q : List AV → aSg → Prop) (hq0 : (s = [] ∨ clo s b l = none) → ∀ σ', FrG σ0 σ' → (∀ a, a < 130 → σ' a = σ0 a) → Q [.inl 0] σ') (hq1 : s ≠ [] → ∀ (σ' : aSg) (lv : List Lv), clo s b l = some lv → RMI σ0 σ' lv 0 → Q [.inl 1] σ') : CA m145 [.inr (.inl 130), .inl 1] σ Q := by
  refine rm145 h hl Q (fun g => hq0 (Or.inl g) σ h.2.2.2.2.2.2.1 h.2.2.2.2.2.2.2) (fun g σ1 i1 => ?_)
  obtain ⟨h1, h2, h3⟩ := stp_spec l s b hb
  rcases h3 with ⟨h3, b2, s2, h4⟩ | ⟨s2, y2, l2, h4, h5⟩
  · rw [h4] at i1
    have e14 : σ1 130 14 = 0 := by have := i1.2.2.1; simp at this; omega
    simp (disch := omega) only [s145_0, s145_1, s145_4, s145_7, s145_8, s145_9, s145_10, s145_13, s145_14, s145_17, s145_18, s145_21, s145_22, s145_23, s145_26, s145_27, s145_28, s145_31, s145_34, s145_35, s145_36, s145_39, s145_42, s145_43, s145_46, s145_47, s145_50, s145_51, s145_54, s145_55, s145_56, s145_57, s145_58, s145_61, s145_62, s145_65, s145_66, s145_69, s145_70, s145_73, s145_74, s145_75, s145_78, s145_79, List.cons_append, List.nil_append, if_true, if_false, true_and, and_true, and_self, eq_self, true_or, or_true, false_or, or_false, tIn, tLe, fLe, tLt, fLt, tEq, fEq, isL, e14]
    refine hq0 (Or.inr h3) _ (FrG_tr i1.2.2.2.2.2.2.1 (G_up (by omega))) (fun a ha => ?_)
    rw [aup_f (by omega)]; exact i1.2.2.2.2.2.2.2 a ha
  · rw [h4] at i1 h2
    simp only [List.length_cons] at h2
    have e14 : σ1 130 14 = (l2.length : Int) + 1 := by have := i1.2.2.1; simp at this; omega
    simp (disch := omega) only [s145_0, s145_1, s145_4, s145_7, s145_8, s145_9, s145_10, s145_13, s145_14, s145_17, s145_18, s145_21, s145_22, s145_23, s145_26, s145_27, s145_28, s145_31, s145_34, s145_35, s145_36, s145_39, s145_42, s145_43, s145_46, s145_47, s145_50, s145_51, s145_54, s145_55, s145_56, s145_57, s145_58, s145_61, s145_62, s145_65, s145_66, s145_69, s145_70, s145_73, s145_74, s145_75, s145_78, s145_79, List.cons_append, List.nil_append, if_true, if_false, true_and, and_true, and_self, eq_self, true_or, or_true, false_or, or_false, tIn, tLe, fLe, tLt, fLt, tEq, fEq, isL, e14]
    exact hq1 g _ _ h5 (RMI_pop i1 (by omega))
theorem rm145f (h : RMI σ0 σ ((b, s) :: l) 0) (hb : bot ((b, s) :: l)) (hl : l.length ≤ 240) (Q : List AV → aSg → Prop) (hq0 : (s = [] ∨ nbr ((b, s) :: l) ≠ 0) → ∀ σ', FrG σ0 σ' → (∀ a, a < 130 → σ' a = σ0 a) → Q [.inl 0] σ') (hq1 : s ≠ [] → nbr ((b, s) :: l) = 0 → ∀ σ', tmM σ' (conc ((b, s) :: l)) → FrG σ0 σ' → (∀ a, a < 130 → σ' a = σ0 a) → Q [.inl 1] σ') : CA m145 [.inr (.inl 130), .inl 0] σ Q := by
  refine rm145 h hl Q (fun g => hq0 (Or.inl g) σ h.2.2.2.2.2.2.1 h.2.2.2.2.2.2.2) (fun g σ1 i1 => ?_)
  obtain ⟨h1, h2, h3⟩ := stp_spec l s b hb
  have cn := clo_none l s b hb
  rcases h3 with ⟨h3, b2, s2, h4⟩ | ⟨s2, y2, l2, h4, h5⟩
  · have n0 := cn.mp h3
    have tm : tmM σ1 (conc ((b, s) :: l)) := by
      rw [← h1]
      exact ⟨by have := i1.1; simpa using this, i1.2.1⟩
    rw [h4] at i1
    have e14 : σ1 130 14 = 0 := by have := i1.2.2.1; simp at this; omega
    have e00 : (0 : Int) - 0 = 0 := rfl
    simp (disch := omega) only [s145_0, s145_1, s145_4, s145_7, s145_8, s145_9, s145_10, s145_13, s145_14, s145_17, s145_18, s145_21, s145_22, s145_23, s145_26, s145_27, s145_28, s145_31, s145_34, s145_35, s145_36, s145_39, s145_42, s145_43, s145_46, s145_47, s145_50, s145_51, s145_54, s145_55, s145_56, s145_57, s145_58, s145_61, s145_62, s145_65, s145_66, s145_69, s145_70, s145_73, s145_74, s145_75, s145_78, s145_79, List.cons_append, List.nil_append, if_true, if_false, true_and, and_true, and_self, eq_self, true_or, or_true, false_or, or_false, tIn, tLe, fLe, tLt, fLt, tEq, fEq, isL, e14, e00]
    rw [aup_same e14]
    exact hq1 g n0 σ1 tm i1.2.2.2.2.2.2.1 i1.2.2.2.2.2.2.2
  · rw [h4] at i1 h2
    simp only [List.length_cons] at h2
    have e14 : σ1 130 14 = (l2.length : Int) + 1 := by have := i1.2.2.1; simp at this; omega
    have n0 : nbr ((b, s) :: l) ≠ 0 := fun z => by rw [cn.mpr z] at h5; simp at h5
    simp (disch := omega) only [s145_0, s145_1, s145_4, s145_7, s145_8, s145_9, s145_10, s145_13, s145_14, s145_17, s145_18, s145_21, s145_22, s145_23, s145_26, s145_27, s145_28, s145_31, s145_34, s145_35, s145_36, s145_39, s145_42, s145_43, s145_46, s145_47, s145_50, s145_51, s145_54, s145_55, s145_56, s145_57, s145_58, s145_61, s145_62, s145_65, s145_66, s145_69, s145_70, s145_73, s145_74, s145_75, s145_78, s145_79, List.cons_append, List.nil_append, if_true, if_false, true_and, and_true, and_self, eq_self, true_or, or_true, false_or, or_false, tIn, tLe, fLe, tLt, fLt, tEq, fEq, isL, e14]
    refine hq0 (Or.inr n0) _ (FrG_tr i1.2.2.2.2.2.2.1 (G_up (by omega))) (fun a ha => ?_)
    rw [aup_f (by omega)]; exact i1.2.2.2.2.2.2.2 a ha
theorem rm143 (h : RMI σ0 σ ((b, s) :: l) 0) (hl : l.length ≤ 240) (hn : (conc ((b, s) :: l)).length ≤ 200) (Q : List AV → aSg → Prop) (hq : ∀ σ', RMI σ0 σ' ((b, joi s) :: l) 0 → Q [] σ') : CA m143 [.inr (.inl 130)] σ Q := by
  rw [e143]
  have hc := fun K => c142 (K := K) h (by omega)
  have l0 := ln137
  have l1 := ln134
  obtain ⟨h1, h2, h3, h4, h5, h6, h7, h8⟩ := id h
  by_cases g : s = []
  · rw [if_pos g] at hc
    simp (disch := omega) only [s143_0, s143_1, s143_4, s143_7, s143_8, s143_11, s143_13, s143_14, s143_17, s143_18, s143_21, s143_22, s143_25, s143_26, s143_29, s143_30, s143_31, s143_34, s143_35, s143_36, s143_37, s143_38, s143_39, s143_42, s143_45, s143_46, s143_49, s143_50, s143_53, s143_54, s143_57, s143_58, s143_59, s143_60, s143_61, s143_62, s143_65, s143_66, s143_67, s143_70, List.cons_append, List.nil_append, if_true, if_false, true_and, and_true, and_self, eq_self, true_or, or_true, false_or, or_false, tIn, tLe, fLe, tLt, fLt, tEq, fEq, isL, hc]
    exact hq σ (by rw [show joi s = s by simp [joi, g]]; exact h)
  · rw [if_neg g] at hc
    have sp := List.length_pos_iff.mpr g
    have e14 : σ 130 14 = (l.length : Int) := by simp at h3; omega
    have hb : σ 137 l.length = ((conc l).length : Int) := h4 _ _ (by have := rev_top ((conc l).length : Int) (stsL l); rw [stsL_len] at this; exact this)
    have e7 : σ 130 7 = (((conc l).length + s.length : Nat) : Int) := by rw [h1]; simp [conc]
    simp only [conc, List.length_append] at hn
    simp (disch := omega) only [s143_0, s143_1, s143_4, s143_7, s143_8, s143_11, s143_13, s143_14, s143_17, s143_18, s143_21, s143_22, s143_25, s143_26, s143_29, s143_30, s143_31, s143_34, s143_35, s143_36, s143_37, s143_38, s143_39, s143_42, s143_45, s143_46, s143_49, s143_50, s143_53, s143_54, s143_57, s143_58, s143_59, s143_60, s143_61, s143_62, s143_65, s143_66, s143_67, s143_70, List.cons_append, List.nil_append, if_true, if_false, true_and, and_true, and_self, eq_self, true_or, or_true, false_or, or_false, tIn, tLe, fLe, tLt, fLt, tEq, fEq, isL, hc, e7]
    have lp : ∀ (m k : Nat), (conc l).length + m = k → k ≤ (conc l).length + s.length → WP m143 12 [.inr (.inl 130), .inl (k : Int)] [] (aupA σ 134 (fun i => if k < i ∧ i ≤ (conc l).length + s.length then σ 134 (i - 1) else σ 134 i)) Q := by
      intro m
      induction m with
      | zero =>
        intro k hk hk2
        have : k = (conc l).length := by omega
        subst this
        have e14' : (aupA σ 134 (fun i => if (conc l).length < i ∧ i ≤ (conc l).length + s.length then σ 134 (i - 1) else σ 134 i)) 130 14 = (l.length : Int) := by rw [upA_n (by omega)]; exact e14
        have hb' : (aupA σ 134 (fun i => if (conc l).length < i ∧ i ≤ (conc l).length + s.length then σ 134 (i - 1) else σ 134 i)) 137 l.length = ((conc l).length : Int) := by rw [upA_n (by omega)]; exact hb
        have e7' : (aup (aupA σ 134 (fun i => if (conc l).length < i ∧ i ≤ (conc l).length + s.length then σ 134 (i - 1) else σ 134 i)) 134 (conc l).length 0) 130 7 = (((conc l).length + s.length : Nat) : Int) := by rw [aup_n1 (by omega), upA_n (by omega)]; exact e7
        rw [s143_12]
        simp (disch := omega) only [s143_0, s143_1, s143_4, s143_7, s143_8, s143_11, s143_13, s143_14, s143_17, s143_18, s143_21, s143_22, s143_25, s143_26, s143_29, s143_30, s143_31, s143_34, s143_35, s143_36, s143_37, s143_38, s143_39, s143_42, s143_45, s143_46, s143_49, s143_50, s143_53, s143_54, s143_57, s143_58, s143_59, s143_60, s143_61, s143_62, s143_65, s143_66, s143_67, s143_70, List.cons_append, List.nil_append, if_true, if_false, true_and, and_true, and_self, eq_self, true_or, or_true, false_or, or_false, tIn, tLe, fLe, tLt, fLt, tEq, fEq, isL, e14', kd137, ln137, Int.toNat_natCast, hb', kd134, ln134, e7']
        refine hq _ ⟨?_, ?_, ?_, ?_, ?_, ?_, ?_, ?_⟩
        · rw [aup_s]; simp [conc, joi, g]; omega
        · intro k c hk3
          rw [aup_n1 (by omega), aup_upA, upA_s]
          simp only [conc, joi, if_neg g] at hk3 h2
          by_cases q1 : k < (conc l).length
          · rw [if_neg (by omega), if_neg (by omega)]
            apply h2
            rw [List.getElem?_append_left q1] at hk3 ⊢
            exact hk3
          · rw [List.getElem?_append_right (by omega)] at hk3
            by_cases q2 : k = (conc l).length
            · rw [if_pos q2]
              rw [q2] at hk3
              simp at hk3
              rw [← hk3]; rfl
            · rw [if_neg q2]
              have q3 : k - (conc l).length = (k - 1 - (conc l).length) + 1 := by omega
              rw [q3, List.getElem?_cons_succ] at hk3
              have q4 := (List.getElem?_eq_some_iff.mp hk3).1
              rw [if_pos (by omega)]
              apply h2
              rw [List.getElem?_append_right (by omega)]
              exact hk3
        · rw [aup_n2 (by omega), aup_n1 (by omega), upA_n (by omega)]; exact h3
        · intro k v hv
          rw [aup_n1 (by omega), aup_n1 (by omega), upA_n (by omega)]; exact h4 k v hv
        · intro k v hv
          rw [aup_n1 (by omega), aup_n1 (by omega), upA_n (by omega)]
          apply h5 k v
          have : bdL ((b, joi s) :: l) = bdL ((b, s) :: l) := by cases l <;> rfl
          rw [← this]; exact hv
        · rw [aup_n2 (by omega), aup_n1 (by omega), upA_n (by omega)]; exact h6
        · refine FrG_tr h7 (FrG_tr (σ1 := aupA σ 134 (fun i => if (conc l).length < i ∧ i ≤ (conc l).length + s.length then σ 134 (i - 1) else σ 134 i)) ⟨fun a h1 h2 => ?_, upA_n (by omega), upA_n (by omega), upA_n (by omega)⟩ (FrG_tr (G_ua (by omega)) (G_up (by omega))))
          unfold aupA
          funext i
          rw [if_neg (by omega)]
        · intro a ha
          rw [aup_f (by omega), aup_f (by omega)]
          have : (aupA σ 134 (fun i => if (conc l).length < i ∧ i ≤ (conc l).length + s.length then σ 134 (i - 1) else σ 134 i)) a = σ a := by
            unfold aupA
            funext i
            rw [if_neg (by omega)]
          rw [this]; exact h8 a ha
      | succ m ih =>
        intro k hk hk2
        have e14' : (aupA σ 134 (fun i => if k < i ∧ i ≤ (conc l).length + s.length then σ 134 (i - 1) else σ 134 i)) 130 14 = (l.length : Int) := by rw [upA_n (by omega)]; exact e14
        have hb' : (aupA σ 134 (fun i => if k < i ∧ i ≤ (conc l).length + s.length then σ 134 (i - 1) else σ 134 i)) 137 l.length = ((conc l).length : Int) := by rw [upA_n (by omega)]; exact hb
        have ek : (k : Int) - 1 = ((k - 1 : Nat) : Int) := by omega
        have ek2 : (k : Int) + -1 = ((k - 1 : Nat) : Int) := by omega
        have ev : (aupA σ 134 (fun i => if k < i ∧ i ≤ (conc l).length + s.length then σ 134 (i - 1) else σ 134 i)) 134 (k - 1) = σ 134 (k - 1) := by rw [upA_s, if_neg (by omega)]
        have ef : (fun i => if i = k then σ 134 (k - 1) else if k < i ∧ i ≤ (conc l).length + s.length then σ 134 (i - 1) else σ 134 i) = (fun i => if k - 1 < i ∧ i ≤ (conc l).length + s.length then σ 134 (i - 1) else σ 134 i) := by
          funext i
          by_cases q : i = k
          · rw [if_pos q, if_pos (by omega), q]
          · rw [if_neg q]
            by_cases q2 : k < i ∧ i ≤ (conc l).length + s.length
            · rw [if_pos q2, if_pos (by omega)]
            · rw [if_neg q2, if_neg (by omega)]
        rw [s143_12]
        simp (disch := omega) only [s143_0, s143_1, s143_4, s143_7, s143_8, s143_11, s143_13, s143_14, s143_17, s143_18, s143_21, s143_22, s143_25, s143_26, s143_29, s143_30, s143_31, s143_34, s143_35, s143_36, s143_37, s143_38, s143_39, s143_42, s143_45, s143_46, s143_49, s143_50, s143_53, s143_54, s143_57, s143_58, s143_59, s143_60, s143_61, s143_62, s143_65, s143_66, s143_67, s143_70, List.cons_append, List.nil_append, if_true, if_false, true_and, and_true, and_self, eq_self, true_or, or_true, false_or, or_false, tIn, tLe, fLe, tLt, fLt, tEq, fEq, isL, e14', kd137, ln137, Int.toNat_natCast, hb', kd134, ln134, ek, ev, aup_upA, ef, ek2]
        exact ih (k - 1) (by omega) (by omega)
    have := lp s.length ((conc l).length + s.length) (by omega) (by omega)
    rw [show (fun i => if (conc l).length + s.length < i ∧ i ≤ (conc l).length + s.length then σ 134 (i - 1) else σ 134 i) = σ 134 from by funext i; rw [if_neg (by omega)], upA_id] at this
    exact this
end TRS
