/-! Reader: the component's side -/
def RDX (σ0 σ : aSg) (pl : Int) : Prop := RK σ ∧ σ 55 4 = pl ∧ ∀ a, (a < 53 ∨ 59 < a) → σ a = σ0 a
def RDI (σ0 σ : aSg) (pl : Int) (lv : List Lv) (nx w : Nat) : Prop := RDX σ0 σ pl ∧ rv σ 53 = conc lv ++ (if nx = 1 then [1000] else []) ∧ rv σ 56 = (stsL lv).reverse ∧ rv σ 58 = (brL lv).reverse ∧ σ 55 2 = (nbr lv : Int) ∧ σ 55 3 = (w : Int)
section RDC
variable {σ σ0 σ' : aSg} {K : List AV → aSg → Prop} {x y z i n c pl : Int} {S : SS} {T W st F R s : List Int} {r q t j k p nx w : Nat} {b : Bool} {l lv : List Lv}
theorem kd55 : kdS 55 ≠ 3 := by decide +kernel
theorem row_ne55 (h : isRow r) : r ≠ 55 ∧ r + 1 ≠ 55 := by
  constructor
  · intro e; exact kd55 (by rw [← e]; exact row_kd h)
  · intro e
    have h1 := h.2.2.1
    rw [e] at h1
    exact absurd h1 (by decide +kernel)
theorem RDX_w (h : RDX σ0 σ pl) (hr : isRow r) (hr2 : 53 ≤ r ∧ r ≤ 58) (hk : RK σ') (hf : FrW r σ σ') : RDX σ0 σ' pl := ⟨hk, by rw [hf 55 (fun e => (row_ne55 hr).1 e.symm) (fun e => (row_ne55 hr).2 e.symm)]; exact h.2.1, fun a ha => (hf a (by omega) (by omega)).trans (h.2.2 a ha)⟩
theorem f55 (hr : isRow r) (hf : FrW r σ σ') : σ' 55 = σ 55 := hf 55 (fun e => (row_ne55 hr).1 e.symm) (fun e => (row_ne55 hr).2 e.symm)
theorem RDX_u {v : Int} (h : RDX σ0 σ pl) (hj : j ≠ 4) : RDX σ0 (aup σ 55 j v) pl := ⟨RK_aup h.1 kd55, by rw [aup_n2 (fun e => hj e.symm)]; exact h.2.1, fun a ha => by rw [aup_f (by omega)]; exact h.2.2 a ha⟩
theorem rv55 {v : Int} (h : isRow r) : rv (aup σ 55 j v) r = rv σ r := rv_aup (row_ne55 h).1 (row_ne55 h).2
theorem stsL_len : ∀ l : List Lv, (stsL l).length = l.length := by
  intro l; induction l with
  | nil => rfl
  | cons x l ih => simp [stsL, ih]
theorem brL_len : ∀ l : List Lv, (brL l).length = l.length := by
  intro l; induction l with
  | nil => rfl
  | cons x l ih => simp [brL, ih]
theorem rd26 (h : RDI σ0 σ pl lv nx w) (hl : lv.length < 241) {x y : Int} (Q : List AV → aSg → Prop) (hq : ∀ σ', RDX σ0 σ' pl → rv σ' 53 = rv σ 53 → rv σ' 56 = (x :: stsL lv).reverse → rv σ' 58 = (y :: brL lv).reverse → σ' 55 = σ 55 → Q [] σ') : CA m26 [.inr (.inl 55), .inl x, .inl y] σ Q := by
  rw [e26]
  obtain ⟨h1, h2, h3, h4, h5, h6⟩ := h
  have c6 := cp56
  have c8 := cp58
  have n1 := stsL_len lv
  have n2 := brL_len lv
  simp (disch := omega) only [s26_0, s26_1, s26_4, s26_5, s26_8, s26_9, s26_12, s26_13, s26_16, List.cons_append, List.nil_append, if_true, if_false, true_and, and_true, and_self, eq_self, true_or, or_true, false_or, or_false, tIn, tLe, fLe, tLt, fLt, tEq, fEq, isL, row56.1, row58.1]
  refine radd_ok row56 h1.1 h3 (by simp; omega) _ (fun σ1 k1 w1 f1 => ?_)
  have i1 := RDX_w h1 row56 (by omega) k1 f1
  have v8 : rv σ1 58 = (brL lv).reverse := (FrW_rv f1 row56 row58 (by omega)).trans h4
  simp (disch := omega) only [s26_0, s26_1, s26_4, s26_5, s26_8, s26_9, s26_12, s26_13, s26_16, List.cons_append, List.nil_append, if_true, if_false, true_and, and_true, and_self, eq_self, true_or, or_true, false_or, or_false, tIn, tLe, fLe, tLt, fLt, tEq, fEq, isL, row56.1, row58.1]
  refine radd_ok row58 k1 v8 (by simp; omega) _ (fun σ2 k2 w2 f2 => ?_)
  simp (disch := omega) only [s26_0, s26_1, s26_4, s26_5, s26_8, s26_9, s26_12, s26_13, s26_16, List.cons_append, List.nil_append, if_true, if_false, true_and, and_true, and_self, eq_self, true_or, or_true, false_or, or_false, tIn, tLe, fLe, tLt, fLt, tEq, fEq, isL]
  exact hq σ2 (RDX_w i1 row58 (by omega) k2 f2) (by rw [FrW_rv f2 row58 row53 (by omega), FrW_rv f1 row56 row53 (by omega)]) (by rw [FrW_rv f2 row58 row56 (by omega), w1]; simp) (by rw [w2]; simp) (by rw [f55 row58 f2, f55 row56 f1])
theorem c25 (h : RDI σ0 σ pl ((b, s) :: l) 0 w) : CA m25 [.inr (.inl 55), .inr (.inl 53)] σ K = K [.inl (if s = [] then 0 else 1)] σ := by
  rw [e25]
  obtain ⟨h1, h2, h3, h4, h5, h6⟩ := h
  have v3 : rv σ 53 = conc l ++ s := by rw [h2]; simp [conc]
  have v6 : rv σ 56 = (stsL l).reverse ++ [((conc l).length : Int)] := by rw [h3]; simp [stsL]
  have hle := rv_le h1.1 row53
  rw [v3, List.length_append, cp53] at hle
  by_cases g : s = []
  · subst g
    rw [if_pos rfl]
    rw [List.append_nil] at v3
    simp (disch := omega) only [s25_0, s25_1, s25_4, s25_5, s25_8, s25_11, s25_14, s25_15, s25_18, s25_19, List.cons_append, List.nil_append, if_true, if_false, true_and, and_true, and_self, eq_self, true_or, or_true, false_or, or_false, tIn, tLe, fLe, tLt, fLt, tEq, fEq, isL, row53.1, row56.1, c28 row53 h1.1, c32 row56 h1.1, v3, v6, llast_app]
  · rw [if_neg g]
    have := List.length_pos_iff.mpr g
    simp (disch := omega) only [s25_0, s25_1, s25_4, s25_5, s25_8, s25_11, s25_14, s25_15, s25_18, s25_19, List.cons_append, List.nil_append, if_true, if_false, true_and, and_true, and_self, eq_self, true_or, or_true, false_or, or_false, tIn, tLe, fLe, tLt, fLt, tEq, fEq, isL, row53.1, row56.1, c28 row53 h1.1, c32 row56 h1.1, v3, v6, llast_app, List.length_append]
theorem rd24 (h : RDI σ0 σ pl ((b, s) :: l) 0 w) (hl : (conc ((b, s) :: l)).length ≤ 120) {m : Nat} (hm : m ≤ 1) (Q : List AV → aSg → Prop) (hq0 : 120 < (conc ((b, s) :: l)).length + m + mor s → Q [.inl 0] σ) (hq1 : ¬ 120 < (conc ((b, s) :: l)).length + m + mor s → ∀ σ', RDI σ0 σ' pl ((b, joi s) :: l) 0 w → Q [.inl 1] σ') : CA m24 [.inr (.inl 55), .inl (m : Int), .inr (.inl 53)] σ Q := by
  rw [e24]
  obtain ⟨h1, h2, h3, h4, h5, h6⟩ := id h
  have v3 : rv σ 53 = conc l ++ s := by rw [h2]; simp [conc]
  have v6 : rv σ 56 = (stsL l).reverse ++ [((conc l).length : Int)] := by rw [h3]; simp [stsL]
  simp only [conc, List.length_append] at hl hq0 hq1
  unfold mor joi at *
  by_cases g : s = []
  · subst g
    simp only [if_true] at hq0 hq1
    rw [List.append_nil] at v3
    simp only [List.length_nil] at *
    by_cases g2 : 120 < (conc l).length + m
    · simp (disch := omega) only [s24_0, s24_1, s24_2, s24_5, s24_6, s24_7, s24_10, s24_11, s24_12, s24_13, s24_16, s24_17, s24_20, s24_21, s24_22, s24_24, s24_26, s24_28, s24_31, s24_32, s24_33, s24_34, s24_37, s24_38, s24_39, s24_42, s24_45, s24_46, s24_49, s24_50, List.cons_append, List.nil_append, if_true, if_false, true_and, and_true, and_self, eq_self, true_or, or_true, false_or, or_false, tIn, tLe, fLe, tLt, fLt, tEq, fEq, isL, row53.1, row56.1, c25 h, c28 row53 h1.1, v3]
      exact hq0 (by omega)
    · simp (disch := omega) only [s24_0, s24_1, s24_2, s24_5, s24_6, s24_7, s24_10, s24_11, s24_12, s24_13, s24_16, s24_17, s24_20, s24_21, s24_22, s24_24, s24_26, s24_28, s24_31, s24_32, s24_33, s24_34, s24_37, s24_38, s24_39, s24_42, s24_45, s24_46, s24_49, s24_50, List.cons_append, List.nil_append, if_true, if_false, true_and, and_true, and_self, eq_self, true_or, or_true, false_or, or_false, tIn, tLe, fLe, tLt, fLt, tEq, fEq, isL, row53.1, row56.1, c25 h, c28 row53 h1.1, v3]
      exact hq1 (by omega) σ h
  · have := List.length_pos_iff.mpr g
    simp only [if_neg g] at hq0 hq1
    by_cases g2 : 120 < (conc l).length + s.length + m + 1
    · simp (disch := omega) only [s24_0, s24_1, s24_2, s24_5, s24_6, s24_7, s24_10, s24_11, s24_12, s24_13, s24_16, s24_17, s24_20, s24_21, s24_22, s24_24, s24_26, s24_28, s24_31, s24_32, s24_33, s24_34, s24_37, s24_38, s24_39, s24_42, s24_45, s24_46, s24_49, s24_50, List.cons_append, List.nil_append, if_true, if_false, true_and, and_true, and_self, eq_self, true_or, or_true, false_or, or_false, tIn, tLe, fLe, tLt, fLt, tEq, fEq, isL, row53.1, row56.1, c25 h, g, c28 row53 h1.1, v3, List.length_append]
      exact hq0 (by omega)
    · have ei : lins (cp 53) (conc l ++ s) ((conc l).length : Int) 1 = conc l ++ (1 :: s) := by
        unfold lins
        rw [cp53, if_pos (by rw [List.length_append]; omega), Int.toNat_natCast, List.take_left, List.drop_left]
      have kk : RK (rs σ 53 (conc l ++ (1 :: s))) := RK_rs h1.1 row53 (by rw [cp53]; simp; omega)
      have ff : FrW 53 σ (rs σ 53 (conc l ++ (1 :: s))) := fun a h1 h2 => rs_at h1 h2
      simp (disch := omega) only [s24_0, s24_1, s24_2, s24_5, s24_6, s24_7, s24_10, s24_11, s24_12, s24_13, s24_16, s24_17, s24_20, s24_21, s24_22, s24_24, s24_26, s24_28, s24_31, s24_32, s24_33, s24_34, s24_37, s24_38, s24_39, s24_42, s24_45, s24_46, s24_49, s24_50, List.cons_append, List.nil_append, if_true, if_false, true_and, and_true, and_self, eq_self, true_or, or_true, false_or, or_false, tIn, tLe, fLe, tLt, fLt, tEq, fEq, isL, row53.1, row56.1, c25 h, g, c28 row53 h1.1, v3, List.length_append, c32 row56 h1.1, v6, llast_app, c36 row53 h1.1, ei]
      refine hq1 (by omega) _ ⟨RDX_w h1 row53 (by omega) kk ff, by rw [rv_rs]; simp [conc], ?_, ?_, ?_, ?_⟩
      · rw [FrW_rv ff row53 row56 (by omega), h3]; rfl
      · rw [FrW_rv ff row53 row58 (by omega), h4]; rfl
      · rw [f55 row53 ff, h5]; rfl
      · rw [f55 row53 ff, h6]
theorem rd23 (h : RDI σ0 σ pl ((b, s) :: l) 0 w) (hl : (conc ((b, s) :: l)).length ≤ 120) (Q : List AV → aSg → Prop) (hq0 : 120 < (conc ((b, s) :: l)).length + 1 + mor s → Q [.inl 2] σ) (hq1 : ¬ 120 < (conc ((b, s) :: l)).length + 1 + mor s → ∀ σ', RDX σ0 σ' pl → rv σ' 53 = conc ((b, joi s) :: l) ++ [c] → rv σ' 56 = (stsL ((b, joi s) :: l)).reverse → rv σ' 58 = (brL ((b, joi s) :: l)).reverse → σ' 55 2 = (nbr ((b, joi s) :: l) : Int) → σ' 55 3 = (w : Int) → Q [.inl 0] σ') : CA m23 [.inr (.inl 55), .inl c, .inr (.inl 53)] σ Q := by
  rw [e23]
  simp (disch := omega) only [s23_0, s23_1, s23_2, s23_3, s23_6, s23_9, s23_10, s23_11, s23_12, s23_13, s23_16, s23_17, List.cons_append, List.nil_append, if_true, if_false, true_and, and_true, and_self, eq_self, true_or, or_true, false_or, or_false, tIn, tLe, fLe, tLt, fLt, tEq, fEq, isL]
  refine rd24 (m := 1) h hl (by omega) _ (fun g => ?_) (fun g σ1 h1 => ?_)
  · simp (disch := omega) only [s23_0, s23_1, s23_2, s23_3, s23_6, s23_9, s23_10, s23_11, s23_12, s23_13, s23_16, s23_17, List.cons_append, List.nil_append, if_true, if_false, true_and, and_true, and_self, eq_self, true_or, or_true, false_or, or_false, tIn, tLe, fLe, tLt, fLt, tEq, fEq, isL]
    exact hq0 g
  · obtain ⟨a1, a2, a3, a4, a5, a6⟩ := h1
    have hle : (conc ((b, joi s) :: l)).length ≤ 120 := by
      simp only [conc, List.length_append, joi_len] at g ⊢; omega
    simp (disch := omega) only [s23_0, s23_1, s23_2, s23_3, s23_6, s23_9, s23_10, s23_11, s23_12, s23_13, s23_16, s23_17, List.cons_append, List.nil_append, if_true, if_false, true_and, and_true, and_self, eq_self, true_or, or_true, false_or, or_false, tIn, tLe, fLe, tLt, fLt, tEq, fEq, isL, row53.1]
    refine radd_ok row53 a1.1 a2 (by rw [cp53]; simp; omega) _ (fun σ2 k2 w2 f2 => ?_)
    simp (disch := omega) only [s23_0, s23_1, s23_2, s23_3, s23_6, s23_9, s23_10, s23_11, s23_12, s23_13, s23_16, s23_17, List.cons_append, List.nil_append, if_true, if_false, true_and, and_true, and_self, eq_self, true_or, or_true, false_or, or_false, tIn, tLe, fLe, tLt, fLt, tEq, fEq, isL]
    exact hq1 g σ2 (RDX_w a1 row53 (by omega) k2 f2) (by rw [w2]; simp) (by rw [FrW_rv f2 row53 row56 (by omega)]; exact a3) (by rw [FrW_rv f2 row53 row58 (by omega)]; exact a4) (by rw [f55 row53 f2]; exact a5) (by rw [f55 row53 f2]; exact a6)
theorem rd22 (h : RDI σ0 σ pl ((b, s) :: l) 0 0) (hb : bot ((b, s) :: l)) (hlen : l.length ≤ 1000) (Q : List AV → aSg → Prop) (hq0 : (s = [] ∨ clo s b l = none) → Q [.inl 1] σ) (hq1 : ∀ (σ' : aSg) (lv : List Lv), s ≠ [] → clo s b l = some lv → RDI σ0 σ' pl lv 0 0 → Q [.inl 0] σ') : CA m22 [.inr (.inl 55), .inr (.inl 53)] σ Q := by
  rw [e22]
  obtain ⟨h1, h2, h3, h4, h5, h6⟩ := id h
  have cn := clo_none l s b hb
  have nle : ∀ l : List Lv, nbr l ≤ l.length := by
    intro l; induction l with
    | nil => simp [nbr]
    | cons x l ih => simp only [nbr, List.length_cons]; split <;> omega
  have nl := nle ((b, s) :: l)
  simp only [List.length_cons] at nl
  by_cases g0 : nbr ((b, s) :: l) = 0
  · rw [g0] at h5
    have h5' : σ 55 2 = 0 := h5
    simp (disch := omega) only [s22_0, s22_1, s22_4, s22_7, s22_8, s22_9, s22_12, s22_15, s22_16, s22_17, s22_18, s22_19, s22_22, s22_23, s22_24, s22_27, s22_28, s22_31, s22_34, s22_36, s22_39, s22_40, s22_43, s22_46, s22_47, s22_48, s22_51, s22_54, s22_55, s22_58, s22_59, s22_60, s22_63, s22_66, s22_67, List.cons_append, List.nil_append, if_true, if_false, true_and, and_true, and_self, eq_self, true_or, or_true, false_or, or_false, tIn, tLe, fLe, tLt, fLt, tEq, fEq, isL, h5']
    exact hq0 (Or.inr (cn.mpr g0))
  by_cases g1 : s = []
  · have hp : 0 < nbr ((b, s) :: l) := by omega
    have hc := fun K => c25 (K := K) h
    rw [if_pos g1] at hc
    simp (disch := omega) only [s22_0, s22_1, s22_4, s22_7, s22_8, s22_9, s22_12, s22_15, s22_16, s22_17, s22_18, s22_19, s22_22, s22_23, s22_24, s22_27, s22_28, s22_31, s22_34, s22_36, s22_39, s22_40, s22_43, s22_46, s22_47, s22_48, s22_51, s22_54, s22_55, s22_58, s22_59, s22_60, s22_63, s22_66, s22_67, List.cons_append, List.nil_append, if_true, if_false, true_and, and_true, and_self, eq_self, true_or, or_true, false_or, or_false, tIn, tLe, fLe, tLt, fLt, tEq, fEq, isL, h5, hc]
    exact hq0 (Or.inl g1)
  have hp : 0 < nbr ((b, s) :: l) := by omega
  have hc := fun K => c25 (K := K) h
  rw [if_neg g1] at hc
  have hcl : ((stsL ((b, s) :: l)).reverse.length : Int) = (l.length : Int) + 1 := by simp [stsL_len]
  have k2 : RK (aup σ 55 2 ((nbr ((b, s) :: l) : Int) - 1)) := RK_aup h1.1 kd55
  have r6 : rv (aup σ 55 2 ((nbr ((b, s) :: l) : Int) - 1)) 56 = (stsL ((b, s) :: l)).reverse := (rv55 row56).trans h3
  simp (disch := omega) only [s22_0, s22_1, s22_4, s22_7, s22_8, s22_9, s22_12, s22_15, s22_16, s22_17, s22_18, s22_19, s22_22, s22_23, s22_24, s22_27, s22_28, s22_31, s22_34, s22_36, s22_39, s22_40, s22_43, s22_46, s22_47, s22_48, s22_51, s22_54, s22_55, s22_58, s22_59, s22_60, s22_63, s22_66, s22_67, List.cons_append, List.nil_append, if_true, if_false, true_and, and_true, and_self, eq_self, true_or, or_true, false_or, or_false, tIn, tLe, fLe, tLt, fLt, tEq, fEq, isL, h5, hc, row56.1, c28 row56 k2, r6, hcl]
  have lp : ∀ (l : List Lv) (s : List Int) (b : Bool) (σ1 : aSg), bot ((b, s) :: l) → nbr ((b, s) :: l) ≠ 0 → l.length ≤ 1000 → RDX σ0 σ1 pl → rv σ1 53 = conc ((b, s) :: l) → rv σ1 56 = (stsL ((b, s) :: l)).reverse → rv σ1 58 = (brL ((b, s) :: l)).reverse → σ1 55 2 = (nbr ((b, s) :: l) : Int) - 1 → σ1 55 3 = 0 → (∀ (σ' : aSg) (lv : List Lv), clo s b l = some lv → RDI σ0 σ' pl lv 0 0 → Q [.inl 0] σ') → WP m22 35 [.inr (.inl 55), .inr (.inl 53), .inl ((l.length : Int) + 1)] [] σ1 Q := by
    intro l
    induction l with
    | nil =>
      intro s b σ1 b1 b2
      simp only [bot] at b1
      simp [nbr, b1] at b2
    | cons y l ih =>
      intro s b σ1 b1 b2 b3 j1 j2 j3 j4 j5 j6 j7
      have e6 : (stsL ((b, s) :: y :: l)).reverse = (stsL (y :: l)).reverse ++ [((conc (y :: l)).length : Int)] := by simp [stsL]
      have e8 : (brL ((b, s) :: y :: l)).reverse = (brL (y :: l)).reverse ++ [if b = true then 1 else 0] := by simp [brL]
      have bb : bot ((y.1, y.2 ++ s) :: l) := by
        simp only [bot] at b1
        cases l with
        | nil => exact b1
        | cons z l => exact b1
      have ec : conc ((b, s) :: y :: l) = conc ((y.1, y.2 ++ s) :: l) := by simp [conc]
      simp only [List.length_cons] at b3
      rw [s22_35]
      simp (disch := omega) only [s22_0, s22_1, s22_4, s22_7, s22_8, s22_9, s22_12, s22_15, s22_16, s22_17, s22_18, s22_19, s22_22, s22_23, s22_24, s22_27, s22_28, s22_31, s22_34, s22_36, s22_39, s22_40, s22_43, s22_46, s22_47, s22_48, s22_51, s22_54, s22_55, s22_58, s22_59, s22_60, s22_63, s22_66, s22_67, List.cons_append, List.nil_append, if_true, if_false, true_and, and_true, and_self, eq_self, true_or, or_true, false_or, or_false, tIn, tLe, fLe, tLt, fLt, tEq, fEq, isL, row56.1]
      refine rpop_ok row56 j1.1 (j3.trans e6) _ (fun σ2 k2 w2 f2 => ?_)
      have i2 := RDX_w j1 row56 (by omega) k2 f2
      have v8 : rv σ2 58 = (brL ((b, s) :: y :: l)).reverse := (FrW_rv f2 row56 row58 (by omega)).trans j4
      simp (disch := omega) only [s22_0, s22_1, s22_4, s22_7, s22_8, s22_9, s22_12, s22_15, s22_16, s22_17, s22_18, s22_19, s22_22, s22_23, s22_24, s22_27, s22_28, s22_31, s22_34, s22_36, s22_39, s22_40, s22_43, s22_46, s22_47, s22_48, s22_51, s22_54, s22_55, s22_58, s22_59, s22_60, s22_63, s22_66, s22_67, List.cons_append, List.nil_append, if_true, if_false, true_and, and_true, and_self, eq_self, true_or, or_true, false_or, or_false, tIn, tLe, fLe, tLt, fLt, tEq, fEq, isL, row58.1]
      refine rpop_ok row58 k2 (v8.trans e8) _ (fun σ3 k3 w3 f3 => ?_)
      have i3 := RDX_w i2 row58 (by omega) k3 f3
      have v3 : rv σ3 53 = conc ((y.1, y.2 ++ s) :: l) := by rw [FrW_rv f3 row58 row53 (by omega), FrW_rv f2 row56 row53 (by omega), j2, ec]
      have v6 : rv σ3 56 = (stsL ((y.1, y.2 ++ s) :: l)).reverse := by rw [FrW_rv f3 row58 row56 (by omega), w2]; rfl
      have u8 : rv σ3 58 = (brL ((y.1, y.2 ++ s) :: l)).reverse := by rw [w3]; rfl
      have e55 : σ3 55 = σ1 55 := by rw [f55 row58 f3, f55 row56 f2]
      cases b with
      | true =>
        simp only [if_true]
        simp (disch := omega) only [s22_0, s22_1, s22_4, s22_7, s22_8, s22_9, s22_12, s22_15, s22_16, s22_17, s22_18, s22_19, s22_22, s22_23, s22_24, s22_27, s22_28, s22_31, s22_34, s22_36, s22_39, s22_40, s22_43, s22_46, s22_47, s22_48, s22_51, s22_54, s22_55, s22_58, s22_59, s22_60, s22_63, s22_66, s22_67, List.cons_append, List.nil_append, if_true, if_false, true_and, and_true, and_self, eq_self, true_or, or_true, false_or, or_false, tIn, tLe, fLe, tLt, fLt, tEq, fEq, isL]
        refine j7 σ3 ((y.1, y.2 ++ s) :: l) (by simp [clo]) ⟨i3, by rw [v3]; simp, v6, u8, ?_, ?_⟩
        · rw [e55, j5]; simp [nbr]; omega
        · rw [e55, j6]; rfl
      | false =>
        simp only [Bool.false_eq_true, if_false]
        simp (disch := omega) only [s22_0, s22_1, s22_4, s22_7, s22_8, s22_9, s22_12, s22_15, s22_16, s22_17, s22_18, s22_19, s22_22, s22_23, s22_24, s22_27, s22_28, s22_31, s22_34, s22_36, s22_39, s22_40, s22_43, s22_46, s22_47, s22_48, s22_51, s22_54, s22_55, s22_58, s22_59, s22_60, s22_63, s22_66, s22_67, List.cons_append, List.nil_append, if_true, if_false, true_and, and_true, and_self, eq_self, true_or, or_true, false_or, or_false, tIn, tLe, fLe, tLt, fLt, tEq, fEq, isL, List.length_cons, Int.natCast_add, Int.natCast_one]
        have e1 : (l.length : Int) + 1 + 1 + -1 = (l.length : Int) + 1 := by omega
        rw [e1]
        refine ih (y.2 ++ s) y.1 σ3 bb (by simpa [nbr] using b2) (by omega) i3 v3 v6 u8 ?_ ?_ (fun σ' lv h => j7 σ' lv (by simpa [clo] using h))
        · rw [e55, j5]; simp [nbr]
        · rw [e55, j6]
  exact lp l s b _ hb g0 hlen (RDX_u h1 (by omega)) (by rw [rv55 row53, h2]; simp) r6 ((rv55 row58).trans h4) aup_s (by rw [aup_n2 (by omega)]; exact h6) (fun σ' lv => hq1 σ' lv g1)
end RDC
