/-! things: load, the component's loop -/
def lab (p : Nat) : Tm → Lt
  | .num _ => .leaf p
  | .add a b => .branch p (lab (p + 1) a) (lab (p + 1 + (fl a).length) b)
  | _ => .leaf p
def rk0 (T : List Int) (p : Nat) : Nat := te T p - p
section SHR
variable {σ σ0 σ' : aSg} {K : List AV → aSg → Prop} {x y z c : Int} {T W st F I L R C s : List Int} {r q t i j k p h m w : Nat} {G G' : Gr} {ρ : Nat → Nat} {v : Int × Nat × Nat} {X : Gr}
theorem gr0_len : (gr0 T).length = T.length := by simp [gr0]
theorem gr0_at (h : i < T.length) : cl (gr0 T) i = T[i] ∧ lf (gr0 T) i = i + 1 ∧ rt (gr0 T) i = te T (i + 1) := by
  have e : (gr0 T).getD i (0, 0, 0) = (T[i], i + 1, te T (i + 1)) := by
    unfold gr0
    rw [List.getD_eq_getElem?_getD, List.getElem?_map, List.getElem?_range h]
    simp [h]
  unfold cl lf rt
  rw [e]
  exact ⟨rfl, rfl, rfl⟩
theorem gr0_W (hT : isT T) (hk : tks T) (hn : nbA T) : WG (gr0 T) (rk0 T) ∧ nlk (gr0 T) (gr0 T).length = 0 := by
  have c2 : ∀ i, i < T.length → ¬ cl (gr0 T) i = 2 := by
    intro i hi
    rw [(gr0_at hi).1]
    have := hk _ (List.getElem_mem hi)
    unfold tok at this
    omega
  constructor
  · intro i hi
    rw [gr0_len] at hi ⊢
    obtain ⟨e1, e2, e3⟩ := gr0_at hi
    have tk := hk _ (List.getElem_mem hi)
    have nb := hn _ (List.getElem_mem hi)
    rw [e1, e2, e3]
    by_cases g : T[i] = 1
    · obtain ⟨g1, g2, g3⟩ := te_2 hT (List.getElem?_eq_getElem hi) (by rw [g]; rfl)
      have t1 := te_gt hT g1
      have t2 := te_gt hT g2
      exact Or.inl ⟨g, g1, g2, by unfold rk0; omega, by unfold rk0; omega⟩
    · exact Or.inr (Or.inr ⟨tk, arT_0 g nb⟩)
  · have : ∀ n, n ≤ T.length → nlk (gr0 T) n = 0 := by
      intro n
      induction n with
      | zero => intro _; rfl
      | succ n ih =>
        intro h
        simp only [nlk]
        rw [if_neg (c2 n (by omega)), ih (by omega)]
    rw [gr0_len]
    exact this _ (Nat.le_refl _)
theorem lab_ok : ∀ (u : Tm), wt u → ∀ p, AtT T p u → isT T → tks T → nbA T → Ul (gr0 T) p (lab p u) ∧ fi (lab p u) = List.range' p (fl u).length := by
  have re : ∀ p, p < T.length → tks T → Rl (gr0 T) p p := by
    intro p hp hk
    apply Rl_self
    rw [(gr0_at hp).1]
    have := hk _ (List.getElem_mem hp)
    unfold tok at this
    omega
  apply wt_ind
  · intro c hc p A hT hk hn
    obtain ⟨g1, g2⟩ := At_num A
    obtain ⟨hp, g3⟩ := List.getElem?_eq_some_iff.mp g1
    refine ⟨⟨re p hp hk, ?_⟩, by simp [lab, fi, fl, List.range']⟩
    rw [(gr0_at hp).1, g3]
    exact (arT_0' g2).1
  · intro a b wa wb iha ihb p A hT hk hn
    obtain ⟨g1, A1, A2, e1⟩ := At_add A
    obtain ⟨hp, g3⟩ := List.getElem?_eq_some_iff.mp g1
    obtain ⟨q1, q2, q3⟩ := gr0_at hp
    obtain ⟨u1, u2⟩ := iha _ A1 hT hk hn
    obtain ⟨v1, v2⟩ := ihb _ A2 hT hk hn
    rw [e1] at v1 v2
    refine ⟨⟨re p hp hk, by rw [q1]; exact g3, by rw [q2]; exact u1, by rw [q3, e1]; exact v1⟩, ?_⟩
    simp only [lab, fi, fl, List.length_cons, List.length_append]
    rw [u2, v2, show (fl a).length + (fl b).length + 1 = 1 + ((fl a).length + (fl b).length) by omega, ← List.range'_append_1, ← List.range'_append_1]
    rfl
  · intro c a hc wa _ p A hT hk hn
    obtain ⟨g1, g2, -⟩ := At_mul A
    exact absurd (arT_1' g2) (hn c (List.mem_of_getElem? g1))
theorem gr0_id (hT : isT T) (hk : tks T) (hn : nbA T) : idG (gr0 T) = List.range T.length ∧ fG (gr0 T) = T := by
  obtain ⟨u, A⟩ := At_ex hT (isT_pos hT)
  obtain ⟨u1, u2⟩ := lab_ok u A.1 0 A hT hk hn
  have hl : (fl u).length = T.length := by
    have := At_te A
    rw [te_all hT] at this
    omega
  have e1 : ufd (gr0 T) = lab 0 u := Ul_un _ _ 0 (ufd_ok (gr0_W hT hk hn).1 (by rw [gr0_len]; exact isT_pos hT)) u1
  have e2 : idG (gr0 T) = List.range T.length := by
    unfold idG
    rw [e1, u2, hl, List.range_eq_range']
  refine ⟨e2, ?_⟩
  unfold fG
  rw [e2]
  apply List.ext_getElem?
  intro i
  rw [List.getElem?_map]
  by_cases hi : i < T.length
  · rw [List.getElem?_range hi, List.getElem?_eq_getElem hi]
    simp [(gr0_at hi).1]
  · rw [List.getElem?_eq_none (by simpa using hi), List.getElem?_eq_none (by omega)]; rfl
theorem wr80 (ht : isRow t) (ht2 : t < 53) (hk : RK σ) (hv : rv σ t = T) (hF : rv σ 78 = F) (hT : isT T) (hkT : tks T) (hn : nbA T) (hl : T.length ≤ 120) (hf0 : ∀ a, (a < 77 ∨ 97 < a) → σ a = σ0 a) (Q : List AV → aSg → Prop) (hq : ∀ (σ' : aSg) (st : List Int), TGI σ0 σ' (gr0 T) (rk0 T) F st ((List.range T.length).map (fun d : Nat => (d : Int))) → Q [] σ') : CA m80 [.inr (.inl 82), .inr (.inl t)] σ Q := by
  rw [e80]
  have c9 := cp89
  have k0 : RK (rs σ (93 + 1) (endsT T)) := RK_rs hk row94 (by rw [endsT_len, cp94]; exact hl)
  have f0 : FrW 94 σ (rs σ (93 + 1) (endsT T)) := fun a h1 h2 => rs_at h1 h2
  have x0 : rv (rs σ (93 + 1) (endsT T)) 94 = endsT T := rv_rs
  simp (disch := omega) only [s80_0, s80_1, s80_4, s80_5, s80_8, s80_9, s80_12, s80_15, s80_16, s80_19, s80_22, s80_23, s80_26, s80_29, s80_30, s80_33, s80_36, s80_37, s80_39, s80_40, s80_43, s80_46, s80_47, s80_48, s80_49, s80_52, s80_53, s80_54, s80_55, s80_56, s80_59, s80_60, s80_61, s80_62, s80_65, s80_68, s80_69, s80_70, s80_73, s80_74, s80_77, s80_80, s80_83, List.cons_append, List.nil_append, if_true, if_false, true_and, and_true, and_self, eq_self, true_or, or_true, false_or, or_false, tIn, tLe, fLe, tLt, fLt, tEq, fEq, isL, oS93, c67 sp93 ht (show t ≠ 93 + 1 by omega) hk hv hT (show T.length ≤ cp (93 + 1) by rw [cp94]; exact hl), row83.1, row85.1, row87.1, row89.1]
  refine rclr_ok row83 k0 _ (fun σ1 k1 w1 f1 => ?_)
  simp (disch := omega) only [s80_0, s80_1, s80_4, s80_5, s80_8, s80_9, s80_12, s80_15, s80_16, s80_19, s80_22, s80_23, s80_26, s80_29, s80_30, s80_33, s80_36, s80_37, s80_39, s80_40, s80_43, s80_46, s80_47, s80_48, s80_49, s80_52, s80_53, s80_54, s80_55, s80_56, s80_59, s80_60, s80_61, s80_62, s80_65, s80_68, s80_69, s80_70, s80_73, s80_74, s80_77, s80_80, s80_83, List.cons_append, List.nil_append, if_true, if_false, true_and, and_true, and_self, eq_self, true_or, or_true, false_or, or_false, tIn, tLe, fLe, tLt, fLt, tEq, fEq, isL, row83.1, row85.1, row87.1, row89.1]
  refine rclr_ok row85 k1 _ (fun σ2 k2 w2 f2 => ?_)
  simp (disch := omega) only [s80_0, s80_1, s80_4, s80_5, s80_8, s80_9, s80_12, s80_15, s80_16, s80_19, s80_22, s80_23, s80_26, s80_29, s80_30, s80_33, s80_36, s80_37, s80_39, s80_40, s80_43, s80_46, s80_47, s80_48, s80_49, s80_52, s80_53, s80_54, s80_55, s80_56, s80_59, s80_60, s80_61, s80_62, s80_65, s80_68, s80_69, s80_70, s80_73, s80_74, s80_77, s80_80, s80_83, List.cons_append, List.nil_append, if_true, if_false, true_and, and_true, and_self, eq_self, true_or, or_true, false_or, or_false, tIn, tLe, fLe, tLt, fLt, tEq, fEq, isL, row83.1, row85.1, row87.1, row89.1]
  refine rclr_ok row87 k2 _ (fun σ3 k3 w3 f3 => ?_)
  simp (disch := omega) only [s80_0, s80_1, s80_4, s80_5, s80_8, s80_9, s80_12, s80_15, s80_16, s80_19, s80_22, s80_23, s80_26, s80_29, s80_30, s80_33, s80_36, s80_37, s80_39, s80_40, s80_43, s80_46, s80_47, s80_48, s80_49, s80_52, s80_53, s80_54, s80_55, s80_56, s80_59, s80_60, s80_61, s80_62, s80_65, s80_68, s80_69, s80_70, s80_73, s80_74, s80_77, s80_80, s80_83, List.cons_append, List.nil_append, if_true, if_false, true_and, and_true, and_self, eq_self, true_or, or_true, false_or, or_false, tIn, tLe, fLe, tLt, fLt, tEq, fEq, isL, row83.1, row85.1, row87.1, row89.1]
  refine rclr_ok row89 k3 _ (fun σ4 k4 w4 f4 => ?_)
  simp (disch := omega) only [s80_0, s80_1, s80_4, s80_5, s80_8, s80_9, s80_12, s80_15, s80_16, s80_19, s80_22, s80_23, s80_26, s80_29, s80_30, s80_33, s80_36, s80_37, s80_39, s80_40, s80_43, s80_46, s80_47, s80_48, s80_49, s80_52, s80_53, s80_54, s80_55, s80_56, s80_59, s80_60, s80_61, s80_62, s80_65, s80_68, s80_69, s80_70, s80_73, s80_74, s80_77, s80_80, s80_83, List.cons_append, List.nil_append, if_true, if_false, true_and, and_true, and_self, eq_self, true_or, or_true, false_or, or_false, tIn, tLe, fLe, tLt, fLt, tEq, fEq, isL]
  have st4 : ∀ a, a ≠ 94 → a ≠ 95 → (a < 83 ∨ 90 < a) → σ4 a = σ a := fun a h1 h2 h3 => by
    rw [f4 a (by omega) (by omega), f3 a (by omega) (by omega), f2 a (by omega) (by omega), f1 a (by omega) (by omega), f0 a (by omega) (by omega)]
  have g94 : rv σ4 94 = endsT T := by
    rw [FrW_rv f4 row89 row94 (by omega), FrW_rv f3 row87 row94 (by omega), FrW_rv f2 row85 row94 (by omega), FrW_rv f1 row83 row94 (by omega)]; exact x0
  have lp : ∀ (m k : Nat) (σ5 : aSg), k + m = T.length → RK σ5 → rv σ5 83 = T.take k → rv σ5 85 = (List.range k).map (fun p : Nat => ((p + 1 : Nat) : Int)) → rv σ5 87 = (List.range k).map (fun p : Nat => lat (endsT T) ((p + 1 : Nat) : Int)) → rv σ5 89 = (List.range k).map (fun d : Nat => (d : Int)) → rv σ5 94 = endsT T → (∀ a, a ≠ 94 → a ≠ 95 → (a < 83 ∨ 90 < a) → σ5 a = σ a) → WP m80 38 [.inr (.inl 82), .inr (.inl t), .inl (k : Int)] [] σ5 Q := by
    intro m
    induction m with
    | zero =>
      intro k σ5 h1 h2 h3 h4 h5 h6 h7 h8
      have : k = T.length := by omega
      subst this
      have vt : rv σ5 t = T := by rw [rv_same (h8 t (by omega) (by omega) (by omega)) (h8 (t + 1) (by omega) (by omega) (by omega))]; exact hv
      rw [s80_38]
      simp (disch := omega) only [s80_0, s80_1, s80_4, s80_5, s80_8, s80_9, s80_12, s80_15, s80_16, s80_19, s80_22, s80_23, s80_26, s80_29, s80_30, s80_33, s80_36, s80_37, s80_39, s80_40, s80_43, s80_46, s80_47, s80_48, s80_49, s80_52, s80_53, s80_54, s80_55, s80_56, s80_59, s80_60, s80_61, s80_62, s80_65, s80_68, s80_69, s80_70, s80_73, s80_74, s80_77, s80_80, s80_83, List.cons_append, List.nil_append, if_true, if_false, true_and, and_true, and_self, eq_self, true_or, or_true, false_or, or_false, tIn, tLe, fLe, tLt, fLt, tEq, fEq, isL, ht.1, c28 ht h2, vt]
      refine hq σ5 (rv σ5 91).reverse ⟨h2, ?_, ⟨?_, ?_, fun i hi hc => ?_, fun i hi hc => ?_⟩, ?_, by simp, h6, fun a ha => ?_⟩
      · rw [h3, List.take_of_length_le (by omega)]
        apply List.ext_getElem?
        intro i
        rw [List.getElem?_map]
        by_cases hi : i < T.length
        · unfold gr0
          rw [List.getElem?_map, List.getElem?_range hi, List.getElem?_eq_getElem hi]
          simp [hi]
        · rw [List.getElem?_eq_none (by omega), List.getElem?_eq_none (by rw [gr0_len]; omega)]; rfl
      · rw [h4, gr0_len]; simp
      · rw [h5, gr0_len]; simp
      · rw [gr0_len] at hi
        obtain ⟨e1, e2, e3⟩ := gr0_at hi
        rw [e1] at hc
        obtain ⟨g1, g2, g3⟩ := te_2 hT (List.getElem?_eq_getElem hi) (by rw [hc]; rfl)
        rw [h4, h5, e2, e3, lat_i2 (by simpa using hi), lat_i2 (by simpa using hi)]
        refine ⟨by simp, ?_⟩
        simp only [List.getElem_map, List.getElem_range]
        exact endsT_at g1
      · rw [gr0_len] at hi
        rw [(gr0_at hi).1] at hc
        have := hkT _ (List.getElem_mem hi)
        unfold tok at this
        omega
      · rw [rv_same (h8 78 (by omega) (by omega) (by omega)) (h8 79 (by omega) (by omega) (by omega))]; exact hF
      · rw [h8 a (by omega) (by omega) (by omega)]; exact hf0 a ha
    | succ m ih =>
      intro k σ5 h1 h2 h3 h4 h5 h6 h7 h8
      have hkl : k < T.length := by omega
      have vt : rv σ5 t = T := by rw [rv_same (h8 t (by omega) (by omega) (by omega)) (h8 (t + 1) (by omega) (by omega) (by omega))]; exact hv
      have el := lat_i2 hkl
      have ek : (k : Int) + 1 = ((k + 1 : Nat) : Int) := by omega
      have rg : List.range (k + 1) = List.range k ++ [k] := List.range_succ
      have eb : (endsT T).length = T.length := endsT_len T
      rw [s80_38]
      simp (disch := omega) only [s80_0, s80_1, s80_4, s80_5, s80_8, s80_9, s80_12, s80_15, s80_16, s80_19, s80_22, s80_23, s80_26, s80_29, s80_30, s80_33, s80_36, s80_37, s80_39, s80_40, s80_43, s80_46, s80_47, s80_48, s80_49, s80_52, s80_53, s80_54, s80_55, s80_56, s80_59, s80_60, s80_61, s80_62, s80_65, s80_68, s80_69, s80_70, s80_73, s80_74, s80_77, s80_80, s80_83, List.cons_append, List.nil_append, if_true, if_false, true_and, and_true, and_self, eq_self, true_or, or_true, false_or, or_false, tIn, tLe, fLe, tLt, fLt, tEq, fEq, isL, ht.1, c28 ht h2, vt, c30 ht h2, el, ek, oS93, c68 sp93 h2, h7]
      refine wr82 h2 h3 h4 h5 (by rw [List.length_take]; omega) (by simp; omega) (by simp; omega) _ (fun σ6 k6 u3 u5 u7 f6 => ?_)
      have u9 : rv σ6 89 = (List.range k).map (fun d : Nat => (d : Int)) := by rw [rv_same (f6 89 (by omega)) (f6 90 (by omega))]; exact h6
      simp (disch := omega) only [s80_0, s80_1, s80_4, s80_5, s80_8, s80_9, s80_12, s80_15, s80_16, s80_19, s80_22, s80_23, s80_26, s80_29, s80_30, s80_33, s80_36, s80_37, s80_39, s80_40, s80_43, s80_46, s80_47, s80_48, s80_49, s80_52, s80_53, s80_54, s80_55, s80_56, s80_59, s80_60, s80_61, s80_62, s80_65, s80_68, s80_69, s80_70, s80_73, s80_74, s80_77, s80_80, s80_83, List.cons_append, List.nil_append, if_true, if_false, true_and, and_true, and_self, eq_self, true_or, or_true, false_or, or_false, tIn, tLe, fLe, tLt, fLt, tEq, fEq, isL, row89.1]
      refine radd_ok row89 k6 u9 (by simp; omega) _ (fun σ7 k7 w7 f7 => ?_)
      simp (disch := omega) only [s80_0, s80_1, s80_4, s80_5, s80_8, s80_9, s80_12, s80_15, s80_16, s80_19, s80_22, s80_23, s80_26, s80_29, s80_30, s80_33, s80_36, s80_37, s80_39, s80_40, s80_43, s80_46, s80_47, s80_48, s80_49, s80_52, s80_53, s80_54, s80_55, s80_56, s80_59, s80_60, s80_61, s80_62, s80_65, s80_68, s80_69, s80_70, s80_73, s80_74, s80_77, s80_80, s80_83, List.cons_append, List.nil_append, if_true, if_false, true_and, and_true, and_self, eq_self, true_or, or_true, false_or, or_false, tIn, tLe, fLe, tLt, fLt, tEq, fEq, isL]
      refine ih (k + 1) σ7 (by omega) k7 ?_ ?_ ?_ ?_ ?_ (fun a q1 q2 q3 => ?_)
      · rw [FrW_rv f7 row89 row83 (by omega), u3, take_1 hkl]
      · rw [FrW_rv f7 row89 row85 (by omega), u5, rg]; simp
      · rw [FrW_rv f7 row89 row87 (by omega), u7, rg]; simp
      · rw [w7, rg]; simp
      · rw [FrW_rv f7 row89 row94 (by omega), rv_same (f6 94 (by omega)) (f6 95 (by omega))]; exact h7
      · rw [f7 a (by omega) (by omega), f6 a (by omega)]; exact h8 a q1 q2 q3
  refine lp T.length 0 σ4 (by omega) k4 ?_ ?_ ?_ w4 g94 st4
  · rw [FrW_rv f4 row89 row83 (by omega), FrW_rv f3 row87 row83 (by omega), FrW_rv f2 row85 row83 (by omega)]; exact w1
  · rw [FrW_rv f4 row89 row85 (by omega), FrW_rv f3 row87 row85 (by omega)]; exact w2
  · rw [FrW_rv f4 row89 row87 (by omega)]; exact w3
theorem wr1s (ht : isRow t) (ht2 : t < 53) (hk : RK σ) (hv : rv σ t = T) (hT : isT T) (hkT : tks T) (hn : nbA T) (hl : T.length ≤ 120) {n : Nat} (hn2 : n ≤ 200) (Q : List AV → aSg → Prop) (hq : ∀ σ', RK σ' → rv σ' 78 = (wkS n (gr0 T)).2 → (∀ a, (a < 77 ∨ 97 < a) → σ' a = σ a) → Q [.inl ((wkS n (gr0 T)).1 : Int)] σ') : CA m1 [.inr (.inl 77), .inr (.inl t), .inl 1, .inl (n : Int)] σ Q := by
  rw [e1]
  have oS82 : isO 82 8 := isO_dec (by decide +kernel)
  simp (disch := omega) only [s1_0, s1_1, s1_4, s1_5, s1_8, s1_9, s1_12, s1_13, s1_16, s1_17, s1_20, s1_21, s1_25, s1_26, s1_29, s1_30, s1_33, s1_35, s1_37, s1_38, s1_41, s1_42, s1_45, s1_48, s1_50, s1_51, s1_52, s1_55, s1_56, s1_59, s1_61, s1_62, s1_65, s1_68, s1_71, s1_72, s1_74, s1_77, s1_80, s1_83, s1_84, List.cons_append, List.nil_append, if_true, if_false, true_and, and_true, and_self, eq_self, true_or, or_true, false_or, or_false, tIn, tLe, fLe, tLt, fLt, tEq, fEq, isL, row78.1, ht.1]
  refine rbec_ok row78 ht (by omega) hk hv (by rw [cp78]; omega) _ (fun σ1 k1 w1 f1 => ?_)
  have v1 : rv σ1 t = T := (FrW_rv f1 row78 ht (by omega)).trans hv
  simp (disch := omega) only [s1_0, s1_1, s1_4, s1_5, s1_8, s1_9, s1_12, s1_13, s1_16, s1_17, s1_20, s1_21, s1_25, s1_26, s1_29, s1_30, s1_33, s1_35, s1_37, s1_38, s1_41, s1_42, s1_45, s1_48, s1_50, s1_51, s1_52, s1_55, s1_56, s1_59, s1_61, s1_62, s1_65, s1_68, s1_71, s1_72, s1_74, s1_77, s1_80, s1_83, s1_84, List.cons_append, List.nil_append, if_true, if_false, true_and, and_true, and_self, eq_self, true_or, or_true, false_or, or_false, tIn, tLe, fLe, tLt, fLt, tEq, fEq, isL, oS82]
  obtain ⟨e1, e2⟩ := gr0_id hT hkT hn
  obtain ⟨W0, N0⟩ := gr0_W hT hkT hn
  refine wr80 (σ0 := σ) ht ht2 k1 v1 w1 hT hkT hn hl (fun a ha => f1 a (by omega) (by omega)) _ (fun σ2 st2 i2 => ?_)
  simp (disch := omega) only [s1_0, s1_1, s1_4, s1_5, s1_8, s1_9, s1_12, s1_13, s1_16, s1_17, s1_20, s1_21, s1_25, s1_26, s1_29, s1_30, s1_33, s1_35, s1_37, s1_38, s1_41, s1_42, s1_45, s1_48, s1_50, s1_51, s1_52, s1_55, s1_56, s1_59, s1_61, s1_62, s1_65, s1_68, s1_71, s1_72, s1_74, s1_77, s1_80, s1_83, s1_84, List.cons_append, List.nil_append, if_true, if_false, true_and, and_true, and_self, eq_self, true_or, or_true, false_or, or_false, tIn, tLe, fLe, tLt, fLt, tEq, fEq, isL]
  have lp : ∀ (m k : Nat) (G : Gr) (ρ : Nat → Nat) (st : List Int) (σ3 : aSg) (l5 : AV), k + m = n → WG G ρ → 0 < G.length → nlk G G.length ≤ k → G.length ≤ 120 + 2 * k → TGI σ σ3 G ρ ((fG G).take 301) st (((idG G).take 301).map (fun d : Nat => (d : Int))) → k + (wkS m G).1 = (wkS n (gr0 T)).1 → (wkS m G).2 = (wkS n (gr0 T)).2 → WP m1 23 [.inr (.inl 77), .inr (.inl t), .inl 1, .inl (n : Int), .inl (k : Int), l5] [] σ3 Q := by
    intro m
    induction m with
    | zero =>
      intro k G ρ st σ3 l5 h1 h2 h3 h4 h5 h6 h9 h10
      have : k = n := by omega
      subst this
      simp only [wkS, Nat.add_zero] at h9 h10
      rw [s1_23]
      simp (disch := omega) only [s1_0, s1_1, s1_4, s1_5, s1_8, s1_9, s1_12, s1_13, s1_16, s1_17, s1_20, s1_21, s1_25, s1_26, s1_29, s1_30, s1_33, s1_35, s1_37, s1_38, s1_41, s1_42, s1_45, s1_48, s1_50, s1_51, s1_52, s1_55, s1_56, s1_59, s1_61, s1_62, s1_65, s1_68, s1_71, s1_72, s1_74, s1_77, s1_80, s1_83, s1_84, List.cons_append, List.nil_append, if_true, if_false, true_and, and_true, and_self, eq_self, true_or, or_true, false_or, or_false, tIn, tLe, fLe, tLt, fLt, tEq, fEq, isL]
      rw [h9]
      exact hq σ3 h6.1 (by rw [h6.2.2.2.1, h10]) h6.2.2.2.2.2.2
    | succ m ih =>
      intro k G ρ st σ3 l5 h1 h2 h3 h4 h5 h6 h9 h10
      obtain ⟨b1, b2, b3, b4, b5, b6, b7⟩ := id h6
      simp only [wkS] at h9 h10
      rw [s1_23]
      by_cases g1 : 300 < (fG G).length
      · rw [if_pos g1] at h9 h10
        simp only [Nat.add_zero] at h9 h10
        have gl : 300 < (rv σ3 78).length := by rw [b4, List.length_take]; omega
        have fin := hq σ3 b1 (by rw [b4, h10]) b7
        rw [← h9] at fin
        cases hs : scn ((fG G).take 301) 0 0 with
        | none =>
          have eo : oNat (scn ((fG G).take 301) 0 0) = -1 := by rw [hs]; rfl
          simp (disch := omega) only [s1_0, s1_1, s1_4, s1_5, s1_8, s1_9, s1_12, s1_13, s1_16, s1_17, s1_20, s1_21, s1_25, s1_26, s1_29, s1_30, s1_33, s1_35, s1_37, s1_38, s1_41, s1_42, s1_45, s1_48, s1_50, s1_51, s1_52, s1_55, s1_56, s1_59, s1_61, s1_62, s1_65, s1_68, s1_71, s1_72, s1_74, s1_77, s1_80, s1_83, s1_84, List.cons_append, List.nil_append, if_true, if_false, true_and, and_true, and_self, eq_self, true_or, or_true, false_or, or_false, tIn, tLe, fLe, tLt, fLt, tEq, fEq, isL, c5 b1 b4, eo]
          exact fin
        | some hh =>
          have eo : oNat (scn ((fG G).take 301) 0 0) = (hh : Int) := by rw [hs]; rfl
          simp (disch := omega) only [s1_0, s1_1, s1_4, s1_5, s1_8, s1_9, s1_12, s1_13, s1_16, s1_17, s1_20, s1_21, s1_25, s1_26, s1_29, s1_30, s1_33, s1_35, s1_37, s1_38, s1_41, s1_42, s1_45, s1_48, s1_50, s1_51, s1_52, s1_55, s1_56, s1_59, s1_61, s1_62, s1_65, s1_68, s1_71, s1_72, s1_74, s1_77, s1_80, s1_83, s1_84, List.cons_append, List.nil_append, if_true, if_false, true_and, and_true, and_self, eq_self, true_or, or_true, false_or, or_false, tIn, tLe, fLe, tLt, fLt, tEq, fEq, isL, c5 b1 b4, eo, c3 b1, gl]
          exact fin
      · rw [if_neg g1] at h9 h10
        have et : (fG G).take 301 = fG G := List.take_of_length_le (by omega)
        have hil : (idG G).length ≤ 300 := by
          have : (fG G).length = (idG G).length := by simp [fG]
          omega
        have ei : (idG G).take 301 = idG G := List.take_of_length_le (by omega)
        rw [et] at b4
        have gl : ¬ 300 < (rv σ3 78).length := by rw [b4]; omega
        cases hs : scn (fG G) 0 0 with
        | none =>
          rw [hs] at h9 h10
          simp only [Nat.add_zero] at h9 h10
          have eo : oNat (scn (fG G) 0 0) = -1 := by rw [hs]; rfl
          have fin := hq σ3 b1 (by rw [b4, ← h10, et]) b7
          rw [← h9] at fin
          simp (disch := omega) only [s1_0, s1_1, s1_4, s1_5, s1_8, s1_9, s1_12, s1_13, s1_16, s1_17, s1_20, s1_21, s1_25, s1_26, s1_29, s1_30, s1_33, s1_35, s1_37, s1_38, s1_41, s1_42, s1_45, s1_48, s1_50, s1_51, s1_52, s1_55, s1_56, s1_59, s1_61, s1_62, s1_65, s1_68, s1_71, s1_72, s1_74, s1_77, s1_80, s1_83, s1_84, List.cons_append, List.nil_append, if_true, if_false, true_and, and_true, and_self, eq_self, true_or, or_true, false_or, or_false, tIn, tLe, fLe, tLt, fLt, tEq, fEq, isL, c5 b1 b4, eo]
          exact fin
        | some hh =>
          rw [hs] at h9 h10
          simp only at h9 h10
          have eo : oNat (scn (fG G) 0 0) = (hh : Int) := by rw [hs]; rfl
          obtain ⟨q1, q2, q3, q4⟩ := stG_ok h2 h3 hs
          simp (disch := omega) only [s1_0, s1_1, s1_4, s1_5, s1_8, s1_9, s1_12, s1_13, s1_16, s1_17, s1_20, s1_21, s1_25, s1_26, s1_29, s1_30, s1_33, s1_35, s1_37, s1_38, s1_41, s1_42, s1_45, s1_48, s1_50, s1_51, s1_52, s1_55, s1_56, s1_59, s1_61, s1_62, s1_65, s1_68, s1_71, s1_72, s1_74, s1_77, s1_80, s1_83, s1_84, List.cons_append, List.nil_append, if_true, if_false, true_and, and_true, and_self, eq_self, true_or, or_true, false_or, or_false, tIn, tLe, fLe, tLt, fLt, tEq, fEq, isL, c5 b1 b4, eo, c3 b1, gl, oS82]
          refine wr81 h2 h3 (by omega) (by omega) (by rw [ei] at h6; exact h6) hs hil _ (fun σ4 ρ' st' w4 i4 => ?_)
          simp (disch := omega) only [s1_0, s1_1, s1_4, s1_5, s1_8, s1_9, s1_12, s1_13, s1_16, s1_17, s1_20, s1_21, s1_25, s1_26, s1_29, s1_30, s1_33, s1_35, s1_37, s1_38, s1_41, s1_42, s1_45, s1_48, s1_50, s1_51, s1_52, s1_55, s1_56, s1_59, s1_61, s1_62, s1_65, s1_68, s1_71, s1_72, s1_74, s1_77, s1_80, s1_83, s1_84, List.cons_append, List.nil_append, if_true, if_false, true_and, and_true, and_self, eq_self, true_or, or_true, false_or, or_false, tIn, tLe, fLe, tLt, fLt, tEq, fEq, isL]
          exact ih (k + 1) _ ρ' st' σ4 _ (by omega) w4 (by omega) (by omega) (by omega) i4 (by omega) h10
  refine lp n 0 (gr0 T) (rk0 T) st2 σ2 _ (by omega) W0 (by rw [gr0_len]; exact isT_pos hT) (by omega) (by rw [gr0_len]; omega) ?_ (by omega) rfl
  rw [e1, e2, List.take_of_length_le (by omega), List.take_of_length_le (by simp; omega)]
  exact i2
end SHR
