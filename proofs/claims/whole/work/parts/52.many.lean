/-! how many, how deep: the reference -/
def cnT (a b : Int) : List Int → Nat
  | [] => 0
  | c :: l => (if a ≤ tau c ∧ tau c ≤ b then 1 else 0) + cnT a b l
theorem cnT_app (a b : Int) : ∀ l m : List Int, cnT a b (l ++ m) = cnT a b l + cnT a b m := by
  intro l m
  induction l with
  | nil => simp [cnT]
  | cons c l ih => simp only [List.cons_append, cnT, ih]; omega
theorem cnT_le (a b : Int) : ∀ l : List Int, cnT a b l ≤ l.length := by
  intro l
  induction l with
  | nil => simp [cnT]
  | cons c l ih => simp only [cnT, List.length_cons]; split <;> omega
theorem cnT_nb : ∀ l : List Int, tks l → cnT 1000 1255 l = nbB l := by
  intro l
  induction l with
  | nil => intro _; rfl
  | cons c l ih =>
    intro hk
    have tk := hk c (List.mem_cons_self ..)
    have h1 := tau_b tk
    have h2 := tau_in tk
    simp only [cnT, nbB]
    rw [ih (fun d hd => hk d (List.mem_cons_of_mem _ hd))]
    by_cases g : 1000 < c
    · rw [if_pos ⟨h1.mpr g, by omega⟩, if_pos g]
    · rw [if_neg (fun q => g (h1.mp q.1)), if_neg g]
theorem tau_sg {c w : Int} (h : tok c) (hw : 3 ≤ w ∧ w ≤ 7) : tau c = w - 2 ↔ c = signF (w - 3) := by
  unfold tok at h
  unfold tau signF
  repeat' split
  all_goals omega
theorem cnT_sg {w : Int} (hw : 3 ≤ w ∧ w ≤ 7) : ∀ l : List Int, tks l → cnT (w - 2) (w - 2) l = l.count (signF (w - 3)) := by
  intro l
  induction l with
  | nil => intro _; rfl
  | cons c l ih =>
    intro hk
    have tk := hk c (List.mem_cons_self ..)
    have h1 := tau_sg tk hw
    simp only [cnT, List.count_cons]
    rw [ih (fun d hd => hk d (List.mem_cons_of_mem _ hd))]
    by_cases g : c = signF (w - 3)
    · rw [if_pos (by have := h1.mpr g; omega), g]; simp; omega
    · rw [if_neg (fun q => g (h1.mp (by omega)))]; simp [g]
def mxD : List Nat → List Tm → Nat → Nat
  | d :: ds, t :: ts, m => mxD ds ts (max m (d + dpT t - 1))
  | _, _, m => m
theorem dpT_pos : ∀ t, wt t → 1 ≤ dpT t := by
  apply wt_ind
  · intro c _; simp [dpT]
  · intro a b _ _ ha hb; simp only [dpT]; omega
  · intro c a _ _ ha; simp only [dpT]; omega
section MNY
variable {σ σ0 σ' : aSg} {K : List AV → aSg → Prop} {x y z i : Int} {S : SS} {T W st : List Int} {r q t a j b k : Nat}
theorem c196 (hm : tmM σ T) (hl : T.length ≤ 120) : CA m196 [.inr (.inl 130), .inl x, .inl y] σ K = K [.inl (cnT x y T : Int)] σ := by
  refine CA_eq ?_
  rw [e196]
  have l0 := ln134
  have e7 := hm.1
  simp (disch := omega) only [s196_0, s196_1, s196_2, s196_3, s196_7, s196_8, s196_11, s196_14, s196_15, s196_16, s196_19, s196_21, s196_22, s196_23, s196_24, s196_25, s196_26, s196_27, s196_30, s196_33, s196_34, s196_37, s196_38, s196_39, s196_40, s196_43, s196_46, s196_47, List.cons_append, List.nil_append, if_true, if_false, true_and, and_true, and_self, eq_self, true_or, or_true, false_or, or_false, tIn, tLe, fLe, tLt, fLt, tEq, fEq, isL]
  have lp : ∀ (m k : Nat), k + m = T.length → WP m196 5 [.inr (.inl 130), .inl x, .inl y, .inl (cnT x y (T.take k) : Int), .inl (k : Int)] [] σ (fun v σ' => v = [.inl (cnT x y T : Int)] ∧ σ' = σ) := by
    intro m
    induction m with
    | zero =>
      intro k hk
      rw [List.take_of_length_le (by omega)]
      rw [s196_5]
      simp (disch := omega) only [s196_0, s196_1, s196_2, s196_3, s196_7, s196_8, s196_11, s196_14, s196_15, s196_16, s196_19, s196_21, s196_22, s196_23, s196_24, s196_25, s196_26, s196_27, s196_30, s196_33, s196_34, s196_37, s196_38, s196_39, s196_40, s196_43, s196_46, s196_47, List.cons_append, List.nil_append, if_true, if_false, true_and, and_true, and_self, eq_self, true_or, or_true, false_or, or_false, tIn, tLe, fLe, tLt, fLt, tEq, fEq, isL, e7]
    | succ m ih =>
      intro k hk
      have hkl : k < T.length := by omega
      have hc := hm.2 k _ (List.getElem?_eq_getElem hkl)
      have ih' := ih (k + 1) (by omega)
      have cl := cnT_le x y (T.take k)
      have tl : (T.take k).length ≤ 120 := by rw [List.length_take]; omega
      have st : cnT x y (T.take (k + 1)) = cnT x y (T.take k) + (if x ≤ tau T[k] ∧ tau T[k] ≤ y then 1 else 0) := by
        rw [List.take_succ, List.getElem?_eq_getElem hkl, cnT_app]
        simp [cnT]
      rw [st] at ih'
      have ek : (k : Int) + 1 = ((k + 1 : Nat) : Int) := by omega
      rw [s196_5]
      by_cases g : x ≤ tau T[k] ∧ tau T[k] ≤ y
      · rw [if_pos g, show ((cnT x y (T.take k) + 1 : Nat) : Int) = (cnT x y (T.take k) : Int) + 1 by omega] at ih'
        simp (disch := omega) only [s196_0, s196_1, s196_2, s196_3, s196_7, s196_8, s196_11, s196_14, s196_15, s196_16, s196_19, s196_21, s196_22, s196_23, s196_24, s196_25, s196_26, s196_27, s196_30, s196_33, s196_34, s196_37, s196_38, s196_39, s196_40, s196_43, s196_46, s196_47, List.cons_append, List.nil_append, if_true, if_false, true_and, and_true, and_self, eq_self, true_or, or_true, false_or, or_false, tIn, tLe, fLe, tLt, fLt, tEq, fEq, isL, e7, kd134, ln134, Int.toNat_natCast, hc, c127, g, ek]
        exact ih'
      · rw [if_neg g, show ((cnT x y (T.take k) + 0 : Nat) : Int) = (cnT x y (T.take k) : Int) + 0 by omega] at ih'
        simp (disch := omega) only [s196_0, s196_1, s196_2, s196_3, s196_7, s196_8, s196_11, s196_14, s196_15, s196_16, s196_19, s196_21, s196_22, s196_23, s196_24, s196_25, s196_26, s196_27, s196_30, s196_33, s196_34, s196_37, s196_38, s196_39, s196_40, s196_43, s196_46, s196_47, List.cons_append, List.nil_append, if_true, if_false, true_and, and_true, and_self, eq_self, true_or, or_true, false_or, or_false, tIn, tLe, fLe, tLt, fLt, tEq, fEq, isL, e7, kd134, ln134, Int.toNat_natCast, hc, c127, g, ek]
        exact ih'
  have := lp T.length 0 (by omega)
  simpa [cnT] using this
theorem wr197 (hm : tmM σ T) (hkT : tks T) (hl : T.length ≤ 120) {u : Tm} (hu : wt u) (hT : fl u = T) (Q : List AV → aSg → Prop) (hq : ∀ σ', FrA 136 11 σ σ' → Q [.inl (dpT u : Int)] σ') : CA m197 [.inr (.inl 130)] σ Q := by
  rw [e197]
  have l0 := ln134
  simp (disch := omega) only [s197_0, s197_1, s197_2, s197_3, s197_4, s197_7, s197_8, s197_9, s197_12, s197_13, s197_15, s197_16, s197_19, s197_22, s197_23, s197_26, s197_27, s197_28, s197_29, s197_32, s197_33, s197_36, s197_37, s197_38, s197_39, s197_42, s197_43, s197_44, s197_47, s197_48, s197_49, s197_50, s197_51, s197_54, s197_55, s197_56, s197_57, s197_58, s197_61, s197_64, s197_65, s197_68, s197_69, s197_70, s197_73, s197_76, s197_77, s197_78, s197_79, s197_80, s197_83, s197_86, s197_89, s197_90, List.cons_append, List.nil_append, if_true, if_false, true_and, and_true, and_self, eq_self, true_or, or_true, false_or, or_false, tIn, tLe, fLe, tLt, fLt, tEq, fEq, isL]
  have S0' : stM (aup σ 130 11 0) [] := ⟨by rw [aup_s]; rfl, fun k c hc => by simp at hc⟩
  have F0 : FrA 136 11 σ (aup σ 130 11 0) := ⟨fun b _ h2 => by rw [aup_f h2], fun i hi => by rw [aup_n2 hi]⟩
  refine zpush S0' (by simp) _ (fun σ1 w1 f1 => ?_)
  have tr : ∀ {s1 s2 s3 : aSg}, FrA 136 11 s1 s2 → FrA 136 11 s2 s3 → FrA 136 11 s1 s3 := fun h h' => ⟨fun a h1 h2 => (h'.1 a h1 h2).trans (h.1 a h1 h2), fun j hj => (h'.2 j hj).trans (h.2 j hj)⟩
  simp (disch := omega) only [s197_0, s197_1, s197_2, s197_3, s197_4, s197_7, s197_8, s197_9, s197_12, s197_13, s197_15, s197_16, s197_19, s197_22, s197_23, s197_26, s197_27, s197_28, s197_29, s197_32, s197_33, s197_36, s197_37, s197_38, s197_39, s197_42, s197_43, s197_44, s197_47, s197_48, s197_49, s197_50, s197_51, s197_54, s197_55, s197_56, s197_57, s197_58, s197_61, s197_64, s197_65, s197_68, s197_69, s197_70, s197_73, s197_76, s197_77, s197_78, s197_79, s197_80, s197_83, s197_86, s197_89, s197_90, List.cons_append, List.nil_append, if_true, if_false, true_and, and_true, and_self, eq_self, true_or, or_true, false_or, or_false, tIn, tLe, fLe, tLt, fLt, tEq, fEq, isL]
  have lp : ∀ (m q mx : Nat) (ds : List Nat) (ts : List Tm) (σ2 : aSg) (l3 : AV), (flF ts).length = m → (∀ v ∈ ts, wt v) → T.drop q = flF ts → q + m = T.length → ds.length = ts.length → (∀ d ∈ ds, d ≤ q + 1) → mx ≤ q + 1 → mxD ds ts mx = dpT u → stM σ2 (ds.map (fun d : Nat => (d : Int))) → FrA 136 11 σ σ2 → WP m197 14 [.inr (.inl 130), .inl (mx : Int), .inl (q : Int), l3] [] σ2 Q := by
    intro m
    induction m with
    | zero =>
      intro q mx ds ts σ2 l3 h1 h2 h3 h4 h5 h6 h7 h8 h9 h10
      have tse : ts = [] := by
        cases ts with
        | nil => rfl
        | cons v ts => have := fl_pos (h2 v (List.mem_cons_self ..)); simp only [flF, List.length_append] at h1; omega
      subst tse
      have e7 : σ2 130 7 = (T.length : Int) := (h10.2 7 (by omega)).trans hm.1
      have h8' : mx = dpT u := by rw [← h8]; cases ds <;> rfl
      rw [s197_14]
      simp (disch := omega) only [s197_0, s197_1, s197_2, s197_3, s197_4, s197_7, s197_8, s197_9, s197_12, s197_13, s197_15, s197_16, s197_19, s197_22, s197_23, s197_26, s197_27, s197_28, s197_29, s197_32, s197_33, s197_36, s197_37, s197_38, s197_39, s197_42, s197_43, s197_44, s197_47, s197_48, s197_49, s197_50, s197_51, s197_54, s197_55, s197_56, s197_57, s197_58, s197_61, s197_64, s197_65, s197_68, s197_69, s197_70, s197_73, s197_76, s197_77, s197_78, s197_79, s197_80, s197_83, s197_86, s197_89, s197_90, List.cons_append, List.nil_append, if_true, if_false, true_and, and_true, and_self, eq_self, true_or, or_true, false_or, or_false, tIn, tLe, fLe, tLt, fLt, tEq, fEq, isL, e7]
      rw [h8']
      exact hq σ2 h10
    | succ m ih =>
      intro q mx ds ts σ2 l3 h1 h2 h3 h4 h5 h6 h7 h8 h9 h10
      cases ts with
      | nil => simp [flF] at h1
      | cons v ts =>
        cases ds with
        | nil => simp at h5
        | cons d ds =>
          have hv := h2 v (List.mem_cons_self ..)
          have hw' : ∀ v ∈ ts, wt v := fun u hu => h2 u (List.mem_cons_of_mem _ hu)
          have hsum : ∀ ts : List Tm, (∀ v ∈ ts, wt v) → ts.length ≤ (flF ts).length := by
            intro ts
            induction ts with
            | nil => intro _; simp
            | cons v ts ih =>
              intro h
              have := fl_pos (h v (List.mem_cons_self ..))
              have := ih (fun u hu => h u (List.mem_cons_of_mem _ hu))
              simp only [flF, List.length_append, List.length_cons]
              omega
          have hts := hsum ts hw'
          simp only [flF, List.length_append] at h1
          simp only [List.length_cons, Nat.add_right_cancel_iff] at h5
          have hd := h6 d (List.mem_cons_self ..)
          have h6' : ∀ d ∈ ds, d ≤ q + 1 + 1 := fun e he => by have := h6 e (List.mem_cons_of_mem _ he); omega
          have e7 : σ2 130 7 = (T.length : Int) := (h10.2 7 (by omega)).trans hm.1
          have A : AtT T q v := ⟨hv, flF ts, by rw [h3]; rfl⟩
          have hql := At_lt A
          have tk := hkT _ (List.getElem_mem hql)
          have dp := dpT_pos v hv
          simp only [mxD] at h8
          rw [s197_14]
          simp (disch := omega) only [s197_0, s197_1, s197_2, s197_3, s197_4, s197_7, s197_8, s197_9, s197_12, s197_13, s197_15, s197_16, s197_19, s197_22, s197_23, s197_26, s197_27, s197_28, s197_29, s197_32, s197_33, s197_36, s197_37, s197_38, s197_39, s197_42, s197_43, s197_44, s197_47, s197_48, s197_49, s197_50, s197_51, s197_54, s197_55, s197_56, s197_57, s197_58, s197_61, s197_64, s197_65, s197_68, s197_69, s197_70, s197_73, s197_76, s197_77, s197_78, s197_79, s197_80, s197_83, s197_86, s197_89, s197_90, List.cons_append, List.nil_append, if_true, if_false, true_and, and_true, and_self, eq_self, true_or, or_true, false_or, or_false, tIn, tLe, fLe, tLt, fLt, tEq, fEq, isL, e7]
          refine zpop h9 (by simp; omega) _ (fun σ3 w3 f3 => ?_)
          have F3 := tr h10 f3
          have hc : σ3 134 q = tau T[q] := by rw [F3.1 134 (by omega) (by omega)]; exact hm.2 q _ (List.getElem?_eq_getElem hql)
          have em : (if (mx : Int) < (d : Int) then (d : Int) else (mx : Int)) = ((max mx d : Nat) : Int) := by split <;> omega
          have mid : ∀ (w : Int), w = ((max mx d : Nat) : Int) → WP m197 37 [.inr (.inl 130), .inl (mx : Int), .inl (q : Int), .inl (d : Int)] [.inl w] σ3 Q := by
            intro w hw
            subst hw
            cases v with
            | num c =>
              obtain ⟨g1, g2⟩ := At_num A
              obtain ⟨_, g3⟩ := List.getElem?_eq_some_iff.mp g1
              have g0 := arT_0' g2
              rw [g3] at hc tk
              have z1 : ¬ tau c = 0 := fun z => g0.1 ((tau_0 tk).mp z)
              have z2 : ¬ 1000 ≤ tau c := fun z => g0.2 ((tau_b tk).mp z)
              simp only [fl, List.length_cons, List.length_nil] at h1
              have hd' : T.drop (q + 1) = flF ts := by
                have := (At_cons (T := T) (p := q) (c := c) (l := []) (r := flF ts) (by rw [h3]; simp [flF, fl])).2
                simpa using this
              simp (disch := omega) only [s197_0, s197_1, s197_2, s197_3, s197_4, s197_7, s197_8, s197_9, s197_12, s197_13, s197_15, s197_16, s197_19, s197_22, s197_23, s197_26, s197_27, s197_28, s197_29, s197_32, s197_33, s197_36, s197_37, s197_38, s197_39, s197_42, s197_43, s197_44, s197_47, s197_48, s197_49, s197_50, s197_51, s197_54, s197_55, s197_56, s197_57, s197_58, s197_61, s197_64, s197_65, s197_68, s197_69, s197_70, s197_73, s197_76, s197_77, s197_78, s197_79, s197_80, s197_83, s197_86, s197_89, s197_90, List.cons_append, List.nil_append, if_true, if_false, true_and, and_true, and_self, eq_self, true_or, or_true, false_or, or_false, tIn, tLe, fLe, tLt, fLt, tEq, fEq, isL, kd134, ln134, Int.toNat_natCast, hc, c129]
              exact ih (q + 1) _ ds ts σ3 _ (by omega) hw' hd' (by omega) h5 h6' (by omega) (by rw [← h8]; simp [dpT]) w3 F3
            | add a b =>
              obtain ⟨g1, A1, A2, e1⟩ := At_add A
              obtain ⟨_, g3⟩ := List.getElem?_eq_some_iff.mp g1
              rw [g3] at hc tk
              have z1 : tau 1 = 0 := rfl
              rw [z1] at hc
              simp only [fl, List.length_cons, List.length_append] at h1
              have hd' : T.drop (q + 1) = flF (a :: b :: ts) := by
                have := (At_cons (T := T) (p := q) (c := 1) (l := fl a ++ fl b) (r := flF ts) (by rw [h3]; simp [flF, fl])).2
                rw [this]; simp [flF]
              have da := dpT_pos a A1.1
              have db := dpT_pos b A2.1
              simp (disch := omega) only [s197_0, s197_1, s197_2, s197_3, s197_4, s197_7, s197_8, s197_9, s197_12, s197_13, s197_15, s197_16, s197_19, s197_22, s197_23, s197_26, s197_27, s197_28, s197_29, s197_32, s197_33, s197_36, s197_37, s197_38, s197_39, s197_42, s197_43, s197_44, s197_47, s197_48, s197_49, s197_50, s197_51, s197_54, s197_55, s197_56, s197_57, s197_58, s197_61, s197_64, s197_65, s197_68, s197_69, s197_70, s197_73, s197_76, s197_77, s197_78, s197_79, s197_80, s197_83, s197_86, s197_89, s197_90, List.cons_append, List.nil_append, if_true, if_false, true_and, and_true, and_self, eq_self, true_or, or_true, false_or, or_false, tIn, tLe, fLe, tLt, fLt, tEq, fEq, isL, kd134, ln134, Int.toNat_natCast, hc]
              refine zpush w3 (by simp; omega) _ (fun σ4 w4 f4 => ?_)
              simp (disch := omega) only [s197_0, s197_1, s197_2, s197_3, s197_4, s197_7, s197_8, s197_9, s197_12, s197_13, s197_15, s197_16, s197_19, s197_22, s197_23, s197_26, s197_27, s197_28, s197_29, s197_32, s197_33, s197_36, s197_37, s197_38, s197_39, s197_42, s197_43, s197_44, s197_47, s197_48, s197_49, s197_50, s197_51, s197_54, s197_55, s197_56, s197_57, s197_58, s197_61, s197_64, s197_65, s197_68, s197_69, s197_70, s197_73, s197_76, s197_77, s197_78, s197_79, s197_80, s197_83, s197_86, s197_89, s197_90, List.cons_append, List.nil_append, if_true, if_false, true_and, and_true, and_self, eq_self, true_or, or_true, false_or, or_false, tIn, tLe, fLe, tLt, fLt, tEq, fEq, isL]
              refine zpush w4 (by simp; omega) _ (fun σ5 w5 f5 => ?_)
              simp (disch := omega) only [s197_0, s197_1, s197_2, s197_3, s197_4, s197_7, s197_8, s197_9, s197_12, s197_13, s197_15, s197_16, s197_19, s197_22, s197_23, s197_26, s197_27, s197_28, s197_29, s197_32, s197_33, s197_36, s197_37, s197_38, s197_39, s197_42, s197_43, s197_44, s197_47, s197_48, s197_49, s197_50, s197_51, s197_54, s197_55, s197_56, s197_57, s197_58, s197_61, s197_64, s197_65, s197_68, s197_69, s197_70, s197_73, s197_76, s197_77, s197_78, s197_79, s197_80, s197_83, s197_86, s197_89, s197_90, List.cons_append, List.nil_append, if_true, if_false, true_and, and_true, and_self, eq_self, true_or, or_true, false_or, or_false, tIn, tLe, fLe, tLt, fLt, tEq, fEq, isL]
              refine ih (q + 1) _ ((d + 1) :: (d + 1) :: ds) (a :: b :: ts) σ5 _ (by simp [flF]; omega) (fun w hw2 => ?_) hd' (by omega) (by simp; omega) (fun e he => ?_) (by omega) ?_ (by simpa using w5) (tr F3 (tr f4 f5))
              · rcases List.mem_cons.mp hw2 with rfl | hw2
                · exact A1.1
                rcases List.mem_cons.mp hw2 with rfl | hw2
                · exact A2.1
                exact hw' w hw2
              · rcases List.mem_cons.mp he with rfl | he
                · omega
                rcases List.mem_cons.mp he with rfl | he
                · omega
                exact h6' e he
              · rw [← h8]
                simp only [mxD, dpT]
                congr 1
                omega
            | mulL c a =>
              obtain ⟨g1, g2, A1⟩ := At_mul A
              obtain ⟨_, g3⟩ := List.getElem?_eq_some_iff.mp g1
              have g0 := arT_1' g2
              rw [g3] at hc tk
              have z2 : 1000 ≤ tau c := (tau_b tk).mpr g0
              simp only [fl, List.length_cons] at h1
              have hd' : T.drop (q + 1) = flF (a :: ts) := by
                have := (At_cons (T := T) (p := q) (c := c) (l := fl a) (r := flF ts) (by rw [h3]; simp [flF, fl])).2
                rw [this]; simp [flF]
              have da := dpT_pos a A1.1
              simp (disch := omega) only [s197_0, s197_1, s197_2, s197_3, s197_4, s197_7, s197_8, s197_9, s197_12, s197_13, s197_15, s197_16, s197_19, s197_22, s197_23, s197_26, s197_27, s197_28, s197_29, s197_32, s197_33, s197_36, s197_37, s197_38, s197_39, s197_42, s197_43, s197_44, s197_47, s197_48, s197_49, s197_50, s197_51, s197_54, s197_55, s197_56, s197_57, s197_58, s197_61, s197_64, s197_65, s197_68, s197_69, s197_70, s197_73, s197_76, s197_77, s197_78, s197_79, s197_80, s197_83, s197_86, s197_89, s197_90, List.cons_append, List.nil_append, if_true, if_false, true_and, and_true, and_self, eq_self, true_or, or_true, false_or, or_false, tIn, tLe, fLe, tLt, fLt, tEq, fEq, isL, kd134, ln134, Int.toNat_natCast, hc, c129]
              refine zpush w3 (by simp; omega) _ (fun σ4 w4 f4 => ?_)
              simp (disch := omega) only [s197_0, s197_1, s197_2, s197_3, s197_4, s197_7, s197_8, s197_9, s197_12, s197_13, s197_15, s197_16, s197_19, s197_22, s197_23, s197_26, s197_27, s197_28, s197_29, s197_32, s197_33, s197_36, s197_37, s197_38, s197_39, s197_42, s197_43, s197_44, s197_47, s197_48, s197_49, s197_50, s197_51, s197_54, s197_55, s197_56, s197_57, s197_58, s197_61, s197_64, s197_65, s197_68, s197_69, s197_70, s197_73, s197_76, s197_77, s197_78, s197_79, s197_80, s197_83, s197_86, s197_89, s197_90, List.cons_append, List.nil_append, if_true, if_false, true_and, and_true, and_self, eq_self, true_or, or_true, false_or, or_false, tIn, tLe, fLe, tLt, fLt, tEq, fEq, isL]
              refine ih (q + 1) _ ((d + 1) :: ds) (a :: ts) σ4 _ (by simp [flF]; omega) (fun w hw2 => ?_) hd' (by omega) (by simp; omega) (fun e he => ?_) (by omega) ?_ (by simpa using w4) (tr F3 f4)
              · rcases List.mem_cons.mp hw2 with rfl | hw2
                · exact A1.1
                exact hw' w hw2
              · rcases List.mem_cons.mp he with rfl | he
                · omega
                exact h6' e he
              · rw [← h8]
                simp only [mxD, dpT]
                congr 1
                omega
            | var i => simp [wt] at hv
            | sub a b => simp [wt] at hv
            | neg a => simp [wt] at hv
            | mulR a d => simp [wt] at hv
          by_cases g : (d : Int) ≤ (mx : Int)
          · simp (disch := omega) only [s197_0, s197_1, s197_2, s197_3, s197_4, s197_7, s197_8, s197_9, s197_12, s197_13, s197_15, s197_16, s197_19, s197_22, s197_23, s197_26, s197_27, s197_28, s197_29, s197_32, s197_33, s197_36, s197_38, s197_39, s197_42, s197_43, s197_44, s197_47, s197_48, s197_49, s197_50, s197_51, s197_54, s197_55, s197_56, s197_57, s197_58, s197_61, s197_64, s197_65, s197_68, s197_69, s197_70, s197_73, s197_76, s197_77, s197_78, s197_79, s197_80, s197_83, s197_86, s197_89, s197_90, List.cons_append, List.nil_append, if_true, if_false, true_and, and_true, and_self, eq_self, true_or, or_true, false_or, or_false, tIn, tLe, fLe, tLt, fLt, tEq, fEq, isL]
            exact mid _ (by omega)
          · simp (disch := omega) only [s197_0, s197_1, s197_2, s197_3, s197_4, s197_7, s197_8, s197_9, s197_12, s197_13, s197_15, s197_16, s197_19, s197_22, s197_23, s197_26, s197_27, s197_28, s197_29, s197_32, s197_33, s197_36, s197_38, s197_39, s197_42, s197_43, s197_44, s197_47, s197_48, s197_49, s197_50, s197_51, s197_54, s197_55, s197_56, s197_57, s197_58, s197_61, s197_64, s197_65, s197_68, s197_69, s197_70, s197_73, s197_76, s197_77, s197_78, s197_79, s197_80, s197_83, s197_86, s197_89, s197_90, List.cons_append, List.nil_append, if_true, if_false, true_and, and_true, and_self, eq_self, true_or, or_true, false_or, or_false, tIn, tLe, fLe, tLt, fLt, tEq, fEq, isL]
            exact mid _ (by omega)
  exact lp (flF [u]).length 0 0 [1] [u] σ1 _ rfl (fun v hv => by rcases List.mem_singleton.mp hv with rfl; exact hu) (by simp [flF, hT]) (by simp [flF, hT]) rfl (fun d hd => by rcases List.mem_singleton.mp hd with rfl; omega) (by omega) (by simp [mxD]) w1 (tr F0 f1)
end MNY
