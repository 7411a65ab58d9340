/-! undo, keep, goBack, same: the component's part -/
section PC
variable {σ : aSg} {K : List AV → aSg → Prop} {x y z i : Int} {S : SS}
theorem k103 (hR : RepC σ S) : CC m103 [.inr (.inl 0), .inl x, .inl y] σ (f103 S x y).1 (f103 S x y).2 := by
  unfold CC
  rw [e103]
  unfold f103
  have hk := hR.1
  by_cases hx : 0 ≤ x ∧ x < 4
  · by_cases hy : 0 ≤ y ∧ y < 4
    · rw [if_neg (fun q => q ⟨hx, hy⟩)]
      obtain ⟨p, rfl⟩ := Int.eq_ofNat_of_zero_le hx.1
      obtain ⟨q, rfl⟩ := Int.eq_ofNat_of_zero_le hy.1
      have hp : p < 4 := by omega
      have hq : q < 4 := by omega
      have vp := hR.2.2.2.1 p hp
      have vq := hR.2.2.2.1 q hq
      have rp := rowS hp
      have rq := rowS hq
      have tp := ptS p hp
      have tq := ptS q hq
      have k3 := kd3
      have l3 := ln3
      simp only [Int.toNat_natCast]
      by_cases ep : sv S p = []
      · rw [if_pos (Or.inl ep)]
        simp (disch := omega) only [s103_0, s103_1, s103_4, s103_7, s103_8, s103_11, s103_14, s103_16, s103_17, s103_18, s103_19, s103_22, s103_25, s103_26, s103_27, s103_30, s103_33, s103_35, s103_36, s103_37, s103_40, s103_41, s103_42, s103_43, s103_46, s103_47, s103_48, s103_51, s103_54, s103_55, s103_58, s103_59, List.cons_append, List.nil_append, if_true, if_false, true_and, and_true, and_self, eq_self, true_or, or_true, false_or, or_false, tIn, tLe, fLe, tLt, fLt, tEq, fEq, c113, c111 hp hk, vp, ep]
        exact ⟨hR, fun _ _ => rfl⟩
      by_cases eq : sv S q = []
      · rw [if_pos (Or.inr eq)]
        simp (disch := omega) only [s103_0, s103_1, s103_4, s103_7, s103_8, s103_11, s103_14, s103_16, s103_17, s103_18, s103_19, s103_22, s103_25, s103_26, s103_27, s103_30, s103_33, s103_35, s103_36, s103_37, s103_40, s103_41, s103_42, s103_43, s103_46, s103_47, s103_48, s103_51, s103_54, s103_55, s103_58, s103_59, List.cons_append, List.nil_append, if_true, if_false, true_and, and_true, and_self, eq_self, true_or, or_true, false_or, or_false, tIn, tLe, fLe, tLt, fLt, tEq, fEq, c113, c111 hp hk, c111 hq hk, vp, vq, ep, eq]
        exact ⟨hR, fun _ _ => rfl⟩
      rw [if_neg (by simp [ep, eq])]
      by_cases e : sv S p = sv S q
      · have e' : rv σ (4 + 2 * p) = rv σ (4 + 2 * q) := by rw [vp, vq, e]
        have ne : ¬ rv σ (4 + 2 * p) = [] := by rw [vp]; exact ep
        have ne2 : ¬ rv σ (4 + 2 * q) = [] := by rw [vq]; exact eq
        rw [if_pos e]
        simp (disch := omega) only [s103_0, s103_1, s103_4, s103_7, s103_8, s103_11, s103_14, s103_16, s103_17, s103_18, s103_19, s103_22, s103_25, s103_26, s103_27, s103_30, s103_33, s103_35, s103_36, s103_37, s103_40, s103_41, s103_42, s103_43, s103_46, s103_47, s103_48, s103_51, s103_54, s103_55, s103_58, s103_59, List.cons_append, List.nil_append, if_true, if_false, true_and, and_true, and_self, eq_self, true_or, or_true, false_or, or_false, tIn, tLe, fLe, tLt, fLt, tEq, fEq, rs_ap, aup_s, aup_n1, aup_n2, Int.toNat_natCast, c113, c111 hp hk, c111 hq hk, ne, ne2, kd3, ln3, tp.1, tp.2, tq.1, tq.2, rp.1, c41 rp rq hk, e']
        exact ⟨hR, fun _ _ => rfl⟩
      · have e' : ¬ rv σ (4 + 2 * p) = rv σ (4 + 2 * q) := by rw [vp, vq]; exact e
        have ne : ¬ rv σ (4 + 2 * p) = [] := by rw [vp]; exact ep
        have ne2 : ¬ rv σ (4 + 2 * q) = [] := by rw [vq]; exact eq
        rw [if_neg e]
        simp (disch := omega) only [s103_0, s103_1, s103_4, s103_7, s103_8, s103_11, s103_14, s103_16, s103_17, s103_18, s103_19, s103_22, s103_25, s103_26, s103_27, s103_30, s103_33, s103_35, s103_36, s103_37, s103_40, s103_41, s103_42, s103_43, s103_46, s103_47, s103_48, s103_51, s103_54, s103_55, s103_58, s103_59, List.cons_append, List.nil_append, if_true, if_false, true_and, and_true, and_self, eq_self, true_or, or_true, false_or, or_false, tIn, tLe, fLe, tLt, fLt, tEq, fEq, rs_ap, aup_s, aup_n1, aup_n2, Int.toNat_natCast, c113, c111 hp hk, c111 hq hk, ne, ne2, kd3, ln3, tp.1, tp.2, tq.1, tq.2, rp.1, c41 rp rq hk, e']
        exact ⟨hR, fun _ _ => rfl⟩
    · rw [if_pos (fun q => hy q.2)]
      simp (disch := omega) only [s103_0, s103_1, s103_4, s103_7, s103_8, s103_11, s103_14, s103_16, s103_17, s103_18, s103_19, s103_22, s103_25, s103_26, s103_27, s103_30, s103_33, s103_35, s103_36, s103_37, s103_40, s103_41, s103_42, s103_43, s103_46, s103_47, s103_48, s103_51, s103_54, s103_55, s103_58, s103_59, List.cons_append, List.nil_append, if_true, if_false, true_and, and_true, and_self, eq_self, true_or, or_true, false_or, or_false, tIn, tLe, fLe, tLt, fLt, tEq, fEq, c113, hx, hy]
      exact ⟨hR, fun _ _ => rfl⟩
  · rw [if_pos (fun q => hx q.1)]
    simp (disch := omega) only [s103_0, s103_1, s103_4, s103_7, s103_8, s103_11, s103_14, s103_16, s103_17, s103_18, s103_19, s103_22, s103_25, s103_26, s103_27, s103_30, s103_33, s103_35, s103_36, s103_37, s103_40, s103_41, s103_42, s103_43, s103_46, s103_47, s103_48, s103_51, s103_54, s103_55, s103_58, s103_59, List.cons_append, List.nil_append, if_true, if_false, true_and, and_true, and_self, eq_self, true_or, or_true, false_or, or_false, tIn, tLe, fLe, tLt, fLt, tEq, fEq, c113, hx]
    exact ⟨hR, fun _ _ => rfl⟩
theorem k97 (hR : RepC σ S) : CC m97 [.inr (.inl 0)] σ (f97 S).1 (f97 S).2 := by
  unfold CC
  rw [e97]
  have hR0 := hR
  obtain ⟨hk, hS, hx, hsv, hfa, ⟨g, hg, hpl, hring⟩, hc, him⟩ := hR
  unfold f97
  cases hp : pa S with
  | nil =>
    rw [hp] at hc
    simp (disch := omega) only [s97_0, s97_1, s97_4, s97_7, s97_10, s97_12, s97_13, s97_14, s97_17, s97_20, s97_21, s97_22, s97_25, s97_28, s97_29, s97_32, s97_33, s97_36, s97_37, s97_38, s97_41, s97_42, s97_45, s97_48, List.cons_append, List.nil_append, if_true, if_false, true_and, and_true, and_self, eq_self, true_or, or_true, false_or, or_false, tIn, tLe, fLe, tLt, fLt, tEq, fEq, c9, hc, List.length_nil, Int.natCast_zero]
    exact ⟨hR0, fun _ _ => rfl⟩
  | cons q ps =>
    have hlen : (pa S).length ≤ 10 := hS.2.2.2.1
    rw [hp, List.length_cons] at hlen
    rw [hp, List.length_cons] at hc
    obtain ⟨s, l⟩ := q
    have r0 := hring 0 (s, l) (by rw [hp]; rfl)
    rw [hp, List.length_cons] at r0
    simp only [Nat.sub_zero, Nat.add_sub_cancel] at r0
    have q0 := hS.2.2.2.2.1 (s, l) (by rw [hp]; exact List.mem_cons_self)
    have hs : s < 4 := q0.1
    have hr := rowS hs
    have h1 := ptS s hs
    have k3 := kd3
    have l3 := ln3
    have l120 := sh_len q0.2
    have hc1 : 1 ≤ ps.length + 1 ∧ ps.length + 1 ≤ 10 := by omega
    have e1 : (rv σ (32 + 2 * g ps.length)).take (cp (4 + 2 * s)) = l := by
      rw [r0.2, cpS s hs]
      exact List.take_of_length_le l120
    simp (disch := omega) only [s97_0, s97_1, s97_4, s97_7, s97_10, s97_12, s97_13, s97_14, s97_17, s97_20, s97_21, s97_22, s97_25, s97_28, s97_29, s97_32, s97_33, s97_36, s97_37, s97_38, s97_41, s97_42, s97_45, s97_48, List.cons_append, List.nil_append, if_true, if_false, true_and, and_true, and_self, eq_self, true_or, or_true, false_or, or_false, tIn, tLe, fLe, tLt, fLt, tEq, fEq, rs_ap, aup_s, aup_n1, aup_n2, Int.toNat_natCast, c9, hc, isL, c12 hc hc1, Nat.add_sub_cancel, r0.1, c113, kd3, ln3, h1.1, h1.2, c13 hg hpl hc hc1 hk hr (show 4 + 2 * s < 29 ∨ 53 ≤ 4 + 2 * s by omega), e1]
    have kA : RK (aup σ 30 2 (ps.length : Int)) := RK_aup hk (by decide +kernel)
    have kC : RK (rs (aup σ 30 2 (ps.length : Int)) (4 + 2 * s) l) := RK_rs kA hr (by rw [cpS s hs]; exact l120)
    have n29 : ∀ r, isRow r → r ≠ 30 ∧ r + 1 ≠ 30 := fun r hr => by
      refine ⟨fun e => ?_, fun e => ?_⟩
      · have := row_kd hr; rw [e] at this; exact absurd this (by decide +kernel)
      · have := hr.2.2.1; rw [e] at this; exact absurd this (by decide +kernel)
    have rvk : ∀ r, isRow r → r ≠ 4 + 2 * s → rv (rs (aup σ 30 2 (ps.length : Int)) (4 + 2 * s) l) r = rv σ r := fun r hr' hne => by
      rw [rv_ne hr hr' hne, rv_aup (n29 r hr').1 (n29 r hr').2]
    have hap : ∀ a j, a ≠ 30 → a ≠ 4 + 2 * s → a ≠ 5 + 2 * s → (rs (aup σ 30 2 (ps.length : Int)) (4 + 2 * s) l) a j = σ a j := fun a j g1 g2 g3 => by
      rw [rs_ap g2 (by omega), aup_n1 g1]
    refine ⟨⟨kC, ?_, ?_, ?_, ?_, ⟨g, hg, hpl.keep (funext (fun j => hap 31 j (by omega) (by omega) (by omega))), ?_⟩, ?_, ?_⟩, ?_⟩
    · obtain ⟨a1, a2, a3, a4, a5, a6⟩ := hS
      refine ⟨a1, a2, fun j hj => ?_, ?_, fun q hq => a5 q (by rw [hp]; exact List.mem_cons_of_mem _ hq), a6⟩
      · show shOk (if j = s then l else sv S j)
        split
        · exact q0.2
        · exact a3 j hj
      · show ps.length ≤ 10
        omega
    · rw [rvk 1 row1 (by omega)]; exact hx
    · intro j hj
      show _ = if j = s then l else sv S j
      by_cases e : j = s
      · rw [if_pos e, e, rv_rs]
      · rw [if_neg e, rvk _ (rowS hj) (by omega)]
        exact hsv j hj
    · rw [hap 0 12 (by omega) (by omega) (by omega)]; exact hfa
    · intro j q hq
      have hq : ps[j]? = some q := hq
      have hj : j < ps.length := (List.getElem?_eq_some_iff.mp hq).1
      have := hring (j + 1) q (by rw [hp]; simpa using hq)
      rw [hp, List.length_cons, show ps.length + 1 - 1 - (j + 1) = ps.length - 1 - j by omega] at this
      have e3 : pa (tx S, (fun j => if j = s then l else sv S j), fa S, ps, im S) = ps := rfl
      show _ ∧ rv _ (32 + 2 * g (ps.length - 1 - j)) = _
      rw [hap 52 _ (by omega) (by omega) (by omega), rvk _ (rowP (hg.1 _ (by omega))) (by omega)]
      exact this
    · rw [rs_ap (by omega) (by omega), aup_s]; rfl
    · intro i hi
      rw [hap 29 i (by omega) (by omega) (by omega)]
      rcases him i hi with h | ⟨f, g1, g2, g3⟩
      · exact Or.inl h
      · refine Or.inr ⟨f, g1, g2, fun t ht => ?_⟩
        rw [rvk _ (rowI (by omega)) (by omega)]
        exact g3 t ht
    · intro a ha
      funext j
      exact hap a j (by omega) (by omega) (by omega)
theorem k105 (hR : RepC σ S) : CC m105 [.inr (.inl 0), .inl x] σ (f105 S x).1 (f105 S x).2 := by
  unfold CC
  rw [e105]
  unfold f105
  have hR0 := hR
  obtain ⟨hk, hS, hx, hsv, hfa, ⟨g, hg, hpl, hring⟩, hc, him⟩ := hR
  by_cases h0 : 0 ≤ x ∧ x < 2
  · rw [if_neg (by omega)]
    obtain ⟨p, rfl⟩ := Int.eq_ofNat_of_zero_le h0.1
    have hp : p < 2 := by omega
    simp only [Int.toNat_natCast]
    simp (disch := omega) only [s105_0, s105_1, s105_4, s105_7, s105_9, s105_10, s105_11, s105_13, s105_14, s105_17, s105_18, s105_21, s105_22, s105_23, s105_24, s105_25, s105_26, s105_27, s105_28, s105_31, s105_32, s105_33, s105_36, s105_39, s105_42, s105_43, s105_46, s105_47, s105_48, s105_49, s105_50, s105_53, s105_56, s105_57, List.cons_append, List.nil_append, if_true, if_false, true_and, and_true, and_self, eq_self, true_or, or_true, false_or, or_false, tIn, tLe, fLe, tLt, fLt, tEq, fEq, c114, isL]
    have lp : ∀ (n t : Nat) (σ1 : aSg), 4 - t = n → t ≤ 4 → RK σ1 → (∀ r, isRow r → (r < 13 + 8 * p ∨ 13 + 8 * p + 2 * t ≤ r) → rv σ1 r = rv σ r) → (∀ s, s < t → rv σ1 (13 + 2 * (4 * p + s)) = sv S s) → (∀ a, (a < 13 + 8 * p ∨ 21 + 8 * p ≤ a) → σ1 a = σ a) → WP m105 12 [.inr (.inl 0), .inl (p : Int), .inl (t : Int)] [] σ1 (fun v σ' => v = [.inl 1] ∧ RepC σ' (tx S, sv S, fa S, [], fun j => if j = p then some (sv S) else im S j) ∧ FrC σ σ') := by
      intro n
      induction n with
      | zero =>
        intro t σ1 hn' ht k1 hrv hdone hfr
        have et : t = 4 := by omega
        subst et
        rw [s105_12]
        have l29 := ln29
        simp (disch := omega) only [s105_0, s105_1, s105_4, s105_7, s105_9, s105_10, s105_11, s105_13, s105_14, s105_17, s105_18, s105_21, s105_22, s105_23, s105_24, s105_25, s105_26, s105_27, s105_28, s105_31, s105_32, s105_33, s105_36, s105_39, s105_42, s105_43, s105_46, s105_47, s105_48, s105_49, s105_50, s105_53, s105_56, s105_57, List.cons_append, List.nil_append, if_true, if_false, true_and, and_true, and_self, eq_self, true_or, or_true, false_or, or_false, tIn, tLe, fLe, tLt, fLt, tEq, fEq, rs_ap, aup_s, aup_n1, aup_n2, Int.toNat_natCast, kd29, ln29, c10]
        have kC : RK (aup (aup σ1 29 p 1) 30 2 0) := RK_aup (RK_aup k1 (by rw [kd29]; omega)) (by decide +kernel)
        have n29 : ∀ r, isRow r → r ≠ 30 ∧ r + 1 ≠ 30 ∧ r ≠ 29 ∧ r + 1 ≠ 29 := fun r hr => by
          refine ⟨fun e => ?_, fun e => ?_, fun e => ?_, fun e => ?_⟩
          · have := row_kd hr; rw [e] at this; exact absurd this (by decide +kernel)
          · have := hr.2.2.1; rw [e] at this; exact absurd this (by decide +kernel)
          · have := row_kd hr; rw [e] at this; exact absurd this (by decide +kernel)
          · have := hr.2.2.1; rw [e] at this; exact absurd this (by decide +kernel)
        have rvk : ∀ r, isRow r → rv (aup (aup σ1 29 p 1) 30 2 0) r = rv σ1 r := fun r hr => by
          obtain ⟨a1, a2, a3, a4⟩ := n29 r hr
          rw [rv_aup a1 a2, rv_aup a3 a4]
        refine ⟨⟨kC, ?_, ?_, ?_, ?_, ⟨g, hg, hpl.keep (by rw [aup_f (by omega), aup_f (by omega), hfr 31 (by omega)]), ?_⟩, ?_, ?_⟩, ?_⟩
        · obtain ⟨a1, a2, a3, a4, a5, a6, a7⟩ := hS
          refine ⟨a1, a2, a3, by simp [pa], fun q hq => by simp [pa] at hq, fun i f hi hf => ?_, a7⟩
          have hf' : (if i = p then some (sv S) else im S i) = some f := hf
          split at hf'
          · cases hf'; exact a3
          · exact a6 i f hi hf'
        · rw [rvk 1 row1, hrv 1 row1 (by omega)]; exact hx
        · intro j hj
          rw [rvk _ (rowS hj), hrv _ (rowS hj) (by omega)]
          exact hsv j hj
        · rw [aup_n1 (by omega), aup_n1 (by omega), hfr 0 (by omega)]; exact hfa
        · intro j q hq
          simp [pa] at hq
        · rw [aup_s]; rfl
        · intro i hi
          rw [aup_n1 (by omega)]
          by_cases e : i = p
          · subst e
            refine Or.inr ⟨sv S, by show (if i = i then _ else _) = _; simp, aup_s, fun s hs => ?_⟩
            rw [rvk _ (rowI (by omega))]
            exact hdone s hs
          · rw [aup_n2 e, hfr 29 (by omega)]
            have e0 : im (tx S, sv S, fa S, ([] : List (Nat × List Int)), fun j => if j = p then some (sv S) else im S j) i = im S i := by show (if i = p then _ else _) = _; rw [if_neg e]
            rw [e0]
            rcases him i hi with h | ⟨f, g1, g2, g3⟩
            · exact Or.inl h
            · refine Or.inr ⟨f, g1, g2, fun s hs => ?_⟩
              rw [rvk _ (rowI (by omega)), hrv _ (rowI (by omega)) (by omega)]
              exact g3 s hs
        · intro a ha
          rw [aup_f (by omega), aup_f (by omega), hfr a (by omega)]
      | succ n ih =>
        intro t σ1 hn' ht k1 hrv hdone hfr
        have ht4 : t < 4 := by omega
        have ri := rowI (show 4 * p + t < 8 by omega)
        have ti := ptI (4 * p + t) (by omega)
        have rt := rowS ht4
        have tt := ptS t ht4
        have k3 := kd3
        have l3 := ln3
        have k12 := kd12
        have l12 := ln12
        have e1 : ((p : Int) * 4 + (t : Int)).toNat = 4 * p + t := by omega
        have e2 : (rv σ1 (4 + 2 * t)).take (cp (13 + 2 * (4 * p + t))) = sv S t := by
          rw [hrv _ rt (by omega), hsv t ht4, cpI _ (by omega)]
          exact List.take_of_length_le (sh_len (hS.2.2.1 t ht4))
        rw [s105_12]
        simp (disch := omega) only [s105_0, s105_1, s105_4, s105_7, s105_9, s105_10, s105_11, s105_13, s105_14, s105_17, s105_18, s105_21, s105_22, s105_23, s105_24, s105_25, s105_26, s105_27, s105_28, s105_31, s105_32, s105_33, s105_36, s105_39, s105_42, s105_43, s105_46, s105_47, s105_48, s105_49, s105_50, s105_53, s105_56, s105_57, List.cons_append, List.nil_append, if_true, if_false, true_and, and_true, and_self, eq_self, true_or, or_true, false_or, or_false, tIn, tLe, fLe, tLt, fLt, tEq, fEq, e1, rs_ap, aup_s, aup_n1, aup_n2, Int.toNat_natCast, kd3, ln3, kd12, ln12, ti.1, ti.2, tt.1, tt.2, ri.1, c40 ri rt (show 4 + 2 * t ≠ 13 + 2 * (4 * p + t) by omega) k1, e2]
        refine ih (t + 1) (rs σ1 (13 + 2 * (4 * p + t)) (sv S t)) (by omega) (by omega) (RK_rs k1 ri (by rw [cpI _ (by omega)]; exact sh_len (hS.2.2.1 t ht4))) (fun r hr h => ?_) (fun s hs => ?_) (fun a ha => ?_)
        · rw [rv_ne ri hr (by omega)]
          exact hrv r hr (by omega)
        · by_cases e : s = t
          · subst e; exact rv_rs
          · rw [rv_ne ri (rowI (by omega)) (by omega)]
            exact hdone s (by omega)
        · rw [rs_at (by omega) (by omega)]
          exact hfr a ha
    exact lp 4 0 σ rfl (by omega) hk (fun _ _ _ => rfl) (fun s hs => by omega) (fun _ _ => rfl)
  · rw [if_pos h0]
    simp (disch := omega) only [s105_0, s105_1, s105_4, s105_7, s105_9, s105_10, s105_11, s105_13, s105_14, s105_17, s105_18, s105_21, s105_22, s105_23, s105_24, s105_25, s105_26, s105_27, s105_28, s105_31, s105_32, s105_33, s105_36, s105_39, s105_42, s105_43, s105_46, s105_47, s105_48, s105_49, s105_50, s105_53, s105_56, s105_57, List.cons_append, List.nil_append, if_true, if_false, true_and, and_true, and_self, eq_self, true_or, or_true, false_or, or_false, tIn, tLe, fLe, tLt, fLt, tEq, fEq, c114, h0]
    exact ⟨hR0, fun _ _ => rfl⟩
theorem k106 (hR : RepC σ S) : CC m106 [.inr (.inl 0), .inl x] σ (f106 S x).1 (f106 S x).2 := by
  unfold CC
  rw [e106]
  unfold f106
  have hR0 := hR
  obtain ⟨hk, hS, hx, hsv, hfa, ⟨g, hg, hpl, hring⟩, hc, him⟩ := hR
  by_cases h0 : 0 ≤ x ∧ x < 2
  · rw [if_neg (by omega)]
    obtain ⟨p, rfl⟩ := Int.eq_ofNat_of_zero_le h0.1
    have hp : p < 2 := by omega
    have l29 := ln29
    simp only [Int.toNat_natCast]
    rcases him p hp with ⟨h, h29⟩ | ⟨f, g1, g2, g3⟩
    · rw [h]
      simp (disch := omega) only [s106_0, s106_1, s106_4, s106_7, s106_9, s106_10, s106_11, s106_14, s106_15, s106_16, s106_19, s106_21, s106_22, s106_23, s106_25, s106_26, s106_29, s106_30, s106_33, s106_34, s106_35, s106_36, s106_39, s106_40, s106_41, s106_42, s106_43, s106_44, s106_45, s106_48, s106_51, s106_54, s106_55, s106_58, s106_61, s106_62, List.cons_append, List.nil_append, if_true, if_false, true_and, and_true, and_self, eq_self, true_or, or_true, false_or, or_false, tIn, tLe, fLe, tLt, fLt, tEq, fEq, rs_ap, aup_s, aup_n1, aup_n2, Int.toNat_natCast, c114, isL, kd29, ln29, h29]
      exact ⟨hR0, fun _ _ => rfl⟩
    · rw [g1]
      have hfo := hS.2.2.2.2.2.1 p f hp g1
      simp (disch := omega) only [s106_0, s106_1, s106_4, s106_7, s106_9, s106_10, s106_11, s106_14, s106_15, s106_16, s106_19, s106_21, s106_22, s106_23, s106_25, s106_26, s106_29, s106_30, s106_33, s106_34, s106_35, s106_36, s106_39, s106_40, s106_41, s106_42, s106_43, s106_44, s106_45, s106_48, s106_51, s106_54, s106_55, s106_58, s106_61, s106_62, List.cons_append, List.nil_append, if_true, if_false, true_and, and_true, and_self, eq_self, true_or, or_true, false_or, or_false, tIn, tLe, fLe, tLt, fLt, tEq, fEq, rs_ap, aup_s, aup_n1, aup_n2, Int.toNat_natCast, c114, isL, kd29, ln29, g2]
      have lp : ∀ (n t : Nat) (σ1 : aSg), 4 - t = n → t ≤ 4 → RK σ1 → (∀ r, isRow r → (r < 4 ∨ 4 + 2 * t ≤ r) → rv σ1 r = rv σ r) → (∀ s, s < t → rv σ1 (4 + 2 * s) = f s) → (∀ a, (a < 4 ∨ 12 ≤ a) → σ1 a = σ a) → WP m106 24 [.inr (.inl 0), .inl (p : Int), .inl (t : Int)] [] σ1 (fun v σ' => v = [.inl 1] ∧ RepC σ' (tx S, f, fa S, [], im S) ∧ FrC σ σ') := by
        intro n
        induction n with
        | zero =>
          intro t σ1 hn' ht k1 hrv hdone hfr
          have et : t = 4 := by omega
          subst et
          rw [s106_24]
          simp (disch := omega) only [s106_0, s106_1, s106_4, s106_7, s106_9, s106_10, s106_11, s106_14, s106_15, s106_16, s106_19, s106_21, s106_22, s106_23, s106_25, s106_26, s106_29, s106_30, s106_33, s106_34, s106_35, s106_36, s106_39, s106_40, s106_41, s106_42, s106_43, s106_44, s106_45, s106_48, s106_51, s106_54, s106_55, s106_58, s106_61, s106_62, List.cons_append, List.nil_append, if_true, if_false, true_and, and_true, and_self, eq_self, true_or, or_true, false_or, or_false, tIn, tLe, fLe, tLt, fLt, tEq, fEq, rs_ap, aup_s, aup_n1, aup_n2, Int.toNat_natCast, c10]
          have kC : RK (aup σ1 30 2 0) := RK_aup k1 (by decide +kernel)
          have rvk : ∀ r, isRow r → rv (aup σ1 30 2 0) r = rv σ1 r := fun r hr => by
            refine rv_aup (fun e => ?_) (fun e => ?_)
            · have := row_kd hr; rw [e] at this; exact absurd this (by decide +kernel)
            · have := hr.2.2.1; rw [e] at this; exact absurd this (by decide +kernel)
          refine ⟨⟨kC, ?_, ?_, ?_, ?_, ⟨g, hg, hpl.keep (by rw [aup_f (by omega), hfr 31 (by omega)]), ?_⟩, ?_, ?_⟩, ?_⟩
          · obtain ⟨a1, a2, a3, a4, a5, a6, a7⟩ := hS
            exact ⟨a1, a2, hfo, by simp [pa], fun q hq => by simp [pa] at hq, a6, a7⟩
          · rw [rvk 1 row1, hrv 1 row1 (by omega)]; exact hx
          · intro j hj
            rw [rvk _ (rowS hj)]
            exact hdone j hj
          · rw [aup_n1 (by omega), hfr 0 (by omega)]; exact hfa
          · intro j q hq
            simp [pa] at hq
          · rw [aup_s]; rfl
          · intro i hi
            rw [aup_n1 (by omega), hfr 29 (by omega)]
            rcases him i hi with h | ⟨f', b1, b2, b3⟩
            · exact Or.inl h
            · refine Or.inr ⟨f', b1, b2, fun s hs => ?_⟩
              rw [rvk _ (rowI (by omega)), hrv _ (rowI (by omega)) (by omega)]
              exact b3 s hs
          · intro a ha
            rw [aup_f (by omega), hfr a (by omega)]
        | succ n ih =>
          intro t σ1 hn' ht k1 hrv hdone hfr
          have ht4 : t < 4 := by omega
          have ri := rowI (show 4 * p + t < 8 by omega)
          have ti := ptI (4 * p + t) (by omega)
          have rt := rowS ht4
          have tt := ptS t ht4
          have k3 := kd3
          have l3 := ln3
          have k12 := kd12
          have l12 := ln12
          have e1 : ((p : Int) * 4 + (t : Int)).toNat = 4 * p + t := by omega
          have e2 : (rv σ1 (13 + 2 * (4 * p + t))).take (cp (4 + 2 * t)) = f t := by
            rw [hrv _ ri (by omega), g3 t ht4, cpS _ ht4]
            exact List.take_of_length_le (sh_len (hfo t ht4))
          rw [s106_24]
          simp (disch := omega) only [s106_0, s106_1, s106_4, s106_7, s106_9, s106_10, s106_11, s106_14, s106_15, s106_16, s106_19, s106_21, s106_22, s106_23, s106_25, s106_26, s106_29, s106_30, s106_33, s106_34, s106_35, s106_36, s106_39, s106_40, s106_41, s106_42, s106_43, s106_44, s106_45, s106_48, s106_51, s106_54, s106_55, s106_58, s106_61, s106_62, List.cons_append, List.nil_append, if_true, if_false, true_and, and_true, and_self, eq_self, true_or, or_true, false_or, or_false, tIn, tLe, fLe, tLt, fLt, tEq, fEq, e1, rs_ap, aup_s, aup_n1, aup_n2, Int.toNat_natCast, kd3, ln3, kd12, ln12, ti.1, ti.2, tt.1, tt.2, rt.1, c40 rt ri (show 13 + 2 * (4 * p + t) ≠ 4 + 2 * t by omega) k1, e2]
          refine ih (t + 1) (rs σ1 (4 + 2 * t) (f t)) (by omega) (by omega) (RK_rs k1 rt (by rw [cpS _ ht4]; exact sh_len (hfo t ht4))) (fun r hr h => ?_) (fun s hs => ?_) (fun a ha => ?_)
          · rw [rv_ne rt hr (by omega)]
            exact hrv r hr (by omega)
          · by_cases e : s = t
            · subst e; exact rv_rs
            · rw [rv_ne rt (rowS (by omega)) (by omega)]
              exact hdone s (by omega)
          · rw [rs_at (by omega) (by omega)]
            exact hfr a ha
      exact lp 4 0 σ rfl (by omega) hk (fun _ _ _ => rfl) (fun s hs => by omega) (fun _ _ => rfl)
  · rw [if_pos h0]
    simp (disch := omega) only [s106_0, s106_1, s106_4, s106_7, s106_9, s106_10, s106_11, s106_14, s106_15, s106_16, s106_19, s106_21, s106_22, s106_23, s106_25, s106_26, s106_29, s106_30, s106_33, s106_34, s106_35, s106_36, s106_39, s106_40, s106_41, s106_42, s106_43, s106_44, s106_45, s106_48, s106_51, s106_54, s106_55, s106_58, s106_61, s106_62, List.cons_append, List.nil_append, if_true, if_false, true_and, and_true, and_self, eq_self, true_or, or_true, false_or, or_false, tIn, tLe, fLe, tLt, fLt, tEq, fEq, c114, h0]
    exact ⟨hR0, fun _ _ => rfl⟩
end PC
