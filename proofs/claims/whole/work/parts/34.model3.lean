/-! the reference: lay and the plain calls -/
section MC
variable {σ : aSg} {K : List AV → aSg → Prop} {x y z i : Int} {S : SS}
theorem lay_ok {s : Nat} {l : List Int} (hR : RepM σ S) (hs : s < 4) (hl : tmM σ l) (hw : l.length ≤ 120 → shOk l) : MM m138 [.inr (.inl 130), .inl (s : Int)] σ (layS S s l).1 (layS S s l).2 := by
  unfold MM
  rw [e138]
  unfold layS
  obtain ⟨t1, t2⟩ := hl
  by_cases h0 : 120 < l.length
  · rw [if_pos h0]
    simp (disch := omega) only [s138_0, s138_1, s138_4, s138_6, s138_9, s138_11, s138_12, s138_13, s138_16, s138_17, s138_20, s138_22, s138_23, s138_24, s138_25, s138_28, s138_29, s138_30, s138_32, s138_33, s138_36, s138_39, s138_40, s138_43, s138_45, s138_46, s138_47, s138_48, s138_49, s138_50, s138_51, s138_52, s138_55, s138_56, s138_57, s138_58, s138_61, s138_64, s138_65, s138_68, List.cons_append, List.nil_append, if_true, if_false, true_and, and_true, and_self, eq_self, true_or, or_true, false_or, or_false, tIn, tLe, fLe, tLt, fLt, tEq, fEq, t1]
    exact ⟨hR, fun _ _ => rfl⟩
  · rw [if_neg h0]
    simp (disch := omega) only [s138_0, s138_1, s138_4, s138_6, s138_9, s138_11, s138_12, s138_13, s138_16, s138_17, s138_20, s138_22, s138_23, s138_24, s138_25, s138_28, s138_29, s138_30, s138_32, s138_33, s138_36, s138_39, s138_40, s138_43, s138_45, s138_46, s138_47, s138_48, s138_49, s138_50, s138_51, s138_52, s138_55, s138_56, s138_57, s138_58, s138_61, s138_64, s138_65, s138_68, List.cons_append, List.nil_append, if_true, if_false, true_and, and_true, and_self, eq_self, true_or, or_true, false_or, or_false, tIn, tLe, fLe, tLt, fLt, tEq, fEq, t1]
    refine past_ok hR _ (fun σ1 p0 pu pp pi pf p130 => ?_)
    have l0 := ln131
    have l1 := ln134
    have t1' : σ1 130 7 = (l.length : Int) := by rw [p130 7 (by omega)]; exact t1
    have e1 : (121 * (s : Int)).toNat = 121 * s := by omega
    simp (disch := omega) only [s138_0, s138_1, s138_4, s138_6, s138_9, s138_11, s138_12, s138_13, s138_16, s138_17, s138_20, s138_22, s138_23, s138_24, s138_25, s138_28, s138_29, s138_30, s138_32, s138_33, s138_36, s138_39, s138_40, s138_43, s138_45, s138_46, s138_47, s138_48, s138_49, s138_50, s138_51, s138_52, s138_55, s138_56, s138_57, s138_58, s138_61, s138_64, s138_65, s138_68, List.cons_append, List.nil_append, if_true, if_false, true_and, and_true, and_self, eq_self, true_or, or_true, false_or, or_false, tIn, tLe, fLe, tLt, fLt, tEq, fEq, t1', kd131, ln131, e1, isL]
    have lp : ∀ (n k : Nat) (σ2 : aSg), l.length - k = n → k ≤ l.length → σ2 131 (121 * s) = (l.length : Int) → (∀ j c, j < k → l[j]? = some c → σ2 131 (121 * s + 1 + j) = tau c) → (∀ a, a ≠ 131 → σ2 a = σ1 a) → (∀ q, (q < 121 * s ∨ 121 * s + 121 ≤ q) → σ2 131 q = σ1 131 q) → WP m138 31 [.inr (.inl 130), .inl (s : Int), .inl (k : Int)] [] σ2 (fun v σ' => v = [.inl (l.length : Int)] ∧ RepM σ' (setS S s l) ∧ FrM σ σ') := by
      intro n
      induction n with
      | zero =>
        intro k σ2 hn hk g1 g2 g3 g4
        have t2' : σ2 130 7 = (l.length : Int) := by rw [g3 130 (by omega)]; exact t1'
        rw [s138_31]
        simp (disch := omega) only [s138_0, s138_1, s138_4, s138_6, s138_9, s138_11, s138_12, s138_13, s138_16, s138_17, s138_20, s138_22, s138_23, s138_24, s138_25, s138_28, s138_29, s138_30, s138_32, s138_33, s138_36, s138_39, s138_40, s138_43, s138_45, s138_46, s138_47, s138_48, s138_49, s138_50, s138_51, s138_52, s138_55, s138_56, s138_57, s138_58, s138_61, s138_64, s138_65, s138_68, List.cons_append, List.nil_append, if_true, if_false, true_and, and_true, and_self, eq_self, true_or, or_true, false_or, or_false, tIn, tLe, fLe, tLt, fLt, tEq, fEq, t2']
        have hS := hR.1
        have blo : ∀ b f, 484 ≤ b → blM σ1 b f → blM σ2 b f := by
          intro b f hb h t ht
          obtain ⟨a1, a2⟩ := h t ht
          refine ⟨?_, fun k c hc => ?_⟩
          · rw [g4 _ (by omega)]; exact a1
          · rw [g4 _ (by omega)]; exact a2 k c hc
        have hpl : (pa (setS S s l)).length = (((0, ([] : List Int)) :: pa S).take 10).length := by
          show (((s, sv S s) :: pa S).take 10).length = _
          simp
        refine ⟨⟨SOk_set hS hs (hw (by omega)), ?_, ?_, ?_, ?_, ?_, ?_, ?_⟩, ?_⟩
        · intro t ht
          show shM σ2 _ (if t = s then l else sv S t)
          by_cases e : t = s
          · subst e
            rw [if_pos rfl]
            refine ⟨by rw [Nat.zero_add]; exact g1, fun j c hc => ?_⟩
            rw [Nat.zero_add]
            exact g2 j c (by have := (List.getElem?_eq_some_iff.mp hc).1; omega) hc
          · rw [if_neg e]
            obtain ⟨a1, a2⟩ := p0 t ht
            have h120 := sh_len (hS.2.2.1 t ht)
            refine ⟨?_, fun j c hc => ?_⟩
            · rw [g4 _ (by omega)]; exact a1
            · have := (List.getElem?_eq_some_iff.mp hc).1
              rw [g4 _ (by omega)]; exact a2 j c hc
        · rw [hpl, g3 130 (by omega)]
          exact pu
        · intro j g hg
          rw [snp_set] at hg
          have hj : j < 10 := by
            have := (List.getElem?_eq_some_iff.mp hg).1
            simp at this
            omega
          rw [List.getElem?_take, if_pos hj] at hg
          rw [hpl]
          exact blo _ _ (by omega) (pp j g hg hj)
        · intro i hi
          have e132 : σ2 132 = σ 132 := by rw [g3 132 (by omega), pf 132 (by omega) (by omega)]
          rw [e132]
          rcases hR.2.2.2.2.1 i hi with h | ⟨f, b1, b2, b3⟩
          · exact Or.inl h
          · refine Or.inr ⟨f, b1, b2, blo _ _ (by omega) (fun t ht => ?_)⟩
            obtain ⟨a1, a2⟩ := b3 t ht
            refine ⟨?_, fun k c hc => ?_⟩
            · rw [pi _ (by omega)]; exact a1
            · rw [pi _ (by omega)]; exact a2 k c hc
        · rw [g3 130 (by omega), p130 4 (by omega)]
          exact hR.2.2.2.2.2.1
        · intro k c hc
          rw [g3 133 (by omega), pf 133 (by omega) (by omega)]
          exact hR.2.2.2.2.2.2.1 k c hc
        · rw [g3 130 (by omega), p130 5 (by omega)]
          exact hR.2.2.2.2.2.2.2
        · intro a ha
          rw [g3 a (by omega), pf a (by omega) (by omega)]
      | succ n ih =>
        intro k σ2 hn hk g1 g2 g3 g4
        have hkl : k < l.length := by omega
        have t2' : σ2 130 7 = (l.length : Int) := by rw [g3 130 (by omega)]; exact t1'
        have e2 : (121 * (s : Int) + 1 + (k : Int)).toNat = 121 * s + 1 + k := by omega
        have e3 : σ2 134 k = tau l[k] := by rw [g3 134 (by omega), pf 134 (by omega) (by omega)]; exact t2 k _ (List.getElem?_eq_getElem hkl)
        rw [s138_31]
        simp (disch := omega) only [s138_0, s138_1, s138_4, s138_6, s138_9, s138_11, s138_12, s138_13, s138_16, s138_17, s138_20, s138_22, s138_23, s138_24, s138_25, s138_28, s138_29, s138_30, s138_32, s138_33, s138_36, s138_39, s138_40, s138_43, s138_45, s138_46, s138_47, s138_48, s138_49, s138_50, s138_51, s138_52, s138_55, s138_56, s138_57, s138_58, s138_61, s138_64, s138_65, s138_68, List.cons_append, List.nil_append, if_true, if_false, true_and, and_true, and_self, eq_self, true_or, or_true, false_or, or_false, tIn, tLe, fLe, tLt, fLt, tEq, fEq, t2', kd131, ln131, kd134, ln134, e2, e3, Int.toNat_natCast]
        refine ih (k + 1) _ (by omega) (by omega) (by rw [aup_n2 (by omega)]; exact g1) (fun j c hj hc => ?_) (fun a ha => by rw [aup_f ha]; exact g3 a ha) (fun q hq => by rw [aup_n2 (by omega)]; exact g4 q hq)
        by_cases e : j = k
        · subst e
          rw [aup_s]
          rw [List.getElem?_eq_getElem hkl] at hc
          cases hc
          rfl
        · rw [aup_n2 (by omega)]
          exact g2 j c (by omega) hc
    exact lp l.length 0 _ rfl (by omega) aup_s (fun j c hj => by omega) (fun a ha => aup_f ha) (fun q hq => aup_n2 (by omega))
theorem m148_ok (hR : RepM σ S) : MM m148 [.inr (.inl 130)] σ (f89 S).1 (f89 S).2 := by
  unfold MM
  rw [e148]
  simp (disch := omega) only [s148_0, s148_1, s148_4, List.cons_append, List.nil_append, if_true, if_false, true_and, and_true, and_self, eq_self, true_or, or_true, false_or, or_false, tIn, tLe, fLe, tLt, fLt, tEq, fEq, hR.2.2.2.2.2.2.2]
  exact ⟨rfl, hR, fun _ _ => rfl⟩
theorem m140_ok (hR : RepM σ S) : MM m140 [.inr (.inl 130), .inl x] σ (f87 S x).1 (f87 S x).2 := by
  unfold MM
  rw [e140]
  unfold f87
  have hR0 := hR
  obtain ⟨hS, h0, hu, hp, hi, hl, htx, hfa⟩ := hR
  have h240 : (tx S).length ≤ 240 := hS.1
  by_cases g0 : x < 0 ∨ 255 < x
  · rw [if_pos g0]
    have g1 : ¬ (0 ≤ x ∧ x ≤ 255) := by omega
    simp (disch := omega) only [s140_0, s140_1, s140_2, s140_3, s140_6, s140_9, s140_12, s140_14, s140_15, s140_16, s140_19, s140_22, s140_25, s140_27, s140_28, s140_29, s140_32, s140_33, s140_36, s140_37, s140_38, s140_39, s140_40, s140_43, s140_44, s140_45, s140_48, s140_49, s140_52, List.cons_append, List.nil_append, if_true, if_false, true_and, and_true, and_self, eq_self, true_or, or_true, false_or, or_false, tIn, tLe, fLe, tLt, fLt, tEq, fEq, c127, g1]
    exact ⟨hR0, fun _ _ => rfl⟩
  · rw [if_neg g0]
    by_cases g1 : 240 ≤ (tx S).length
    · rw [if_pos g1]
      simp (disch := omega) only [s140_0, s140_1, s140_2, s140_3, s140_6, s140_9, s140_12, s140_14, s140_15, s140_16, s140_19, s140_22, s140_25, s140_27, s140_28, s140_29, s140_32, s140_33, s140_36, s140_37, s140_38, s140_39, s140_40, s140_43, s140_44, s140_45, s140_48, s140_49, s140_52, List.cons_append, List.nil_append, if_true, if_false, true_and, and_true, and_self, eq_self, true_or, or_true, false_or, or_false, tIn, tLe, fLe, tLt, fLt, tEq, fEq, c127, hl]
      exact ⟨hR0, fun _ _ => rfl⟩
    · rw [if_neg g1]
      have l0 := ln133
      simp (disch := omega) only [s140_0, s140_1, s140_2, s140_3, s140_6, s140_9, s140_12, s140_14, s140_15, s140_16, s140_19, s140_22, s140_25, s140_27, s140_28, s140_29, s140_32, s140_33, s140_36, s140_37, s140_38, s140_39, s140_40, s140_43, s140_44, s140_45, s140_48, s140_49, s140_52, List.cons_append, List.nil_append, if_true, if_false, true_and, and_true, and_self, eq_self, true_or, or_true, false_or, or_false, tIn, tLe, fLe, tLt, fLt, tEq, fEq, rs_ap, aup_s, aup_n1, aup_n2, Int.toNat_natCast, c127, hl, kd133, ln133]
      refine ⟨⟨?_, h0.keep ?_, ?_, fun j g hg => (hp j g hg).keep ?_, fun i hi' => ?_, ?_, fun k c hc => ?_, ?_⟩, ?_⟩
      · obtain ⟨h1, h2, h3⟩ := hS
        refine ⟨by simp [tx] at *; omega, ?_, h3⟩
        intro c hc
        rcases List.mem_append.mp hc with hc | hc
        · exact h2 c hc
        · rw [List.mem_singleton.mp hc]; omega
      · rw [aup_f (by omega), aup_f (by omega)]
      · rw [aup_n2 (by omega), aup_n1 (by omega)]; exact hu
      · rw [aup_f (by omega), aup_f (by omega)]
      · rw [aup_f (by omega), aup_f (by omega)]
        rcases hi i hi' with h | ⟨f, b1, b2, b3⟩
        · exact Or.inl h
        · exact Or.inr ⟨f, b1, b2, b3.keep (by rw [aup_f (by omega), aup_f (by omega)])⟩
      · rw [aup_s]
        show _ = (((tx S ++ [x]).length : Nat) : Int)
        simp
      · have hc' : (tx S ++ [x])[k]? = some c := hc
        rw [aup_n1 (by omega)]
        by_cases e : k < (tx S).length
        · rw [List.getElem?_append_left e] at hc'
          rw [aup_n2 (by omega)]
          exact htx k c hc'
        · rw [List.getElem?_append_right (by omega)] at hc'
          have hz : k - (tx S).length < 1 := (List.getElem?_eq_some_iff.mp hc').1
          rw [show k - (tx S).length = 0 by omega] at hc'
          cases hc'
          rw [show k = (tx S).length by omega]
          exact aup_s
      · rw [aup_n2 (by omega), aup_n1 (by omega)]; exact hfa
      · intro a ha
        rw [aup_f (by omega), aup_f (by omega)]
theorem shl (hR : RepM σ S) {s : Nat} (hs : s < 4) : σ 131 (121 * s) = ((sv S s).length : Int) := by
  have := (hR.2.1 s hs).1
  rw [Nat.zero_add] at this
  exact this
theorem m194_ok (hR : RepM σ S) : MM m194 [.inr (.inl 130), .inl x] σ (f98 S x).1 (f98 S x).2 := by
  unfold MM
  rw [e194]
  unfold f98
  by_cases h0 : x = 0
  · simp (disch := omega) only [s194_0, s194_1, s194_28, s194_29, s194_32, s194_33, s194_34, s194_35, s194_36, s194_38, s194_39, s194_42, s194_43, s194_44, s194_45, s194_48, s194_51, s194_52, s194_53, s194_54, s194_57, s194_58, s194_59, s194_60, s194_63, s194_66, s194_67, s194_68, s194_69, s194_72, s194_73, s194_75, List.cons_append, List.nil_append, if_true, if_false, true_and, and_true, and_self, eq_self, true_or, or_true, false_or, or_false, tIn, tLe, fLe, tLt, fLt, tEq, fEq, hR.2.2.2.2.2.1]
    exact ⟨hR, fun _ _ => rfl⟩
  by_cases h1 : x = 1
  · simp (disch := omega) only [s194_0, s194_1, s194_28, s194_29, s194_32, s194_33, s194_34, s194_35, s194_36, s194_38, s194_39, s194_42, s194_43, s194_44, s194_45, s194_48, s194_51, s194_52, s194_53, s194_54, s194_57, s194_58, s194_59, s194_60, s194_63, s194_66, s194_67, s194_68, s194_69, s194_72, s194_73, s194_75, List.cons_append, List.nil_append, if_true, if_false, true_and, and_true, and_self, eq_self, true_or, or_true, false_or, or_false, tIn, tLe, fLe, tLt, fLt, tEq, fEq, isL]
    have hrange : ∀ s : Nat, s < 4 → inI (1 * 2 ^ s) := by
      intro s hs
      match s, hs with
      | 0, _ => exact ⟨by decide, by decide⟩
      | 1, _ => exact ⟨by decide, by decide⟩
      | 2, _ => exact ⟨by decide, by decide⟩
      | 3, _ => exact ⟨by decide, by decide⟩
    have b1 : ∀ (s : Nat) (acc : Int) (Q : List AV → aSg → Prop), s < 4 → inI acc → (WP m194 37 [.inr (.inl 130), .inl x, .inl acc, .inl (s : Int)] [] σ Q = WP m194 37 [.inr (.inl 130), .inl x, .inl (bitE S s acc), .inl ((s + 1 : Nat) : Int)] [] σ Q) := by
      intro s acc Q hs hacc
      rw [s194_37]
      have hb := hrange s hs
      have hb1 := hb.1
      have hb2 := hb.2
      have hsz := shl hR hs
      unfold bitE
      by_cases h0 : sv S s = []
      · have : bitA (· ||| ·) acc 0 = acc := by
          unfold bitA
          have e0 : Int32.ofInt 0 = 0 := rfl
          simp only [e0, Int32.or_zero]
          exact o32 hacc
        simp (disch := omega) only [s194_0, s194_1, s194_28, s194_29, s194_32, s194_33, s194_34, s194_35, s194_36, s194_38, s194_39, s194_42, s194_43, s194_44, s194_45, s194_48, s194_51, s194_52, s194_53, s194_54, s194_57, s194_58, s194_59, s194_60, s194_63, s194_66, s194_67, s194_68, s194_69, s194_72, s194_73, s194_75, List.cons_append, List.nil_append, if_true, if_false, true_and, and_true, and_self, eq_self, true_or, or_true, false_or, or_false, tIn, tLe, fLe, tLt, fLt, tEq, fEq, rs_ap, aup_s, aup_n1, aup_n2, Int.toNat_natCast, c131 hs, hsz, h0, List.length_nil, Int.natCast_zero, this]
        rfl
      · have hpos : 0 < (sv S s).length := List.length_pos_iff.mpr h0
        simp (disch := omega) only [s194_0, s194_1, s194_28, s194_29, s194_32, s194_33, s194_34, s194_35, s194_36, s194_38, s194_39, s194_42, s194_43, s194_44, s194_45, s194_48, s194_51, s194_52, s194_53, s194_54, s194_57, s194_58, s194_59, s194_60, s194_63, s194_66, s194_67, s194_68, s194_69, s194_72, s194_73, s194_75, List.cons_append, List.nil_append, if_true, if_false, true_and, and_true, and_self, eq_self, true_or, or_true, false_or, or_false, tIn, tLe, fLe, tLt, fLt, tEq, fEq, rs_ap, aup_s, aup_n1, aup_n2, Int.toNat_natCast, c131 hs, hsz, h0]
        rfl
    have hE : ∀ (s : Nat) (acc : Int), inI acc → inI (bitE S s acc) := by
      intro s acc h
      unfold bitE
      split
      · exact h
      · exact bit_in _ _ _
    have i0 : inI 0 := ⟨by decide, by decide⟩
    have a0 := b1 0 0 (fun v σ' => v = [.inl (bitsS S)] ∧ RepM σ' S ∧ FrM σ σ') (by omega) i0
    have a1 := b1 1 (bitE S 0 0) (fun v σ' => v = [.inl (bitsS S)] ∧ RepM σ' S ∧ FrM σ σ') (by omega) (hE _ _ i0)
    have a2 := b1 2 (bitE S 1 (bitE S 0 0)) (fun v σ' => v = [.inl (bitsS S)] ∧ RepM σ' S ∧ FrM σ σ') (by omega) (hE _ _ (hE _ _ i0))
    have a3 := b1 3 (bitE S 2 (bitE S 1 (bitE S 0 0))) (fun v σ' => v = [.inl (bitsS S)] ∧ RepM σ' S ∧ FrM σ σ') (by omega) (hE _ _ (hE _ _ (hE _ _ i0)))
    refine Eq.mpr (a0.trans (a1.trans (a2.trans a3))) ?_
    rw [s194_37]
    simp (disch := omega) only [s194_0, s194_1, s194_28, s194_29, s194_32, s194_33, s194_34, s194_35, s194_36, s194_38, s194_39, s194_42, s194_43, s194_44, s194_45, s194_48, s194_51, s194_52, s194_53, s194_54, s194_57, s194_58, s194_59, s194_60, s194_63, s194_66, s194_67, s194_68, s194_69, s194_72, s194_73, s194_75, List.cons_append, List.nil_append, if_true, if_false, true_and, and_true, and_self, eq_self, true_or, or_true, false_or, or_false, tIn, tLe, fLe, tLt, fLt, tEq, fEq]
    exact ⟨rfl, hR, fun _ _ => rfl⟩
  by_cases h2 : x = 2
  · simp (disch := omega) only [s194_0, s194_1, s194_28, s194_29, s194_32, s194_33, s194_34, s194_35, s194_36, s194_38, s194_39, s194_42, s194_43, s194_44, s194_45, s194_48, s194_51, s194_52, s194_53, s194_54, s194_57, s194_58, s194_59, s194_60, s194_63, s194_66, s194_67, s194_68, s194_69, s194_72, s194_73, s194_75, List.cons_append, List.nil_append, if_true, if_false, true_and, and_true, and_self, eq_self, true_or, or_true, false_or, or_false, tIn, tLe, fLe, tLt, fLt, tEq, fEq, hR.2.2.1]
    exact ⟨hR, fun _ _ => rfl⟩
  simp (disch := omega) only [s194_0, s194_1, s194_28, s194_29, s194_32, s194_33, s194_34, s194_35, s194_36, s194_38, s194_39, s194_42, s194_43, s194_44, s194_45, s194_48, s194_51, s194_52, s194_53, s194_54, s194_57, s194_58, s194_59, s194_60, s194_63, s194_66, s194_67, s194_68, s194_69, s194_72, s194_73, s194_75, List.cons_append, List.nil_append, if_true, if_false, true_and, and_true, and_self, eq_self, true_or, or_true, false_or, or_false, tIn, tLe, fLe, tLt, fLt, tEq, fEq]
  exact ⟨hR, fun _ _ => rfl⟩
theorem m162_ok (hR : RepM σ S) : MM m162 [.inr (.inl 130), .inl x] σ (f95 S x).1 (f95 S x).2 := by
  unfold MM
  rw [e162]
  unfold f95
  by_cases h0 : 0 ≤ x ∧ x < 4
  · rw [if_neg (by omega)]
    obtain ⟨s, rfl⟩ := Int.eq_ofNat_of_zero_le h0.1
    have hs : s < 4 := by omega
    have hsz := shl hR hs
    rw [Int.toNat_natCast]
    by_cases he : sv S s = []
    · simp (disch := omega) only [s162_0, s162_1, s162_4, s162_7, s162_9, s162_10, s162_11, s162_12, s162_15, s162_16, s162_17, s162_20, s162_22, s162_23, s162_24, s162_25, s162_28, s162_29, s162_30, s162_33, s162_34, s162_35, List.cons_append, List.nil_append, if_true, if_false, true_and, and_true, and_self, eq_self, true_or, or_true, false_or, or_false, tIn, tLe, fLe, tLt, fLt, tEq, fEq, c130, isL, c131 hs, hsz, he, List.length_nil, Int.natCast_zero]
      exact ⟨hR, fun _ _ => rfl⟩
    · have hpos : 0 < (sv S s).length := List.length_pos_iff.mpr he
      rw [if_neg he]
      simp (disch := omega) only [s162_0, s162_1, s162_4, s162_7, s162_9, s162_10, s162_11, s162_12, s162_15, s162_16, s162_17, s162_20, s162_22, s162_23, s162_24, s162_25, s162_28, s162_29, s162_30, s162_33, s162_34, s162_35, List.cons_append, List.nil_append, if_true, if_false, true_and, and_true, and_self, eq_self, true_or, or_true, false_or, or_false, tIn, tLe, fLe, tLt, fLt, tEq, fEq, c130, isL, c131 hs, hsz]
      have hR1 : RepM (aup σ 130 7 0) S := hR.keep (aup_f (by omega)) (aup_f (by omega)) (aup_f (by omega)) ⟨aup_n2 (by omega), aup_n2 (by omega), aup_n2 (by omega)⟩
      refine CA_use (lay_ok (l := []) hR1 hs ⟨aup_s, fun k c hc => by simp at hc⟩ (fun _ => Or.inl rfl)) (fun v σ' h => ?_)
      obtain ⟨rfl, h2, h3⟩ := h
      simp (disch := omega) only [s162_0, s162_1, s162_4, s162_7, s162_9, s162_10, s162_11, s162_12, s162_15, s162_16, s162_17, s162_20, s162_22, s162_23, s162_24, s162_25, s162_28, s162_29, s162_30, s162_33, s162_34, s162_35, List.cons_append, List.nil_append, if_true, if_false, true_and, and_true, and_self, eq_self, true_or, or_true, false_or, or_false, tIn, tLe, fLe, tLt, fLt, tEq, fEq]
      exact ⟨h2, fun a ha => (h3 a ha).trans (aup_f (by omega))⟩
  · rw [if_pos h0]
    have g1 : ¬ (0 ≤ x ∧ x ≤ 3) := by omega
    simp (disch := omega) only [s162_0, s162_1, s162_4, s162_7, s162_9, s162_10, s162_11, s162_12, s162_15, s162_16, s162_17, s162_20, s162_22, s162_23, s162_24, s162_25, s162_28, s162_29, s162_30, s162_33, s162_34, s162_35, List.cons_append, List.nil_append, if_true, if_false, true_and, and_true, and_self, eq_self, true_or, or_true, false_or, or_false, tIn, tLe, fLe, tLt, fLt, tEq, fEq, c130, g1]
    exact ⟨hR, fun _ _ => rfl⟩
end MC
