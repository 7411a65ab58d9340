/-! the reference: stack, written, writeTerm -/
def arM (σ : aSg) (j a : Nat) (l : List Int) : Prop := σ 130 j = (l.length : Int) ∧ ∀ (k : Nat) (c : Int), l[k]? = some c → σ a k = c
abbrev FrA (a j : Nat) (σ σ' : aSg) : Prop := (∀ b, b ≠ a → b ≠ 130 → σ' b = σ b) ∧ ∀ i, i ≠ j → σ' 130 i = σ 130 i
def stM (σ : aSg) (st : List Int) : Prop := arM σ 11 136 st.reverse
def wrM (σ : aSg) (W : List Int) : Prop := arM σ 34 151 W
/-- what the reference may use for the day -/
def FrG (σ σ' : aSg) : Prop := (∀ a, a < 134 → a ≠ 130 → σ' a = σ a) ∧ σ' 130 1 = σ 130 1 ∧ σ' 130 4 = σ 130 4 ∧ σ' 130 5 = σ 130 5
section RSC
variable {σ σ0 σ' : aSg} {K : List AV → aSg → Prop} {x y z i : Int} {S : SS} {T W st : List Int} {r q t a j b k : Nat}
theorem arM_add {l : List Int} (ha : a ≠ 130) (h : arM σ j a l) : arM (aup (aup σ a l.length x) 130 j ((l.length + 1 : Nat) : Int)) j a (l ++ [x]) := by
  obtain ⟨h1, h2⟩ := h
  refine ⟨by rw [aup_s]; simp, fun k d hd => ?_⟩
  rw [aup_n1 ha]
  by_cases e : k < l.length
  · rw [List.getElem?_append_left e] at hd
    rw [aup_n2 (by omega)]
    exact h2 k d hd
  · rw [List.getElem?_append_right (by omega)] at hd
    have hz : k - l.length < 1 := (List.getElem?_eq_some_iff.mp hd).1
    rw [show k - l.length = 0 by omega] at hd
    cases hd
    rw [show k = l.length by omega, aup_s]
theorem arM_fr {l : List Int} (h : arM σ j a l) (hf : FrA b k σ σ') (h1 : a ≠ b) (h2 : a ≠ 130) (h3 : j ≠ k) : arM σ' j a l := ⟨by rw [hf.2 j h3]; exact h.1, by rw [hf.1 a h1 h2]; exact h.2⟩
theorem tmM_fr {l : List Int} (h : tmM σ l) (hf : FrA b k σ σ') (h1 : 134 ≠ b) (h3 : 7 ≠ k) : tmM σ' l := ⟨by rw [hf.2 7 h3]; exact h.1, by rw [hf.1 134 h1 (by omega)]; exact h.2⟩
theorem FrA_up (ha : a ≠ 130) {u v : Int} {n : Nat} : FrA a j σ (aup (aup σ a n u) 130 j v) := ⟨fun b h1 h2 => by rw [aup_f h2, aup_f h1], fun i hi => by rw [aup_n2 hi, aup_n1 (by omega)]⟩
theorem FrA_G (h : FrA a j σ σ') (ha : 134 ≤ a) (hj : j ≠ 1 ∧ j ≠ 4 ∧ j ≠ 5) : FrG σ σ' := ⟨fun b h1 h2 => h.1 b (by omega) h2, h.2 1 (by omega), h.2 4 (by omega), h.2 5 (by omega)⟩
theorem FrG_tr {σ1 σ2 : aSg} (h : FrG σ σ1) (h' : FrG σ1 σ2) : FrG σ σ2 := ⟨fun a h1 h2 => (h'.1 a h1 h2).trans (h.1 a h1 h2), h'.2.1.trans h.2.1, h'.2.2.1.trans h.2.2.1, h'.2.2.2.trans h.2.2.2⟩
theorem FrG_rf : FrG σ σ := ⟨fun _ _ _ => rfl, rfl, rfl, rfl⟩
theorem RepM_G (hR : RepM σ S) (h : FrG σ σ') : RepM σ' S := hR.keep (h.1 131 (by omega) (by omega)) (h.1 132 (by omega) (by omega)) (h.1 133 (by omega) (by omega)) h.2
theorem c132 {n : Nat} (hn : σ 130 11 = n) (h : n < 2200) : CA m132 [.inr (.inl 130), .inl x] σ K = K [] (aup (aup σ 136 n x) 130 11 ((n + 1 : Nat) : Int)) := by
  rw [e132]
  have l0 := ln136
  simp (disch := omega) only [s132_0, s132_1, s132_4, s132_5, s132_8, s132_9, s132_10, s132_11, s132_12, s132_15, s132_16, s132_17, s132_20, List.cons_append, List.nil_append, if_true, if_false, true_and, and_true, and_self, eq_self, true_or, or_true, false_or, or_false, tIn, tLe, fLe, tLt, fLt, tEq, fEq, rs_ap, aup_s, aup_n1, aup_n2, Int.toNat_natCast, kd136, ln136, hn]
  rfl
theorem zpush (h : stM σ st) (hl : st.length < 2200) (Q : List AV → aSg → Prop) (hq : ∀ σ', stM σ' (x :: st) → FrA 136 11 σ σ' → Q [] σ') : CA m132 [.inr (.inl 130), .inl x] σ Q := by
  have h' : arM σ 11 136 st.reverse := h
  have hn : σ 130 11 = ((st.reverse.length : Nat) : Int) := h'.1
  refine Eq.mpr (c132 hn (by simpa using hl)) ?_
  refine hq _ ?_ (FrA_up (by omega))
  have := arM_add (x := x) (by omega) h'
  rw [← List.reverse_cons] at this
  exact this
theorem zpop {v : Int} (h : stM σ (v :: st)) (hl : st.length < 2200) (Q : List AV → aSg → Prop) (hq : ∀ σ', stM σ' st → FrA 136 11 σ σ' → Q [.inl v] σ') : CA m133 [.inr (.inl 130)] σ Q := by
  rw [e133]
  have l0 := ln136
  obtain ⟨h1, h2⟩ := h
  have e1 : σ 130 11 = (st.length : Int) + 1 := by rw [h1]; simp
  have e2 : σ 136 st.length = v := h2 _ _ (by rw [List.reverse_cons, List.getElem?_append_right (by simp)]; simp)
  have e3 : ((st.length : Int) + 1 - 1).toNat = st.length := by omega
  simp (disch := omega) only [s133_0, s133_1, s133_2, s133_5, s133_6, s133_7, s133_10, s133_11, s133_14, s133_15, s133_18, s133_19, List.cons_append, List.nil_append, if_true, if_false, true_and, and_true, and_self, eq_self, true_or, or_true, false_or, or_false, tIn, tLe, fLe, tLt, fLt, tEq, fEq, rs_ap, aup_s, aup_n1, aup_n2, Int.toNat_natCast, kd136, ln136, e1, e3, e2]
  refine hq _ ⟨by rw [aup_s]; simp, fun k c hc => ?_⟩ ⟨fun b _ h2 => by rw [aup_f h2], fun i hi => by rw [aup_n2 hi]⟩
  rw [aup_n1 (by omega)]
  apply h2
  rw [List.reverse_cons, List.getElem?_append_left (List.getElem?_eq_some_iff.mp hc).1]
  exact hc
theorem c188 {n : Nat} (hn : σ 130 34 = n) (h : n < 800) : CA m188 [.inr (.inl 130), .inl x] σ K = K [] (aup (aup σ 151 n x) 130 34 ((n + 1 : Nat) : Int)) := by
  rw [e188]
  have l0 := ln151
  simp (disch := omega) only [s188_0, s188_1, s188_4, s188_5, s188_8, s188_9, s188_10, s188_11, s188_12, s188_15, s188_16, s188_17, s188_20, List.cons_append, List.nil_append, if_true, if_false, true_and, and_true, and_self, eq_self, true_or, or_true, false_or, or_false, tIn, tLe, fLe, tLt, fLt, tEq, fEq, rs_ap, aup_s, aup_n1, aup_n2, Int.toNat_natCast, kd151, ln151, hn]
  rfl
theorem zwrite (h : wrM σ W) (hl : W.length < 800) (Q : List AV → aSg → Prop) (hq : ∀ σ', wrM σ' (W ++ [x]) → FrA 151 34 σ σ' → Q [] σ') : CA m188 [.inr (.inl 130), .inl x] σ Q := by
  have h' : arM σ 34 151 W := h
  refine Eq.mpr (c188 h'.1 hl) ?_
  exact hq _ (arM_add (by omega) h') (FrA_up (by omega))
def lSg (x : Int) : Int := if x = 1 then 73 else if x = 2 then 75 else if x = 3 then 83 else if x = 4 then 66 else 67
theorem c191 : CA m191 [.inl x] σ K = K [.inl (lSg x)] σ := by
  rw [e191]
  unfold lSg
  by_cases h1 : x = 1
  · simp (disch := omega) only [s191_0, s191_1, s191_2, s191_5, s191_7, s191_10, s191_11, s191_12, s191_15, s191_17, s191_20, s191_21, s191_22, s191_25, s191_27, s191_30, s191_31, s191_32, s191_35, s191_37, s191_40, s191_42, List.cons_append, List.nil_append, if_true, if_false, true_and, and_true, and_self, eq_self, true_or, or_true, false_or, or_false, tIn, tLe, fLe, tLt, fLt, tEq, fEq, isL]
  by_cases h2 : x = 2
  · simp (disch := omega) only [s191_0, s191_1, s191_2, s191_5, s191_7, s191_10, s191_11, s191_12, s191_15, s191_17, s191_20, s191_21, s191_22, s191_25, s191_27, s191_30, s191_31, s191_32, s191_35, s191_37, s191_40, s191_42, List.cons_append, List.nil_append, if_true, if_false, true_and, and_true, and_self, eq_self, true_or, or_true, false_or, or_false, tIn, tLe, fLe, tLt, fLt, tEq, fEq, isL]
  by_cases h3 : x = 3
  · simp (disch := omega) only [s191_0, s191_1, s191_2, s191_5, s191_7, s191_10, s191_11, s191_12, s191_15, s191_17, s191_20, s191_21, s191_22, s191_25, s191_27, s191_30, s191_31, s191_32, s191_35, s191_37, s191_40, s191_42, List.cons_append, List.nil_append, if_true, if_false, true_and, and_true, and_self, eq_self, true_or, or_true, false_or, or_false, tIn, tLe, fLe, tLt, fLt, tEq, fEq, isL]
  by_cases h4 : x = 4
  · simp (disch := omega) only [s191_0, s191_1, s191_2, s191_5, s191_7, s191_10, s191_11, s191_12, s191_15, s191_17, s191_20, s191_21, s191_22, s191_25, s191_27, s191_30, s191_31, s191_32, s191_35, s191_37, s191_40, s191_42, List.cons_append, List.nil_append, if_true, if_false, true_and, and_true, and_self, eq_self, true_or, or_true, false_or, or_false, tIn, tLe, fLe, tLt, fLt, tEq, fEq, isL]
  simp (disch := omega) only [s191_0, s191_1, s191_2, s191_5, s191_7, s191_10, s191_11, s191_12, s191_15, s191_17, s191_20, s191_21, s191_22, s191_25, s191_27, s191_30, s191_31, s191_32, s191_35, s191_37, s191_40, s191_42, List.cons_append, List.nil_append, if_true, if_false, true_and, and_true, and_self, eq_self, true_or, or_true, false_or, or_false, tIn, tLe, fLe, tLt, fLt, tEq, fEq, isL]
theorem lSg_tau {c : Int} (h : tok c) (h1 : ¬ c = 1) (h2 : ¬ 1000 < c) (h3 : ¬ (97 ≤ tau c ∧ tau c ≤ 122)) : lSg (tau c) = c := by
  unfold tok at h
  unfold tau at h3
  unfold lSg tau
  repeat' split
  all_goals first | omega | (repeat' split at h3) <;> omega
theorem nm_tau {c : Int} (h : tok c) (h3 : 97 ≤ tau c ∧ tau c ≤ 122) : tau c = c := by
  unfold tok at h
  unfold tau at h3 ⊢
  repeat' split
  all_goals first | omega | (repeat' split at h3) <;> omega
/-- the state of the reference's writing -/
def SRI (σ0 σ : aSg) (T W st : List Int) : Prop := tmM σ T ∧ wrM σ W ∧ stM σ st ∧ FrG σ0 σ ∧ ∀ a, a < 130 → σ a = σ0 a
theorem SRI_s {st' : List Int} (h : SRI σ0 σ T W st) (h1 : stM σ' st') (hf : FrA 136 11 σ σ') : SRI σ0 σ' T W st' := ⟨tmM_fr h.1 hf (by omega) (by omega), arM_fr h.2.1 hf (by omega) (by omega) (by omega), h1, FrG_tr h.2.2.2.1 (FrA_G hf (by omega) (by omega)), fun a ha => (hf.1 a (by omega) (by omega)).trans (h.2.2.2.2 a ha)⟩
theorem SRI_w {W' : List Int} (h : SRI σ0 σ T W st) (h1 : wrM σ' W') (hf : FrA 151 34 σ σ') : SRI σ0 σ' T W' st := ⟨tmM_fr h.1 hf (by omega) (by omega), h1, arM_fr h.2.2.1 hf (by omega) (by omega) (by omega), FrG_tr h.2.2.2.1 (FrA_G hf (by omega) (by omega)), fun a ha => (hf.1 a (by omega) (by omega)).trans (h.2.2.2.2 a ha)⟩
theorem op192 {st' : List Int} {v b : Int} (h : SRI σ0 σ T W st) (hc : st.length + 3 < 2200) (hb : (b = 1 ∧ st' = -40 :: v :: -41 :: st) ∨ (b = 0 ∧ st' = v :: st)) (Q : List AV → aSg → Prop) (hq : ∀ σ', SRI σ0 σ' T W st' → Q [] σ') : CA m192 [.inr (.inl 130), .inl v, .inl b] σ Q := by
  rw [e192]
  rcases hb with ⟨rfl, rfl⟩ | ⟨rfl, rfl⟩
  · simp (disch := omega) only [s192_0, s192_1, s192_4, s192_5, s192_7, s192_10, s192_11, s192_12, s192_15, s192_16, s192_19, s192_20, s192_22, s192_25, List.cons_append, List.nil_append, if_true, if_false, true_and, and_true, and_self, eq_self, true_or, or_true, false_or, or_false, tIn, tLe, fLe, tLt, fLt, tEq, fEq, isL]
    refine zpush h.2.2.1 (by omega) _ (fun σ1 w1 f1 => ?_)
    have i1 := SRI_s h w1 f1
    simp (disch := omega) only [s192_0, s192_1, s192_4, s192_5, s192_7, s192_10, s192_11, s192_12, s192_15, s192_16, s192_19, s192_20, s192_22, s192_25, List.cons_append, List.nil_append, if_true, if_false, true_and, and_true, and_self, eq_self, true_or, or_true, false_or, or_false, tIn, tLe, fLe, tLt, fLt, tEq, fEq, isL]
    refine zpush i1.2.2.1 (by simp; omega) _ (fun σ2 w2 f2 => ?_)
    have i2 := SRI_s i1 w2 f2
    simp (disch := omega) only [s192_0, s192_1, s192_4, s192_5, s192_7, s192_10, s192_11, s192_12, s192_15, s192_16, s192_19, s192_20, s192_22, s192_25, List.cons_append, List.nil_append, if_true, if_false, true_and, and_true, and_self, eq_self, true_or, or_true, false_or, or_false, tIn, tLe, fLe, tLt, fLt, tEq, fEq, isL]
    refine zpush i2.2.2.1 (by simp; omega) _ (fun σ3 w3 f3 => ?_)
    simp (disch := omega) only [s192_0, s192_1, s192_4, s192_5, s192_7, s192_10, s192_11, s192_12, s192_15, s192_16, s192_19, s192_20, s192_22, s192_25, List.cons_append, List.nil_append, if_true, if_false, true_and, and_true, and_self, eq_self, true_or, or_true, false_or, or_false, tIn, tLe, fLe, tLt, fLt, tEq, fEq, isL]
    exact hq σ3 (SRI_s i2 w3 f3)
  · simp (disch := omega) only [s192_0, s192_1, s192_4, s192_5, s192_7, s192_10, s192_11, s192_12, s192_15, s192_16, s192_19, s192_20, s192_22, s192_25, List.cons_append, List.nil_append, if_true, if_false, true_and, and_true, and_self, eq_self, true_or, or_true, false_or, or_false, tIn, tLe, fLe, tLt, fLt, tEq, fEq, isL]
    refine zpush h.2.2.1 (by omega) _ (fun σ1 w1 f1 => ?_)
    simp (disch := omega) only [s192_0, s192_1, s192_4, s192_5, s192_7, s192_10, s192_11, s192_12, s192_15, s192_16, s192_19, s192_20, s192_22, s192_25, List.cons_append, List.nil_append, if_true, if_false, true_and, and_true, and_self, eq_self, true_or, or_true, false_or, or_false, tIn, tLe, fLe, tLt, fLt, tEq, fEq, isL]
    exact hq σ1 (SRI_s h w1 f1)
theorem wr193 (h : SRI σ0 σ T W st) (hT : isT T) (hkT : tks T) (hl : T.length ≤ 120) {p : Nat} (hp : p < T.length) (g1 : T[p] = 1) (hs : st.length ≤ 400) (Q : List AV → aSg → Prop) (hq : ∀ σ', SRI σ0 σ' T W (scP T (p : Int) st) → Q [] σ') : CA m193 [.inr (.inl 130), .inl (p : Int)] σ Q := by
  rw [e193]
  have hg := List.getElem?_eq_getElem hp
  obtain ⟨a1, a2, a3⟩ := te_2 hT hg (by rw [g1]; rfl)
  have t1 := te_gt hT a1
  have l0 := ln134
  have l1 := lat_i2 a1
  have l2 := lat_i2 a2
  have eq : scQ T (p : Int) = ((te T (p + 1) : Nat) : Int) := by unfold scQ; rw [Int.toNat_natCast]
  have ep : (p : Int) + 1 = ((p + 1 : Nat) : Int) := by omega
  have m1 := h.1.2 _ _ (List.getElem?_eq_getElem a1)
  have m2 := h.1.2 _ _ (List.getElem?_eq_getElem a2)
  have k1 := hkT _ (List.getElem_mem a1)
  have k2 := hkT _ (List.getElem_mem a2)
  have tb1 := tau_b k1
  have tb2 := tau_b k2
  have tz2 := tau_0 k2
  unfold scP at hq
  rw [eq, ep, l1, l2] at hq
  have fin : ∀ (b1 : Int) (s1 : List Int), ((b1 = 1 ∧ s1 = -40 :: (te T (p + 1) : Int) :: -41 :: st) ∨ (b1 = 0 ∧ s1 = (te T (p + 1) : Int) :: st)) → s1.length ≤ st.length + 3 → (∀ σ', SRI σ0 σ' T W (scO ((p + 1 : Nat) : Int) (1000 < T[p + 1]) s1) → Q [] σ') → CA m192 [.inr (.inl 130), .inl (te T (p + 1) : Int), .inl b1] σ (fun v σ2 => WP m193 39 [.inr (.inl 130), .inl (p : Int), .inl (te T (p + 1) : Int)] (v ++ []) σ2 Q) := by
    intro b1 s1 q1 q3 q4
    refine op192 h (by omega) q1 _ (fun σ1 i1 => ?_)
    have n1 := i1.1.2 _ _ (List.getElem?_eq_getElem a1)
    by_cases g : 1000 < T[p + 1]
    · have g' := tb1.mpr g
      simp (disch := omega) only [s193_0, s193_1, s193_2, s193_3, s193_4, s193_7, s193_8, s193_9, s193_10, s193_11, s193_14, s193_15, s193_16, s193_19, s193_20, s193_23, s193_24, s193_25, s193_28, s193_31, s193_32, s193_35, s193_36, s193_39, s193_40, s193_41, s193_42, s193_43, s193_44, s193_47, s193_48, s193_49, s193_50, s193_51, s193_54, s193_57, List.cons_append, List.nil_append, if_true, if_false, true_and, and_true, and_self, eq_self, true_or, or_true, false_or, or_false, tIn, tLe, fLe, tLt, fLt, tEq, fEq, isL, ep, kd134, ln134, Int.toNat_natCast, n1, c129]
      refine op192 i1 (by omega) (Or.inl ⟨rfl, rfl⟩) _ (fun σ2 i2 => ?_)
      simp (disch := omega) only [s193_0, s193_1, s193_2, s193_3, s193_4, s193_7, s193_8, s193_9, s193_10, s193_11, s193_14, s193_15, s193_16, s193_19, s193_20, s193_23, s193_24, s193_25, s193_28, s193_31, s193_32, s193_35, s193_36, s193_39, s193_40, s193_41, s193_42, s193_43, s193_44, s193_47, s193_48, s193_49, s193_50, s193_51, s193_54, s193_57, List.cons_append, List.nil_append, if_true, if_false, true_and, and_true, and_self, eq_self, true_or, or_true, false_or, or_false, tIn, tLe, fLe, tLt, fLt, tEq, fEq, isL]
      exact q4 σ2 (by unfold scO; rw [if_pos g]; exact i2)
    · have g' : ¬ 1000 ≤ tau T[p + 1] := fun z => g (tb1.mp z)
      simp (disch := omega) only [s193_0, s193_1, s193_2, s193_3, s193_4, s193_7, s193_8, s193_9, s193_10, s193_11, s193_14, s193_15, s193_16, s193_19, s193_20, s193_23, s193_24, s193_25, s193_28, s193_31, s193_32, s193_35, s193_36, s193_39, s193_40, s193_41, s193_42, s193_43, s193_44, s193_47, s193_48, s193_49, s193_50, s193_51, s193_54, s193_57, List.cons_append, List.nil_append, if_true, if_false, true_and, and_true, and_self, eq_self, true_or, or_true, false_or, or_false, tIn, tLe, fLe, tLt, fLt, tEq, fEq, isL, ep, kd134, ln134, Int.toNat_natCast, n1, c129]
      refine op192 i1 (by omega) (Or.inr ⟨rfl, rfl⟩) _ (fun σ2 i2 => ?_)
      simp (disch := omega) only [s193_0, s193_1, s193_2, s193_3, s193_4, s193_7, s193_8, s193_9, s193_10, s193_11, s193_14, s193_15, s193_16, s193_19, s193_20, s193_23, s193_24, s193_25, s193_28, s193_31, s193_32, s193_35, s193_36, s193_39, s193_40, s193_41, s193_42, s193_43, s193_44, s193_47, s193_48, s193_49, s193_50, s193_51, s193_54, s193_57, List.cons_append, List.nil_append, if_true, if_false, true_and, and_true, and_self, eq_self, true_or, or_true, false_or, or_false, tIn, tLe, fLe, tLt, fLt, tEq, fEq, isL]
      exact q4 σ2 (by unfold scO; rw [if_neg g]; exact i2)
  by_cases n1 : T[te T (p + 1)] = 1
  · have e2 : scO (te T (p + 1) : Int) (T[te T (p + 1)] = 1 ∨ 1000 < T[te T (p + 1)]) st = -40 :: (te T (p + 1) : Int) :: -41 :: st := by unfold scO; rw [if_pos (Or.inl n1)]
    rw [e2] at hq
    have z2 := tz2.mpr n1
    simp (disch := omega) only [s193_0, s193_1, s193_2, s193_3, s193_4, s193_7, s193_8, s193_9, s193_10, s193_11, s193_14, s193_15, s193_16, s193_19, s193_20, s193_23, s193_24, s193_25, s193_28, s193_31, s193_32, s193_35, s193_36, s193_39, s193_40, s193_41, s193_42, s193_43, s193_44, s193_47, s193_48, s193_49, s193_50, s193_51, s193_54, s193_57, List.cons_append, List.nil_append, if_true, if_false, true_and, and_true, and_self, eq_self, true_or, or_true, false_or, or_false, tIn, tLe, fLe, tLt, fLt, tEq, fEq, isL, ep, kd134, ln134, Int.toNat_natCast, c149 h.1 hT hkT (show T.length ≤ 2200 by omega) a1, m2, z2]
    exact fin 1 _ (Or.inl ⟨rfl, rfl⟩) (by simp) hq
  · have z2 : ¬ tau T[te T (p + 1)] = 0 := fun z => n1 (tz2.mp z)
    by_cases n2 : 1000 < T[te T (p + 1)]
    · have e2 : scO (te T (p + 1) : Int) (T[te T (p + 1)] = 1 ∨ 1000 < T[te T (p + 1)]) st = -40 :: (te T (p + 1) : Int) :: -41 :: st := by unfold scO; rw [if_pos (Or.inr n2)]
      rw [e2] at hq
      have g' := tb2.mpr n2
      simp (disch := omega) only [s193_0, s193_1, s193_2, s193_3, s193_4, s193_7, s193_8, s193_9, s193_10, s193_11, s193_14, s193_15, s193_16, s193_19, s193_20, s193_23, s193_24, s193_25, s193_28, s193_31, s193_32, s193_35, s193_36, s193_39, s193_40, s193_41, s193_42, s193_43, s193_44, s193_47, s193_48, s193_49, s193_50, s193_51, s193_54, s193_57, List.cons_append, List.nil_append, if_true, if_false, true_and, and_true, and_self, eq_self, true_or, or_true, false_or, or_false, tIn, tLe, fLe, tLt, fLt, tEq, fEq, isL, ep, kd134, ln134, Int.toNat_natCast, c149 h.1 hT hkT (show T.length ≤ 2200 by omega) a1, m2, c129]
      exact fin 1 _ (Or.inl ⟨rfl, rfl⟩) (by simp) hq
    · have e2 : scO (te T (p + 1) : Int) (T[te T (p + 1)] = 1 ∨ 1000 < T[te T (p + 1)]) st = (te T (p + 1) : Int) :: st := by unfold scO; rw [if_neg (by rintro (q | q) <;> contradiction)]
      rw [e2] at hq
      have g' : ¬ 1000 ≤ tau T[te T (p + 1)] := fun z => n2 (tb2.mp z)
      simp (disch := omega) only [s193_0, s193_1, s193_2, s193_3, s193_4, s193_7, s193_8, s193_9, s193_10, s193_11, s193_14, s193_15, s193_16, s193_19, s193_20, s193_23, s193_24, s193_25, s193_28, s193_31, s193_32, s193_35, s193_36, s193_39, s193_40, s193_41, s193_42, s193_43, s193_44, s193_47, s193_48, s193_49, s193_50, s193_51, s193_54, s193_57, List.cons_append, List.nil_append, if_true, if_false, true_and, and_true, and_self, eq_self, true_or, or_true, false_or, or_false, tIn, tLe, fLe, tLt, fLt, tEq, fEq, isL, ep, kd134, ln134, Int.toNat_natCast, c149 h.1 hT hkT (show T.length ≤ 2200 by omega) a1, m2, c129]
      exact fin 0 _ (Or.inr ⟨rfl, rfl⟩) (by simp) hq
end RSC
