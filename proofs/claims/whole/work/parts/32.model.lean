/-! the reference: its state, its plain methods -/
def tau (c : Int) : Int := if c = 1 then 0 else if c = 73 then 1 else if c = 75 then 2 else if c = 83 then 3 else if c = 66 then 4 else if c = 67 then 5 else c
def shM (σ : aSg) (b : Nat) (l : List Int) : Prop := σ 131 b = (l.length : Int) ∧ ∀ (k : Nat) (c : Int), l[k]? = some c → σ 131 (b + 1 + k) = tau c
def blM (σ : aSg) (b : Nat) (f : Nat → List Int) : Prop := ∀ s, s < 4 → shM σ (b + 121 * s) (f s)
def snp (f : Nat → List Int) : List (Nat × List Int) → List (Nat → List Int)
  | [] => []
  | q :: ps => (fun j => if j = q.1 then q.2 else f j) :: snp (fun j => if j = q.1 then q.2 else f j) ps
def RepM (σ : aSg) (S : SS) : Prop := SOk S ∧ blM σ 0 (sv S) ∧ σ 130 1 = ((pa S).length : Int) ∧ (∀ (j : Nat) (g : Nat → List Int), (snp (sv S) (pa S))[j]? = some g → blM σ (484 + 484 * ((pa S).length - 1 - j)) g) ∧ (∀ i, i < 2 → (im S i = none ∧ σ 132 i = 0) ∨ ∃ f, im S i = some f ∧ σ 132 i = 1 ∧ blM σ (5324 + 484 * i) f) ∧ σ 130 4 = ((tx S).length : Int) ∧ (∀ (k : Nat) (c : Int), (tx S)[k]? = some c → σ 133 k = c) ∧ σ 130 5 = fa S
theorem shM.keep {σ σ' : aSg} {b : Nat} {l : List Int} (h : shM σ b l) (he : σ' 131 = σ 131) : shM σ' b l := by unfold shM; rw [he]; exact h
theorem blM.keep {σ σ' : aSg} {b : Nat} {f : Nat → List Int} (h : blM σ b f) (he : σ' 131 = σ 131) : blM σ' b f := fun s hs => (h s hs).keep he
theorem RepM.keep {σ σ' : aSg} {S : SS} (h : RepM σ S) (h1 : σ' 131 = σ 131) (h2 : σ' 132 = σ 132) (h3 : σ' 133 = σ 133) (h4 : σ' 130 1 = σ 130 1 ∧ σ' 130 4 = σ 130 4 ∧ σ' 130 5 = σ 130 5) : RepM σ' S := by
  obtain ⟨a1, a2, a3, a4, a5, a6, a7, a8⟩ := h
  refine ⟨a1, a2.keep h1, by rw [h4.1]; exact a3, fun j g hg => (a4 j g hg).keep h1, fun i hi => ?_, by rw [h4.2.1]; exact a6, by rw [h3]; exact a7, by rw [h4.2.2]; exact a8⟩
  rw [h2]
  rcases a5 i hi with h | ⟨f, b1, b2, b3⟩
  · exact Or.inl h
  · exact Or.inr ⟨f, b1, b2, b3.keep h1⟩
abbrev FrM (σ σ' : aSg) : Prop := ∀ a, a < 130 → σ' a = σ a
def MM (k : aMe) (as : List AV) (σ : aSg) (x : Int) (S' : SS) : Prop := CA k as σ (fun v σ' => v = [.inl x] ∧ RepM σ' S' ∧ FrM σ σ')
/-- the term at hand -/
def tmM (σ : aSg) (l : List Int) : Prop := σ 130 7 = (l.length : Int) ∧ ∀ (k : Nat) (c : Int), l[k]? = some c → σ 134 k = tau c
section MA
variable {σ : aSg} {K : List AV → aSg → Prop} {x y z i : Int} {S : SS}
theorem aup_upA {a j : Nat} {f : Nat → Int} {v : Int} : aup (aupA σ a f) a j v = aupA σ a (fun i => if i = j then v else f i) := by
  funext b i
  unfold aup aupA
  by_cases hb : b = a
  · subst hb
    by_cases hi : i = j
    · simp [hi]
    · simp [hi]
  · simp [hb]
theorem upA_s {a j : Nat} {f : Nat → Int} : aupA σ a f a j = f j := by simp [aupA]
theorem upA_n {a b j : Nat} {f : Nat → Int} (h : b ≠ a) : aupA σ a f b j = σ b j := by simp [aupA, h]
theorem upA_id {a : Nat} : aupA σ a (σ a) = σ := by
  funext b i
  unfold aupA
  split
  · rename_i h; rw [h]
  · rfl
theorem c127 : CA m127 [.inr (.inr (.inl x)), .inr (.inr (.inl y)), .inr (.inr (.inl z))] σ K = K [.inl (if y ≤ x ∧ x ≤ z then 1 else 0)] σ := by
  rw [e127]
  have q : ∀ a b : Int, cmpL a b < 0 ↔ a < b := by intro a b; unfold cmpL; split <;> (try split) <;> omega
  have q2 : ∀ a b : Int, 0 < cmpL a b ↔ b < a := by intro a b; unfold cmpL; split <;> (try split) <;> omega
  by_cases h0 : x < y
  · simp (disch := omega) only [s127_0, s127_1, s127_2, s127_3, s127_6, s127_7, s127_9, s127_10, s127_13, s127_14, s127_17, s127_18, List.cons_append, List.nil_append, if_true, if_false, true_and, and_true, and_self, eq_self, true_or, or_true, false_or, or_false, tIn, tLe, fLe, tLt, fLt, tEq, fEq, q, q2, false_and]
  · by_cases h1 : z < x
    · simp (disch := omega) only [s127_0, s127_1, s127_2, s127_3, s127_6, s127_7, s127_9, s127_10, s127_13, s127_14, s127_17, s127_18, List.cons_append, List.nil_append, if_true, if_false, true_and, and_true, and_self, eq_self, true_or, or_true, false_or, or_false, tIn, tLe, fLe, tLt, fLt, tEq, fEq, q, q2, and_false]
    · simp (disch := omega) only [s127_0, s127_1, s127_2, s127_3, s127_6, s127_7, s127_9, s127_10, s127_13, s127_14, s127_17, s127_18, List.cons_append, List.nil_append, if_true, if_false, true_and, and_true, and_self, eq_self, true_or, or_true, false_or, or_false, tIn, tLe, fLe, tLt, fLt, tEq, fEq, q, q2]
theorem c128 : CA m128 [.inl x] σ K = K [.inl (if 97 ≤ x ∧ x ≤ 122 then 1 else 0)] σ := by
  rw [e128]
  by_cases h : 97 ≤ x ∧ x ≤ 122
  · simp (disch := omega) only [s128_0, s128_1, s128_2, s128_5, s128_8, s128_11, List.cons_append, List.nil_append, if_true, if_false, true_and, and_true, and_self, eq_self, true_or, or_true, false_or, or_false, tIn, tLe, fLe, tLt, fLt, tEq, fEq, c127]
  · simp (disch := omega) only [s128_0, s128_1, s128_2, s128_5, s128_8, s128_11, List.cons_append, List.nil_append, if_true, if_false, true_and, and_true, and_self, eq_self, true_or, or_true, false_or, or_false, tIn, tLe, fLe, tLt, fLt, tEq, fEq, c127, h]
theorem c130 : CA m130 [.inl x] σ K = K [.inl (if 0 ≤ x ∧ x ≤ 3 then 1 else 0)] σ := by
  rw [e130]
  by_cases h : 0 ≤ x ∧ x ≤ 3
  · simp (disch := omega) only [s130_0, s130_1, s130_2, s130_3, s130_6, s130_9, List.cons_append, List.nil_append, if_true, if_false, true_and, and_true, and_self, eq_self, true_or, or_true, false_or, or_false, tIn, tLe, fLe, tLt, fLt, tEq, fEq, c127]
  · simp (disch := omega) only [s130_0, s130_1, s130_2, s130_3, s130_6, s130_9, List.cons_append, List.nil_append, if_true, if_false, true_and, and_true, and_self, eq_self, true_or, or_true, false_or, or_false, tIn, tLe, fLe, tLt, fLt, tEq, fEq, c127, h]
theorem c129 : CA m129 [.inl x] σ K = K [.inl (if 1000 ≤ x then 1 else 0)] σ := by
  rw [e129]
  by_cases h0 : 1000 ≤ x
  · simp (disch := omega) only [s129_0, s129_1, s129_4, s129_7, s129_8, s129_11, s129_12, List.cons_append, List.nil_append, if_true, if_false, true_and, and_true, and_self, eq_self, true_or, or_true, false_or, or_false, tIn, tLe, fLe, tLt, fLt, tEq, fEq]
  · simp (disch := omega) only [s129_0, s129_1, s129_4, s129_7, s129_8, s129_11, s129_12, List.cons_append, List.nil_append, if_true, if_false, true_and, and_true, and_self, eq_self, true_or, or_true, false_or, or_false, tIn, tLe, fLe, tLt, fLt, tEq, fEq]
theorem c131 {s : Nat} (hs : s < 4) : CA m131 [.inr (.inl 130), .inl (s : Int)] σ K = K [.inl (σ 131 (121 * s))] σ := by
  rw [e131]
  have l0 := ln131
  have e1 : (121 * (s : Int)).toNat = 121 * s := by omega
  simp (disch := omega) only [s131_0, s131_1, s131_4, s131_6, s131_7, s131_8, s131_9, List.cons_append, List.nil_append, if_true, if_false, true_and, and_true, and_self, eq_self, true_or, or_true, false_or, or_false, tIn, tLe, fLe, tLt, fLt, tEq, fEq, rs_ap, aup_s, aup_n1, aup_n2, Int.toNat_natCast, kd131, ln131, e1]
/-- places of the model's row after a copy of 484 -/
theorem c135 {f t : Nat} (hf : f + 484 ≤ 6292) (ht : t + 484 ≤ 6292) (hd : f + 484 ≤ t ∨ t + 484 ≤ f) : CA m135 [.inr (.inl 130), .inl (f : Int), .inl (t : Int)] σ K = K [] (aupA σ 131 (va_cpy (σ 131) (σ 131) f t 484)) := by
  refine CA_eq ?_
  rw [e135]
  have l0 := ln131
  simp (disch := omega) only [s135_0, s135_1, s135_3, s135_6, s135_9, s135_10, s135_13, s135_14, s135_15, s135_16, s135_17, s135_20, s135_21, s135_22, s135_23, s135_24, s135_25, s135_28, s135_31, List.cons_append, List.nil_append, if_true, if_false, true_and, and_true, and_self, eq_self, true_or, or_true, false_or, or_false, tIn, tLe, fLe, tLt, fLt, tEq, fEq, rs_ap, aup_s, aup_n1, aup_n2, Int.toNat_natCast, isL]
  have lp : ∀ (n k : Nat), 484 - k = n → k ≤ 484 → WP m135 2 [.inr (.inl 130), .inl (f : Int), .inl (t : Int), .inl (k : Int)] [] (aupA σ 131 (va_cpy (σ 131) (σ 131) f t k)) (fun v σ' => v = [] ∧ σ' = aupA σ 131 (va_cpy (σ 131) (σ 131) f t 484)) := by
    intro n
    induction n with
    | zero =>
      intro k hn hk
      have e : k = 484 := by omega
      subst e
      rw [s135_2]
      simp (disch := omega) only [s135_0, s135_1, s135_3, s135_6, s135_9, s135_10, s135_13, s135_14, s135_15, s135_16, s135_17, s135_20, s135_21, s135_22, s135_23, s135_24, s135_25, s135_28, s135_31, List.cons_append, List.nil_append, if_true, if_false, true_and, and_true, and_self, eq_self, true_or, or_true, false_or, or_false, tIn, tLe, fLe, tLt, fLt, tEq, fEq, rs_ap, aup_s, aup_n1, aup_n2, Int.toNat_natCast]
    | succ n ih =>
      intro k hn hk
      have e1 : ((t : Int) + (k : Int)).toNat = t + k := by omega
      have e2 : ((f : Int) + (k : Int)).toNat = f + k := by omega
      rw [s135_2]
      simp (disch := omega) only [s135_0, s135_1, s135_3, s135_6, s135_9, s135_10, s135_13, s135_14, s135_15, s135_16, s135_17, s135_20, s135_21, s135_22, s135_23, s135_24, s135_25, s135_28, s135_31, List.cons_append, List.nil_append, if_true, if_false, true_and, and_true, and_self, eq_self, true_or, or_true, false_or, or_false, tIn, tLe, fLe, tLt, fLt, tEq, fEq, kd131, ln131, e1, e2, upA_s, aup_upA]
      have e3 : (fun i => if i = t + k then va_cpy (σ 131) (σ 131) f t k (f + k) else va_cpy (σ 131) (σ 131) f t k i) = va_cpy (σ 131) (σ 131) f t (k + 1) := by
        funext i
        unfold va_cpy
        by_cases h1 : i = t + k
        · rw [if_pos h1, if_neg (by omega), if_pos (by omega)]
          congr 1
          omega
        · rw [if_neg h1]
          by_cases h2 : t ≤ i ∧ i < t + k
          · rw [if_pos h2, if_pos (by omega)]
          · rw [if_neg h2, if_neg (by omega)]
      rw [e3]
      exact ih (k + 1) (by omega) (by omega)
  have e0 : aupA σ 131 (va_cpy (σ 131) (σ 131) f t 0) = σ := by
    have : va_cpy (σ 131) (σ 131) f t 0 = σ 131 := by funext i; unfold va_cpy; rw [if_neg (by omega)]
    rw [this, upA_id]
  have := lp 484 0 rfl (by omega)
  rw [e0] at this
  exact this
/-- take: the term at hand is a shelf's -/
theorem c136 {s : Nat} {l : List Int} (hs : s < 4) (h : shM σ (121 * s) l) (hl : l.length ≤ 120) (Q : List AV → aSg → Prop) (hq : ∀ σ', tmM σ' l → (∀ a, a ≠ 134 → a ≠ 130 → σ' a = σ a) → (∀ j, j ≠ 7 → σ' 130 j = σ 130 j) → Q [] σ') : CA m136 [.inr (.inl 130), .inl (s : Int)] σ Q := by
  rw [e136]
  obtain ⟨h1, h2⟩ := h
  have l0 := ln131
  have l1 := ln134
  simp (disch := omega) only [s136_0, s136_1, s136_2, s136_3, s136_6, s136_9, s136_10, s136_12, s136_13, s136_16, s136_19, s136_20, s136_23, s136_24, s136_25, s136_28, s136_30, s136_31, s136_32, s136_33, s136_34, s136_35, s136_36, s136_37, s136_38, s136_41, s136_44, List.cons_append, List.nil_append, if_true, if_false, true_and, and_true, and_self, eq_self, true_or, or_true, false_or, or_false, tIn, tLe, fLe, tLt, fLt, tEq, fEq, rs_ap, aup_s, aup_n1, aup_n2, Int.toNat_natCast, isL, c131 hs, h1]
  have lp : ∀ (n k : Nat) (σ1 : aSg), l.length - k = n → k ≤ l.length → σ1 130 7 = (l.length : Int) → (∀ j c, j < k → l[j]? = some c → σ1 134 j = tau c) → (∀ a, a ≠ 134 → a ≠ 130 → σ1 a = σ a) → (∀ j, j ≠ 7 → σ1 130 j = σ 130 j) → WP m136 11 [.inr (.inl 130), .inl (s : Int), .inl (k : Int)] [] σ1 Q := by
    intro n
    induction n with
    | zero =>
      intro k σ1 hn hk g1 g2 g3 g4
      rw [s136_11]
      simp (disch := omega) only [s136_0, s136_1, s136_2, s136_3, s136_6, s136_9, s136_10, s136_12, s136_13, s136_16, s136_19, s136_20, s136_23, s136_24, s136_25, s136_28, s136_30, s136_31, s136_32, s136_33, s136_34, s136_35, s136_36, s136_37, s136_38, s136_41, s136_44, List.cons_append, List.nil_append, if_true, if_false, true_and, and_true, and_self, eq_self, true_or, or_true, false_or, or_false, tIn, tLe, fLe, tLt, fLt, tEq, fEq, rs_ap, aup_s, aup_n1, aup_n2, Int.toNat_natCast, g1]
      exact hq σ1 ⟨g1, fun j c hc => g2 j c (by have := (List.getElem?_eq_some_iff.mp hc).1; omega) hc⟩ g3 g4
    | succ n ih =>
      intro k σ1 hn hk g1 g2 g3 g4
      have hkl : k < l.length := by omega
      have e1 : (121 * (s : Int) + 1 + (k : Int)).toNat = 121 * s + 1 + k := by omega
      have e2 : σ1 131 (121 * s + 1 + k) = tau l[k] := by rw [g3 131 (by omega) (by omega)]; exact h2 k _ (List.getElem?_eq_getElem hkl)
      rw [s136_11]
      simp (disch := omega) only [s136_0, s136_1, s136_2, s136_3, s136_6, s136_9, s136_10, s136_12, s136_13, s136_16, s136_19, s136_20, s136_23, s136_24, s136_25, s136_28, s136_30, s136_31, s136_32, s136_33, s136_34, s136_35, s136_36, s136_37, s136_38, s136_41, s136_44, List.cons_append, List.nil_append, if_true, if_false, true_and, and_true, and_self, eq_self, true_or, or_true, false_or, or_false, tIn, tLe, fLe, tLt, fLt, tEq, fEq, g1, kd131, ln131, kd134, ln134, e1, e2, Int.toNat_natCast]
      refine ih (k + 1) _ (by omega) (by omega) (by rw [aup_n1 (by omega)]; exact g1) (fun j c hj hc => ?_) (fun a ha hb => by rw [aup_f ha]; exact g3 a ha hb) (fun j hj => by rw [aup_n1 (by omega)]; exact g4 j hj)
      by_cases e : j = k
      · subst e
        rw [aup_s]
        rw [List.getElem?_eq_getElem hkl] at hc
        cases hc
        rfl
      · rw [aup_n2 e]
        exact g2 j c (by omega) hc
  exact lp l.length 0 _ rfl (by omega) aup_s (fun j c hj => by omega) (fun a _ hb => aup_f hb) (fun j hj => aup_n2 hj)
end MA
