/-! term: the reference -/
def RMI (σ0 σ : aSg) (lv : List Lv) (nx : Nat) : Prop := σ 130 7 = ((conc lv).length : Int) + (if nx = 1 then 1 else 0) ∧ (∀ (k : Nat) (c : Int), (conc lv)[k]? = some c → σ 134 k = tau c) ∧ σ 130 14 + 1 = (lv.length : Int) ∧ (∀ (k : Nat) (v : Int), (stsL lv).reverse[k]? = some v → σ 137 k = v) ∧ (∀ (k : Nat) (v : Int), (bdL lv).reverse[k]? = some v → σ 138 k = v) ∧ σ 130 15 = (nx : Int) ∧ FrG σ0 σ ∧ ∀ a, a < 130 → σ a = σ0 a
def stp (s : List Int) (b : Bool) : List Lv → List Lv
  | [] => [(b, s)]
  | y :: l => if b = true then (b, s) :: y :: l else stp (y.2 ++ s) y.1 l
section TRR
variable {σ σ0 σ' : aSg} {K : List AV → aSg → Prop} {x y z i n c pl : Int} {S : SS} {T W st F R s : List Int} {r q t j k p nx w : Nat} {b : Bool} {l lv : List Lv}
theorem bdL_len : ∀ l : List Lv, (bdL l).length = l.length := by
  intro l; induction l with
  | nil => rfl
  | cons x l ih => cases l with
    | nil => rfl
    | cons y l => simp [bdL] at ih ⊢; exact ih
theorem bdL_in : ∀ (l : List Lv) (v : Int), v ∈ bdL l → v = 0 ∨ v = 1 := by
  intro l; induction l with
  | nil => intro v hv; simp [bdL] at hv
  | cons x l ih => cases l with
    | nil => intro v hv; simp [bdL] at hv; exact Or.inl hv
    | cons y l =>
      intro v hv
      simp only [bdL, List.mem_cons] at hv
      rcases hv with rfl | hv
      · split <;> simp
      · exact ih v (by simpa using hv)
theorem rev_top {α : Type} (x : α) (l : List α) : (x :: l).reverse[l.length]? = some x := by
  rw [List.reverse_cons, List.getElem?_append_right (by simp)]; simp
theorem G_up {j : Nat} {v : Int} (hj : j ≠ 1 ∧ j ≠ 4 ∧ j ≠ 5) : FrG σ (aup σ 130 j v) := ⟨fun a _ h2 => aup_f h2, aup_n2 (by omega), aup_n2 (by omega), aup_n2 (by omega)⟩
theorem G_ua {a j : Nat} {v : Int} (ha : 134 ≤ a) : FrG σ (aup σ a j v) := ⟨fun b h1 h2 => aup_f (by omega), aup_n1 (by omega), aup_n1 (by omega), aup_n1 (by omega)⟩
theorem c142 (h : RMI σ0 σ ((b, s) :: l) 0) (hl : l.length ≤ 241) : CA m142 [.inr (.inl 130)] σ K = K [.inl (if s = [] then 0 else 1)] σ := by
  rw [e142]
  obtain ⟨h1, h2, h3, h4, h5, h6, h7, h8⟩ := h
  have l0 := ln137
  have e14 : σ 130 14 = (l.length : Int) := by simp at h3; omega
  have hb : σ 137 l.length = ((conc l).length : Int) := h4 _ _ (by have := rev_top ((conc l).length : Int) (stsL l); rw [stsL_len] at this; exact this)
  have e7 : σ 130 7 = ((conc l).length : Int) + (s.length : Int) := by rw [h1]; simp [conc]
  by_cases g : s = []
  · subst g
    rw [if_pos rfl]
    have e7' : σ 130 7 = ((conc l).length : Int) := by simpa using e7
    simp (disch := omega) only [s142_0, s142_1, s142_4, s142_5, s142_8, s142_9, s142_12, s142_13, s142_16, s142_17, s142_20, s142_21, List.cons_append, List.nil_append, if_true, if_false, true_and, and_true, and_self, eq_self, true_or, or_true, false_or, or_false, tIn, tLe, fLe, tLt, fLt, tEq, fEq, isL, e14, e7', kd137, ln137, Int.toNat_natCast, hb]
  · rw [if_neg g]
    have := List.length_pos_iff.mpr g
    simp (disch := omega) only [s142_0, s142_1, s142_4, s142_5, s142_8, s142_9, s142_12, s142_13, s142_16, s142_17, s142_20, s142_21, List.cons_append, List.nil_append, if_true, if_false, true_and, and_true, and_self, eq_self, true_or, or_true, false_or, or_false, tIn, tLe, fLe, tLt, fLt, tEq, fEq, isL, e14, e7, kd137, ln137, Int.toNat_natCast, hb]
theorem rm141 (h : RMI σ0 σ lv nx) (hne : lv ≠ []) (hl : lv.length ≤ 240) (h0 : nx ≠ 1) {y : Int} (hy : y = 0 ∨ y = 1) (Q : List AV → aSg → Prop) (hq : ∀ σ', RMI σ0 σ' ((decide (y = 0), []) :: lv) nx → Q [] σ') : CA m141 [.inr (.inl 130), .inl y] σ Q := by
  rw [e141]
  obtain ⟨h1, h2, h3, h4, h5, h6, h7, h8⟩ := h
  rw [if_neg h0] at h1
  have l0 := ln137
  have l1 := ln138
  have hpos := List.length_pos_iff.mpr hne
  have e14 : σ 130 14 = ((lv.length - 1 : Nat) : Int) := by omega
  have e15 : ((lv.length - 1 : Nat) : Int) + 1 = (lv.length : Int) := by omega
  have n1 := stsL_len lv
  have n2 := bdL_len lv
  simp (disch := omega) only [s141_0, s141_1, s141_2, s141_5, s141_6, s141_7, s141_10, s141_11, s141_14, s141_15, s141_18, s141_19, s141_22, s141_23, s141_24, s141_27, s141_28, s141_31, s141_32, s141_33, List.cons_append, List.nil_append, if_true, if_false, true_and, and_true, and_self, eq_self, true_or, or_true, false_or, or_false, tIn, tLe, fLe, tLt, fLt, tEq, fEq, isL, e14, e15, aup_s, aup_n2, aup_n1, kd137, ln137, kd138, ln138, Int.toNat_natCast, h1, hy]
  refine hq _ ⟨?_, ?_, ?_, ?_, ?_, ?_, ?_, ?_⟩
  · rw [aup_n1 (by omega), aup_n1 (by omega), aup_n2 (by omega), h1, if_neg h0]; simp [conc]
  · intro k c hc
    rw [aup_n1 (by omega), aup_n1 (by omega), aup_n1 (by omega)]
    exact h2 k c (by simpa [conc] using hc)
  · rw [aup_n1 (by omega), aup_n1 (by omega), aup_s]; simp
  · intro k v hv
    rw [aup_n1 (by omega)]
    simp only [stsL, List.reverse_cons] at hv
    by_cases e : k < lv.length
    · rw [List.getElem?_append_left (by simpa [n1] using e)] at hv
      rw [aup_n2 (by omega), aup_n1 (by omega)]
      exact h4 k v hv
    · rw [List.getElem?_append_right (by simp [n1]; omega)] at hv
      have hz := (List.getElem?_eq_some_iff.mp hv).1
      simp [n1] at hz
      have : k = lv.length := by omega
      subst this
      simp [n1] at hv
      rw [aup_s]; omega
  · intro k v hv
    have eb : bdL ((decide (y = 0), []) :: lv) = y :: bdL lv := by
      cases lv with
      | nil => exact absurd rfl hne
      | cons z l => simp only [bdL]; rcases hy with rfl | rfl <;> simp
    rw [eb, List.reverse_cons] at hv
    by_cases e : k < lv.length
    · rw [List.getElem?_append_left (by simpa [n2] using e)] at hv
      rw [aup_n2 (by omega), aup_n1 (by omega), aup_n1 (by omega)]
      exact h5 k v hv
    · rw [List.getElem?_append_right (by simp [n2]; omega)] at hv
      have hz := (List.getElem?_eq_some_iff.mp hv).1
      simp [n2] at hz
      have : k = lv.length := by omega
      subst this
      simp [n2] at hv
      rw [aup_s]; omega
  · rw [aup_n1 (by omega), aup_n1 (by omega), aup_n2 (by omega)]; exact h6
  · exact FrG_tr h7 (FrG_tr (G_up (by omega)) (FrG_tr (G_ua (by omega)) (G_ua (by omega))))
  · intro a ha
    rw [aup_f (by omega), aup_f (by omega), aup_f (by omega)]; exact h8 a ha
end TRR
