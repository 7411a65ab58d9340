/-! Row: what a row of numbers is, and what its methods do -/
theorem CA_eq {me : aMe} {as : List AV} {σ σ0 : aSg} {v0 : List AV} {K : List AV → aSg → Prop} (h : CA me as σ (fun v σ' => v = v0 ∧ σ' = σ0)) : CA me as σ K = K v0 σ0 := by
  obtain ⟨n, v, σ', h1, rfl, rfl⟩ := h
  apply propext
  constructor
  · rintro ⟨m, v2, σ2, h2, hk⟩
    have e1 := runN_le (Nat.le_max_left n m) h1
    have e2 := runN_le (Nat.le_max_right n m) h2
    rw [e1] at e2
    cases e2
    exact hk
  · intro hk
    exact ⟨n, v, σ', h1, hk⟩
def isRow (r : Nat) : Prop := isO r 3 ∧ (0 ≤ PT r 0 ∧ pt r 0 = r + 1) ∧ kdS (r + 1) = 20 ∧ ln (r + 1) ≤ 10000
def cp (r : Nat) : Nat := ln (r + 1)
def rv (σ : aSg) (r : Nat) : List Int := (List.range (σ r 1).toNat).map (σ (r + 1))
def rs (σ : aSg) (r : Nat) (l : List Int) : aSg := fun a i => if a = r ∧ i = 1 then (l.length : Int) else if a = r + 1 ∧ i < l.length then l.getD i 0 else σ a i
def RK (σ : aSg) : Prop := ∀ r, isRow r → 0 ≤ σ r 1 ∧ σ r 1 ≤ cp r
theorem row_kd {r : Nat} (h : isRow r) : kdS r = 3 := by
  have := h.1
  unfold isO at this
  exact (kd_of this).1
theorem row_sep {r q : Nat} (h : isRow r) (hq : isRow q) : q ≠ r + 1 := by
  intro e
  have h1 := row_kd hq
  rw [e, h.2.2.1] at h1
  omega
theorem rv_len {σ : aSg} {r : Nat} (hk : RK σ) (h : isRow r) : ((rv σ r).length : Int) = σ r 1 := by
  have := hk r h
  simp [rv]
  omega
theorem rv_le {σ : aSg} {r : Nat} (hk : RK σ) (h : isRow r) : (rv σ r).length ≤ cp r := by
  have := hk r h
  have := rv_len hk h
  omega
theorem cp_le {r : Nat} (h : isRow r) : cp r ≤ 10000 := h.2.2.2
theorem rv_at {σ : aSg} {r i : Nat} (h : i < (rv σ r).length) : (rv σ r)[i]? = some (σ (r + 1) i) := by
  simp [rv] at h
  simp [rv, h]
theorem rv_getD {σ : aSg} {r i : Nat} (h : i < (rv σ r).length) : (rv σ r).getD i 0 = σ (r + 1) i := by rw [List.getD_eq_getElem?_getD, rv_at h]; rfl
theorem rv_rs {σ : aSg} {r : Nat} {l : List Int} : rv (rs σ r l) r = l := by
  apply List.ext_getElem?
  intro i
  have e1 : (rs σ r l) r 1 = l.length := by simp [rs]
  by_cases hi : i < l.length
  · rw [rv_at (by simp [rv, e1, hi])]
    simp [rs, hi]
  · rw [List.getElem?_eq_none (by simp [rv, e1]; omega), List.getElem?_eq_none (by omega)]
theorem rs_at {σ : aSg} {r a : Nat} {l : List Int} (h1 : a ≠ r) (h2 : a ≠ r + 1) : (rs σ r l) a = σ a := by
  funext i
  simp [rs, h1, h2]
theorem rv_ne {σ : aSg} {r q : Nat} {l : List Int} (h : isRow r) (hq : isRow q) (hn : q ≠ r) : rv (rs σ r l) q = rv σ q := by
  have h1 := row_sep h hq
  have h2 := row_sep hq h
  unfold rv
  rw [rs_at hn h1, rs_at (a := q + 1) (fun e => h2 e.symm) (by omega)]
theorem rv_same {σ σ' : aSg} {q : Nat} (h1 : σ' q = σ q) (h2 : σ' (q + 1) = σ (q + 1)) : rv σ' q = rv σ q := by unfold rv; rw [h1, h2]
theorem RK_rs {σ : aSg} {r : Nat} {l : List Int} (hk : RK σ) (h : isRow r) (hl : l.length ≤ cp r) : RK (rs σ r l) := by
  intro q hq
  by_cases hn : q = r
  · subst hn
    have e1 : (rs σ q l) q 1 = l.length := by simp [rs]
    rw [e1]
    exact ⟨by omega, by omega⟩
  · rw [rs_at hn (row_sep h hq)]
    exact hk q hq
theorem rs_self {σ : aSg} {r : Nat} (hk : RK σ) (h : isRow r) : rs σ r (rv σ r) = σ := by
  funext a i
  unfold rs
  split
  · rename_i e
    obtain ⟨rfl, rfl⟩ := e
    exact rv_len hk h
  · split
    · rename_i e
      obtain ⟨rfl, e2⟩ := e
      exact rv_getD e2
    · rfl
theorem rs_grow {σ : aSg} {r : Nat} {l l' : List Int} (h : l.length ≤ l'.length) : rs (rs σ r l) r l' = rs σ r l' := by
  funext a i
  unfold rs
  by_cases h1 : a = r ∧ i = 1
  · simp [h1]
  · simp only [h1, if_false]
    by_cases h2 : a = r + 1 ∧ i < l'.length
    · simp [h2]
    · simp only [h2, if_false]
      rw [if_neg]
      rintro ⟨e1, e2⟩
      exact h2 ⟨e1, by omega⟩
/-- a memory that differs from σ in a row alone -/
theorem rs_of {σ σ' : aSg} {r : Nat} {l : List Int} (h0 : ∀ a i, a ≠ r → a ≠ r + 1 → σ' a i = σ a i) (h1 : ∀ i, i ≠ 1 → σ' r i = σ r i) (h2 : σ' r 1 = l.length) (h3 : ∀ i, i < l.length → σ' (r + 1) i = l.getD i 0) (h4 : ∀ i, l.length ≤ i → σ' (r + 1) i = σ (r + 1) i) : σ' = rs σ r l := by
  funext a i
  unfold rs
  by_cases e1 : a = r
  · subst e1
    by_cases e2 : i = 1
    · simp [e2, h2]
    · simp [e2, h1 i e2]
  · by_cases e3 : a = r + 1
    · subst e3
      by_cases e4 : i < l.length
      · simp [e4, h3 i e4]
      · simp [e4, h4 i (by omega)]
    · simp [e1, e3, h0 a i e1 e3]
def lat (l : List Int) (i : Int) : Int := if 0 ≤ i then l.getD i.toNat 0 else 0
def lset (l : List Int) (i v : Int) : List Int := if 0 ≤ i then l.set i.toNat v else l
def ladd (c : Nat) (l : List Int) (v : Int) : List Int := if l.length < c then l ++ [v] else l
def lins (c : Nat) (l : List Int) (p v : Int) : List Int := if 0 ≤ p ∧ p ≤ l.length ∧ l.length < c then l.take p.toNat ++ v :: l.drop p.toNat else l
def lpart (c : Nat) (l o : List Int) (s e : Int) : List Int := l ++ ((o.take e.toNat).drop s.toNat).take (c - l.length)
theorem tIn {x : Int} (h : -2147483648 ≤ x ∧ x ≤ 2147483647) : inI x = True := eq_true h
theorem tLe {a b : Int} (h : a ≤ b) : (a ≤ b) = True := eq_true h
theorem fLe {a b : Int} (h : ¬ a ≤ b) : (a ≤ b) = False := eq_false h
theorem tLt {a b : Int} (h : a < b) : (a < b) = True := eq_true h
theorem fLt {a b : Int} (h : ¬ a < b) : (a < b) = False := eq_false h
theorem tEq {a b : Int} (h : a = b) : (a = b) = True := eq_true h
theorem fEq {a b : Int} (h : ¬ a = b) : (a = b) = False := eq_false h
section ROW
variable {σ : aSg} {r q : Nat} {K : List AV → aSg → Prop} {x y i : Int}
theorem c28 (h : isRow r) (hk : RK σ) : CA m28 [.inr (.inl r)] σ K = K [.inl ((rv σ r).length : Int)] σ := by
  rw [e28]
  simp only [s28_0, s28_1, s28_4, rv_len hk h, h.1, true_and]
theorem c29 (h : isRow r) (hk : RK σ) : CA m29 [.inr (.inl r)] σ K = K [] (rs σ r []) := by
  rw [e29]
  simp only [s29_0, s29_1, s29_2, s29_5, h.1, true_and]
  congr 1
  refine rs_of (fun a i h1 h2 => by simp [aup, h1]) (fun i hi => by simp [aup, hi]) (by simp [aup]) (fun i hi => by simp at hi) (fun i hi => by simp [aup])
theorem getD_out {l : List Int} {i : Nat} (h : l.length ≤ i) : l.getD i 0 = 0 := by rw [List.getD_eq_getElem?_getD, List.getElem?_eq_none h]; rfl
theorem lat_in {l : List Int} {i : Nat} (h : i < l.length) : lat l i = l[i] := by simp [lat, h]
theorem c30 (h : isRow r) (hk : RK σ) : CA m30 [.inr (.inl r), .inl i] σ K = K [.inl (lat (rv σ r) i)] σ := by
  rw [e30]
  have h1 := rv_len hk h
  have h2 := hk r h
  have h3 : (ln (r + 1) : Int) = cp r := rfl
  unfold lat
  by_cases h0 : i < 0
  · simp (disch := omega) only [s30_0, s30_1, s30_4, s30_5, s30_6, s30_9, s30_12, s30_13, s30_16, s30_17, s30_18, s30_21, s30_22, h.1, h.2.1.1, h.2.1.2, h.2.2.1, List.cons_append, List.nil_append, if_true, if_false, true_and, and_true, and_self, eq_self, true_or, or_true, false_or, or_false, tIn, tLe, fLe, tLt, fLt, tEq, fEq]
  · by_cases h4 : σ r 1 ≤ i
    · simp (disch := omega) only [s30_0, s30_1, s30_4, s30_5, s30_6, s30_9, s30_12, s30_13, s30_16, s30_17, s30_18, s30_21, s30_22, h.1, h.2.1.1, h.2.1.2, h.2.2.1, List.cons_append, List.nil_append, if_true, if_false, true_and, and_true, and_self, eq_self, true_or, or_true, false_or, or_false, tIn, tLe, fLe, tLt, fLt, tEq, fEq, getD_out]
    · simp (disch := omega) only [s30_0, s30_1, s30_4, s30_5, s30_6, s30_9, s30_12, s30_13, s30_16, s30_17, s30_18, s30_21, s30_22, h.1, h.2.1.1, h.2.1.2, h.2.2.1, List.cons_append, List.nil_append, if_true, if_false, true_and, and_true, and_self, eq_self, true_or, or_true, false_or, or_false, tIn, tLe, fLe, tLt, fLt, tEq, fEq, rv_getD]
def latOr (l : List Int) (i d : Int) : Int := if 0 ≤ i ∧ i < l.length then l.getD i.toNat 0 else d
theorem c31 (h : isRow r) (hk : RK σ) : CA m31 [.inr (.inl r), .inl i, .inl x] σ K = K [.inl (latOr (rv σ r) i x)] σ := by
  rw [e31]
  have h1 := rv_len hk h
  have h2 := hk r h
  have h3 : (ln (r + 1) : Int) = cp r := rfl
  unfold latOr
  by_cases h0 : i < 0
  · simp (disch := omega) only [s31_0, s31_1, s31_4, s31_5, s31_6, s31_9, s31_12, s31_13, s31_16, s31_17, s31_18, s31_21, s31_22, h.1, h.2.1.1, h.2.1.2, h.2.2.1, List.cons_append, List.nil_append, if_true, if_false, true_and, and_true, and_self, eq_self, true_or, or_true, false_or, or_false, tIn, tLe, fLe, tLt, fLt, tEq, fEq, false_and]
  · by_cases h4 : σ r 1 ≤ i
    · simp (disch := omega) only [s31_0, s31_1, s31_4, s31_5, s31_6, s31_9, s31_12, s31_13, s31_16, s31_17, s31_18, s31_21, s31_22, h.1, h.2.1.1, h.2.1.2, h.2.2.1, List.cons_append, List.nil_append, if_true, if_false, true_and, and_true, and_self, eq_self, true_or, or_true, false_or, or_false, tIn, tLe, fLe, tLt, fLt, tEq, fEq, and_false]
    · simp (disch := omega) only [s31_0, s31_1, s31_4, s31_5, s31_6, s31_9, s31_12, s31_13, s31_16, s31_17, s31_18, s31_21, s31_22, h.1, h.2.1.1, h.2.1.2, h.2.2.1, List.cons_append, List.nil_append, if_true, if_false, true_and, and_true, and_self, eq_self, true_or, or_true, false_or, or_false, tIn, tLe, fLe, tLt, fLt, tEq, fEq, rv_getD]
def llast (l : List Int) : Int := l.getD (l.length - 1) 0
theorem c32 (h : isRow r) (hk : RK σ) : CA m32 [.inr (.inl r)] σ K = K [.inl (llast (rv σ r))] σ := by
  rw [e32]
  have h1 := rv_len hk h
  have h2 := hk r h
  have h3 : (ln (r + 1) : Int) = cp r := rfl
  have h5 := cp_le h
  unfold llast
  by_cases h0 : σ r 1 ≤ 0
  · simp (disch := omega) only [s32_0, s32_1, s32_4, s32_7, s32_8, s32_11, s32_12, s32_15, s32_16, s32_17, s32_18, s32_21, s32_22, h.1, h.2.1.1, h.2.1.2, h.2.2.1, List.cons_append, List.nil_append, if_true, if_false, true_and, and_true, and_self, eq_self, true_or, or_true, false_or, or_false, tIn, tLe, fLe, tLt, fLt, tEq, fEq, getD_out]
  · simp (disch := omega) only [s32_0, s32_1, s32_4, s32_7, s32_8, s32_11, s32_12, s32_15, s32_16, s32_17, s32_18, s32_21, s32_22, h.1, h.2.1.1, h.2.1.2, h.2.2.1, List.cons_append, List.nil_append, if_true, if_false, true_and, and_true, and_self, eq_self, true_or, or_true, false_or, or_false, tIn, tLe, fLe, tLt, fLt, tEq, fEq, rv_getD]
    rw [show (σ r 1 - 1).toNat = (rv σ r).length - 1 by omega]
theorem aup_rs {j : Nat} (hj : j < (rv σ r).length) (hk : RK σ) (h : isRow r) : aup σ (r + 1) j x = rs σ r ((rv σ r).set j x) := by
  have h1 := rv_len hk h
  refine rs_of (fun a i h1 h2 => by simp [aup, h2]) (fun i hi => by simp [aup]) (by simp [aup, h1]) (fun i hi => ?_) (fun i hi => ?_)
  · simp only [List.length_set] at hi
    rw [List.getD_eq_getElem?_getD, List.getElem?_set]
    by_cases e : j = i
    · subst e
      simp [aup, hj]
    · rw [if_neg e, ← List.getD_eq_getElem?_getD, rv_getD hi]
      simp [aup, Ne.symm e]
  · simp only [List.length_set] at hi
    simp [aup, show i ≠ j by omega]
theorem c33 (h : isRow r) (hk : RK σ) : CA m33 [.inr (.inl r), .inl i, .inl x] σ K = K [] (rs σ r (lset (rv σ r) i x)) := by
  rw [e33]
  have h1 := rv_len hk h
  have h2 := hk r h
  have h3 : (ln (r + 1) : Int) = cp r := rfl
  unfold lset
  by_cases h0 : i < 0
  · simp (disch := omega) only [s33_0, s33_1, s33_4, s33_5, s33_6, s33_9, s33_12, s33_13, s33_16, s33_17, s33_18, s33_19, h.1, h.2.1.1, h.2.1.2, h.2.2.1, List.cons_append, List.nil_append, if_true, if_false, true_and, and_true, and_self, eq_self, true_or, or_true, false_or, or_false, tIn, tLe, fLe, tLt, fLt, tEq, fEq, rs_self hk h]
  · by_cases h4 : σ r 1 ≤ i
    · simp (disch := omega) only [s33_0, s33_1, s33_4, s33_5, s33_6, s33_9, s33_12, s33_13, s33_16, s33_17, s33_18, s33_19, h.1, h.2.1.1, h.2.1.2, h.2.2.1, List.cons_append, List.nil_append, if_true, if_false, true_and, and_true, and_self, eq_self, true_or, or_true, false_or, or_false, tIn, tLe, fLe, tLt, fLt, tEq, fEq, rs_self hk h, List.set_eq_of_length_le]
    · simp (disch := omega) only [s33_0, s33_1, s33_4, s33_5, s33_6, s33_9, s33_12, s33_13, s33_16, s33_17, s33_18, s33_19, h.1, h.2.1.1, h.2.1.2, h.2.2.1, List.cons_append, List.nil_append, if_true, if_false, true_and, and_true, and_self, eq_self, true_or, or_true, false_or, or_false, tIn, tLe, fLe, tLt, fLt, tEq, fEq]
      rw [aup_rs (by omega) hk h]
theorem c34 (h : isRow r) (hk : RK σ) : CA m34 [.inr (.inl r), .inl x] σ K = K [] (rs σ r (ladd (cp r) (rv σ r) x)) := by
  rw [e34]
  have h1 := rv_len hk h
  have h2 := hk r h
  have h3 : (ln (r + 1) : Int) = cp r := rfl
  have h5 := cp_le h
  unfold ladd
  by_cases h0 : (ln (r + 1) : Int) ≤ σ r 1
  · rw [if_neg (by omega)]
    simp (disch := omega) only [s34_0, s34_1, s34_4, s34_5, s34_8, s34_9, s34_12, s34_13, s34_16, s34_17, s34_20, s34_21, s34_22, s34_23, s34_24, s34_27, s34_28, s34_29, s34_32, h.1, h.2.1.1, h.2.1.2, h.2.2.1, List.cons_append, List.nil_append, if_true, if_false, true_and, and_true, and_self, eq_self, true_or, or_true, false_or, or_false, tIn, tLe, fLe, tLt, fLt, tEq, fEq, rs_self hk h]
  · have e1 : (aup σ (r + 1) (σ r 1).toNat x) r 1 = σ r 1 := by simp [aup]
    rw [if_pos (by omega)]
    simp (disch := omega) only [s34_0, s34_1, s34_4, s34_5, s34_8, s34_9, s34_12, s34_13, s34_16, s34_17, s34_20, s34_21, s34_22, s34_23, s34_24, s34_27, s34_28, s34_29, s34_32, h.1, h.2.1.1, h.2.1.2, h.2.2.1, List.cons_append, List.nil_append, if_true, if_false, true_and, and_true, and_self, eq_self, true_or, or_true, false_or, or_false, tIn, tLe, fLe, tLt, fLt, tEq, fEq, e1]
    congr 1
    refine rs_of (fun a i h1 h2 => by simp [aup, h2, h1]) (fun i hi => by simp [aup, hi]) (by simp [aup, h1]) (fun i hi => ?_) (fun i hi => ?_)
    · simp only [List.length_append, List.length_cons, List.length_nil] at hi
      rw [List.getD_eq_getElem?_getD]
      by_cases e : i < (rv σ r).length
      · rw [List.getElem?_append_left e, ← List.getD_eq_getElem?_getD, rv_getD e]
        simp [aup, show i ≠ (σ r 1).toNat by omega]
      · rw [List.getElem?_append_right (by omega), show i - (rv σ r).length = 0 by omega]
        simp [aup, show i = (σ r 1).toNat by omega]
    · simp only [List.length_append, List.length_cons, List.length_nil] at hi
      simp [aup, show i ≠ (σ r 1).toNat by omega]
theorem c35 (h : isRow r) (hk : RK σ) : CA m35 [.inr (.inl r)] σ K = K [.inl (llast (rv σ r))] (rs σ r (rv σ r).dropLast) := by
  rw [e35]
  have h1 := rv_len hk h
  have h2 := hk r h
  have h5 := cp_le h
  simp (disch := omega) only [s35_0, s35_1, s35_4, s35_5, s35_6, s35_7, s35_10, s35_11, s35_12, s35_13, s35_16, s35_19, s35_20, c32 h hk, List.cons_append, List.nil_append, if_true, if_false, true_and, and_true, and_self, eq_self, true_or, or_true, false_or, or_false, tIn, tLe, fLe, tLt, fLt, tEq, fEq, h.1]
  congr 1
  refine rs_of (fun a i h1 h2 => by simp [aup, h1]) (fun i hi => by simp [aup, hi]) (by simp [aup]; omega) (fun i hi => ?_) (fun i hi => ?_)
  · simp only [List.length_dropLast] at hi
    rw [List.getD_eq_getElem?_getD, List.getElem?_dropLast, if_pos hi, ← List.getD_eq_getElem?_getD, rv_getD (by omega)]
    simp [aup]
  · simp [aup]
theorem rs_len (σ : aSg) (r : Nat) (l : List Int) : (rs σ r l) r 1 = l.length := by simp [rs]
theorem ladd_le {c : Nat} {l : List Int} (h : l.length ≤ c) : (ladd c l x).length ≤ c := by
  unfold ladd
  split
  · simp; omega
  · exact h
theorem rep_add (n c : Nat) (v : Int) : ladd c (List.replicate (min n c) v) v = List.replicate (min (n + 1) c) v := by
  unfold ladd
  split
  · rename_i h
    simp at h
    rw [show min n c = n by omega, show min (n + 1) c = n + 1 by omega]
    simp [List.replicate_succ']
  · rename_i h
    simp at h
    rw [show min n c = c by omega, show min (n + 1) c = c by omega]
theorem c37 (h : isRow r) (hk : RK σ) (hx : x ≤ 100000) : CA m37 [.inr (.inl r), .inl x, .inl y] σ K = K [] (rs σ r (List.replicate (min x.toNat (cp r)) y)) := by
  refine CA_eq ?_
  rw [e37]
  simp (disch := omega) only [s37_0, s37_1, s37_4, s37_5, s37_7, s37_8, s37_11, s37_12, s37_13, s37_16, s37_19, s37_22, c29 h hk, h.1, isL, List.cons_append, List.nil_append, if_true, if_false, true_and, and_true, and_self, eq_self, true_or, or_true, false_or, or_false, tIn, tLe, fLe, tLt, fLt, tEq, fEq]
  have lp : ∀ (n i : Nat), (x.toNat - i = n) → (i : Int) ≤ max x 0 → WP m37 6 [.inr (.inl r), .inl x, .inl y, .inl (i : Int)] [] (rs σ r (List.replicate (min i (cp r)) y)) (fun v σ' => v = [] ∧ σ' = rs σ r (List.replicate (min x.toNat (cp r)) y)) := by
    intro n
    induction n with
    | zero =>
      intro i hn hi
      have e : i = x.toNat := by omega
      subst e
      simp (disch := omega) only [s37_0, s37_1, s37_4, s37_5, s37_6, s37_7, s37_8, s37_11, s37_12, s37_13, s37_16, s37_19, s37_22, List.cons_append, List.nil_append, if_true, if_false, true_and, and_true, and_self, eq_self, true_or, or_true, false_or, or_false, tIn, tLe, fLe, tLt, fLt, tEq, fEq]
    | succ n ih =>
      intro i hn hi
      have hk2 : RK (rs σ r (List.replicate (min i (cp r)) y)) := RK_rs hk h (by simp; omega)
      rw [s37_6]
      simp (disch := omega) only [s37_0, s37_1, s37_4, s37_5, s37_7, s37_8, s37_11, s37_12, s37_13, s37_16, s37_19, s37_22, List.cons_append, List.nil_append, if_true, if_false, true_and, and_true, and_self, eq_self, true_or, or_true, false_or, or_false, tIn, tLe, fLe, tLt, fLt, tEq, fEq, c34 h hk2, h.1, rv_rs, rep_add]
      rw [rs_grow (by simp; omega)]
      exact ih (i + 1) (by omega) (by omega)
  exact lp x.toNat 0 (by omega) (by omega)
end ROW
