/-! Sorter: none within itself -/
def chd (fr to : Nat → Int) (o : Nat → Nat) (r x : Nat) : Prop := fr r ≠ -1 ∧ (Ru o (fr r).toNat x ∨ Ru o (to r).toNat x)
def Lfk (n : Nat) (fr to : Nat → Int) (o : Nat → Nat) (mk : Nat → Int) : Prop := ∃ (ht : Nat → Nat) (t : Nat), ∀ r, r < n → mk r = 2 → o r = r ∧ ht r < t ∧ ∀ x, chd fr to o r x → mk x = 2 ∧ ht x < ht r
abbrev Fm : Type := Nat × List Nat
def FOK (n : Nat) (fr to : Nat → Int) (o : Nat → Nat) (mk : Nat → Int) : Option Nat → List Fm → Prop
  | _, [] => True
  | nx, (r, pd) :: FS => r < n ∧ o r = r ∧ (∀ x ∈ pd, x < n ∧ o x = x ∧ chd fr to o r x ∧ x ≠ r ∧ ∀ f ∈ FS, x ≠ f.1) ∧ (∀ f ∈ FS, r ≠ f.1) ∧ (∀ f FS', FS = f :: FS' → chd fr to o f.1 r) ∧ (∀ x, chd fr to o r x → mk x = 2 ∨ x ∈ pd ∨ nx = some x) ∧ FOK n fr to o mk (some r) FS
def stk : List Fm → List Nat → List Nat
  | [], bs => bs
  | (r, pd) :: FS, bs => pd ++ r :: stk FS bs
def nwN (mk : Nat → Int) : Nat → Nat
  | 0 => 0
  | n + 1 => (if mk n = 0 then 1 else 0) + nwN mk n
def upI (f : Nat → Int) (a : Nat) (v : Int) (i : Nat) : Int := if i = a then v else f i
section DFS
variable {σ σ0 σ' : aSg} {K : List AV → aSg → Prop} {x y z c : Int} {n : Nat} {fr to mk mk' : Nat → Int} {o o' ρ : Nat → Nat} {i j r k l a b p q t : Nat} {FS : List Fm}
theorem mpI_set {f : Nat → Int} {v : Int} (h : a < n) : lset (mpI n f) (a : Int) v = mpI n (upI f a v) := by
  unfold lset mpI
  rw [if_pos (by omega), Int.toNat_natCast]
  apply List.ext_getElem?
  intro j
  rw [List.getElem?_set]
  by_cases e : a = j
  · subst e
    rw [if_pos rfl, if_pos (by simpa using h), List.getElem?_map, List.getElem?_range h]
    simp [upI]
  · rw [if_neg e, List.getElem?_map, List.getElem?_map]
    by_cases hj : j < n
    · rw [List.getElem?_range hj]
      simp only [Option.map_some]
      unfold upI
      rw [if_neg (fun z => e z.symm)]
    · rw [List.getElem?_eq_none (by simpa using hj)]; rfl
theorem upI_s {f : Nat → Int} {v : Int} : upI f a v a = v := by unfold upI; rw [if_pos rfl]
theorem upI_n {f : Nat → Int} {v : Int} (h : i ≠ a) : upI f a v i = f i := by unfold upI; rw [if_neg h]
theorem chd_eq (h : UEq n o o') : ∀ r x, chd fr to o r x ↔ chd fr to o' r x := by
  intro r x
  unfold chd
  rw [h.2.2, h.2.2]
theorem FOK_eq (h : UEq n o o') : ∀ (FS : List Fm) (nx : Option Nat), FOK n fr to o mk nx FS → FOK n fr to o' mk nx FS := by
  intro FS
  induction FS with
  | nil => intro nx _; trivial
  | cons f FS ih =>
    intro nx hh
    obtain ⟨r, pd⟩ := f
    obtain ⟨h1, h2, h3, h4, h5, h6, h7⟩ := hh
    exact ⟨h1, (h.2.1 r).mp h2, fun x hx => by obtain ⟨a1, a2, a3, a4⟩ := h3 x hx; exact ⟨a1, (h.2.1 x).mp a2, (chd_eq h r x).mp a3, a4⟩, h4, fun f FS' e => (chd_eq h f.1 r).mp (h5 f FS' e), fun x hx => h6 x ((chd_eq h r x).mpr hx), ih _ h7⟩
theorem Lfk_eq (h : UEq n o o') (hl : Lfk n fr to o mk) : Lfk n fr to o' mk := by
  obtain ⟨ht, t, hh⟩ := hl
  exact ⟨ht, t, fun r h1 h2 => by obtain ⟨a1, a2, a3⟩ := hh r h1 h2; exact ⟨(h.2.1 r).mp a1, a2, fun x hx => a3 x ((chd_eq h r x).mpr hx)⟩⟩
/-- more is left: what is to come stays as it is -/
theorem FOK_mk (hm : ∀ x, mk x = 2 → mk' x = 2) : ∀ (FS : List Fm) (nx : Option Nat), FOK n fr to o mk nx FS → FOK n fr to o mk' nx FS := by
  intro FS
  induction FS with
  | nil => intro nx _; trivial
  | cons f FS ih =>
    intro nx hh
    obtain ⟨r, pd⟩ := f
    obtain ⟨h1, h2, h3, h4, h5, h6, h7⟩ := hh
    exact ⟨h1, h2, h3, h4, h5, fun x hx => by rcases h6 x hx with q | q; exact Or.inl (hm x q); exact Or.inr q, ih _ h7⟩
theorem nwN_up {v : Int} (ha : a < n) (h0 : mk a = 0) (hv : v ≠ 0) : nwN (upI mk a v) n + 1 = nwN mk n := by
  have : ∀ m, nwN (upI mk a v) m + (if a < m then 1 else 0) = nwN mk m := by
    intro m
    induction m with
    | zero => simp [nwN]
    | succ m ih =>
      have h1 : nwN (upI mk a v) (m + 1) = (if upI mk a v m = 0 then 1 else 0) + nwN (upI mk a v) m := rfl
      have h2 : nwN mk (m + 1) = (if mk m = 0 then 1 else 0) + nwN mk m := rfl
      rw [h1, h2]
      by_cases e : m = a
      · have e1 : ¬ upI mk a v m = 0 := by rw [e, upI_s]; exact hv
        have e2 : mk m = 0 := by rw [e]; exact h0
        have e3 : ¬ a < m := by omega
        have e4 : a < m + 1 := by omega
        simp only [if_neg e1, if_pos e2, if_pos e4]
        simp only [if_neg e3] at ih
        omega
      · rw [upI_n e]
        by_cases g : a < m
        · have g2 : a < m + 1 := by omega
          simp only [if_pos g2]
          simp only [if_pos g] at ih
          omega
        · have g2 : ¬ a < m + 1 := by omega
          simp only [if_neg g2]
          simp only [if_neg g] at ih
          omega
  have := this n
  rw [if_pos ha] at this
  exact this
theorem nwN_le : ∀ n, nwN mk n ≤ n := by
  intro n
  induction n with
  | zero => simp [nwN]
  | succ n ih => simp only [nwN]; split <;> omega
theorem nwN_ne (h0 : mk a ≠ 0) {v : Int} (hv : v ≠ 0) : ∀ n, nwN (upI mk a v) n = nwN mk n := by
  intro n
  induction n with
  | zero => rfl
  | succ n ih =>
    have h1 : nwN (upI mk a v) (n + 1) = (if upI mk a v n = 0 then 1 else 0) + nwN (upI mk a v) n := rfl
    have h2 : nwN mk (n + 1) = (if mk n = 0 then 1 else 0) + nwN mk n := rfl
    rw [h1, h2, ih]
    by_cases e : n = a
    · subst e
      rw [upI_s, if_neg hv, if_neg h0]
    · rw [upI_n e]
abbrev FrD3 (σ σ' : aSg) : Prop := ∀ a, a ≠ 113 → a ≠ 114 → a ≠ 119 → a ≠ 120 → a ≠ 121 → a ≠ 122 → σ' a = σ a
/-- the state of the looking -/
def DFI (σ0 σ : aSg) (n : Nat) (fr to : Nat → Int) (o ρ : Nat → Nat) (mk : Nat → Int) (st : List Nat) : Prop := RK σ ∧ rv σ 109 = mpI n fr ∧ rv σ 111 = mpI n to ∧ rv σ 113 = mpN n o ∧ rv σ 121 = mpI n mk ∧ rv σ 119 = (lNI st).reverse ∧ UFr n o ρ ∧ FrD3 σ0 σ
theorem DFI_rows (h1 : rv σ0 109 = mpI n fr) (h2 : rv σ0 111 = mpI n to) (hf : FrD3 σ0 σ) : rv σ 109 = mpI n fr ∧ rv σ 111 = mpI n to := by
  constructor
  · rw [rv_same (hf 109 (by omega) (by omega) (by omega) (by omega) (by omega) (by omega)) (hf 110 (by omega) (by omega) (by omega) (by omega) (by omega) (by omega))]; exact h1
  · rw [rv_same (hf 111 (by omega) (by omega) (by omega) (by omega) (by omega) (by omega)) (hf 112 (by omega) (by omega) (by omega) (by omega) (by omega) (by omega))]; exact h2
theorem DFI_m {v : Int} {st : List Nat} (h : DFI σ0 σ n fr to o ρ mk st) (ha : a < n) (Q : List AV → aSg → Prop) (hq : ∀ σ', DFI σ0 σ' n fr to o ρ (upI mk a v) st → Q [] σ') : CA m33 [.inr (.inl 121), .inl (a : Int), .inl v] σ Q := by
  obtain ⟨h1, h2, h3, h4, h5, h6, h7, h8⟩ := h
  refine rset_ok row121 h1 h5 Q (fun σ1 k1 w1 f1 => ?_)
  rw [mpI_set ha] at w1
  exact hq σ1 ⟨k1, (FrW_rv f1 row121 row109 (by omega)).trans h2, (FrW_rv f1 row121 row111 (by omega)).trans h3, (FrW_rv f1 row121 row113 (by omega)).trans h4, w1, (FrW_rv f1 row121 row119 (by omega)).trans h6, h7, fun a q1 q2 q3 q4 q5 q6 => (f1 a q5 q6).trans (h8 a q1 q2 q3 q4 q5 q6)⟩
theorem DFI_o {st : List Nat} (h : DFI σ0 σ n fr to o ρ mk st) (hl : st.length < 1448) (Q : List AV → aSg → Prop) (hq : ∀ σ', DFI σ0 σ' n fr to o ρ mk (a :: st) → Q [] σ') : CA m34 [.inr (.inl 119), .inl (a : Int)] σ Q := by
  obtain ⟨h1, h2, h3, h4, h5, h6, h7, h8⟩ := h
  refine radd_ok row119 h1 h6 (by rw [cp119]; simpa [lNI] using hl) Q (fun σ1 k1 w1 f1 => ?_)
  exact hq σ1 ⟨k1, (FrW_rv f1 row119 row109 (by omega)).trans h2, (FrW_rv f1 row119 row111 (by omega)).trans h3, (FrW_rv f1 row119 row113 (by omega)).trans h4, (FrW_rv f1 row119 row121 (by omega)).trans h5, by rw [w1]; simp [lNI], h7, fun a q1 q2 q3 q4 q5 q6 => (f1 a q3 q4).trans (h8 a q1 q2 q3 q4 q5 q6)⟩
theorem DFI_p {st : List Nat} (h : DFI σ0 σ n fr to o ρ mk (a :: st)) (Q : List AV → aSg → Prop) (hq : ∀ σ', DFI σ0 σ' n fr to o ρ mk st → Q [.inl (a : Int)] σ') : CA m35 [.inr (.inl 119)] σ Q := by
  obtain ⟨h1, h2, h3, h4, h5, h6, h7, h8⟩ := h
  refine rpop_ok (l := (lNI st).reverse) (v := (a : Int)) row119 h1 (by rw [h6]; simp [lNI]) Q (fun σ1 k1 w1 f1 => ?_)
  exact hq σ1 ⟨k1, (FrW_rv f1 row119 row109 (by omega)).trans h2, (FrW_rv f1 row119 row111 (by omega)).trans h3, (FrW_rv f1 row119 row113 (by omega)).trans h4, (FrW_rv f1 row119 row121 (by omega)).trans h5, w1, h7, fun a q1 q2 q3 q4 q5 q6 => (f1 a q3 q4).trans (h8 a q1 q2 q3 q4 q5 q6)⟩
theorem DFI_w {st : List Nat} (h : DFI σ0 σ n fr to o ρ mk st) (hn : n ≤ 700) (hi : i < n) (Q : List AV → aSg → Prop) (hq : ∀ (σ' : aSg) (o' : Nat → Nat) (r : Nat), DFI σ0 σ' n fr to o' ρ mk st → UEq n o o' → Ru o' i r → r < n → Q [.inl (r : Int)] σ') : CA m61 [.inr (.inl 108), .inl (i : Int)] σ Q := by
  obtain ⟨h1, h2, h3, h4, h5, h6, h7, h8⟩ := h
  refine wr61 h1 h4 h7 (by omega) hi Q (fun σ1 o' r k1 w1 u1 q1 r1 l1 f1 => ?_)
  exact hq σ1 o' r ⟨k1, (FrW_rv f1 row113 row109 (by omega)).trans h2, (FrW_rv f1 row113 row111 (by omega)).trans h3, w1, (FrW_rv f1 row113 row121 (by omega)).trans h5, (FrW_rv f1 row113 row119 (by omega)).trans h6, u1, fun a q1 q2 q3 q4 q5 q6 => (f1 a q1 q2).trans (h8 a q1 q2 q3 q4 q5 q6)⟩ q1 r1 l1
end DFS
