/-! kinds: one more -/
def GOK (n : Nat) (fr to : Nat → Int) (o : Nat → Nat) : Prop := KGr n fr to ∧ (∃ ρ, UFr n o ρ) ∧ CCm n fr to o []
def Sl (n : Nat) (fr to : Nat → Int) (o : Nat → Nat) (v : Nat → Ty) : Prop := apV n fr to v ∧ onV n o v
/-- a valuation with one more -/
def exV (v : Nat → Ty) (n : Nat) (τ : Ty) (i : Nat) : Ty := if i = n then τ else v i
section ARW
variable {σ σ0 σ' : aSg} {K : List AV → aSg → Prop} {x y z c : Int} {n : Nat} {fr to : Nat → Int} {o o' ρ : Nat → Nat} {i j r k l a b p q t : Nat} {v : Nat → Ty} {τ : Ty}
theorem exV_n (h : i ≠ n) : exV v n τ i = v i := by unfold exV; rw [if_neg h]
theorem exV_s : exV v n τ n = τ := by unfold exV; rw [if_pos rfl]
theorem Ru_ext (hU : UFr n o ρ) (hi : i < n) : Ru (uPd o n n) i r ↔ Ru o i r := by
  have st : ∀ f i, i < n → itn (uPd o n n) f i = itn o f i ∧ itn o f i < n := by
    intro f
    induction f with
    | zero => intro i hi; exact ⟨rfl, hi⟩
    | succ f ih =>
      intro i hi
      have e : uPd o n n i = o i := by unfold uPd; rw [if_neg (by omega)]
      simp only [itn, e]
      exact ih (o i) (hU i hi).1
  have rt : ∀ r, r < n → (uPd o n n r = r ↔ o r = r) := by
    intro r hr
    unfold uPd
    rw [if_neg (by omega)]
  constructor
  · rintro ⟨f, h1, h2⟩
    obtain ⟨s1, s2⟩ := st f i hi
    rw [s1] at h1
    exact ⟨f, h1, (rt r (by rw [← h1]; exact s2)).mp h2⟩
  · rintro ⟨f, h1, h2⟩
    obtain ⟨s1, s2⟩ := st f i hi
    exact ⟨f, by rw [s1]; exact h1, (rt r (by rw [← h1]; exact s2)).mpr h2⟩
/-- one more kind: open, or of two that are there -/
theorem ext_ok (hG : GOK n fr to o) (hx : x = -1 ∨ ∃ a b : Nat, x = (a : Int) ∧ y = (b : Int) ∧ a < n ∧ b < n) : GOK (n + 1) (upI fr n x) (upI to n y) (uPd o n n) ∧ (∀ v, Sl (n + 1) (upI fr n x) (upI to n y) (uPd o n n) v ↔ Sl n fr to o v ∧ (x ≠ -1 → v n = .op (v x.toNat) (v y.toNat))) := by
  obtain ⟨hK, ⟨ρ, hU⟩, hC⟩ := hG
  have on1 : ∀ v, onV (n + 1) (uPd o n n) v ↔ onV n o v := by
    intro v
    constructor
    · intro h i hi
      have := h i (by omega)
      unfold uPd at this
      rw [if_neg (by omega)] at this
      exact this
    · intro h i hi
      unfold uPd
      by_cases e : i = n
      · rw [if_pos e, e]
      · rw [if_neg e]; exact h i (by omega)
  refine ⟨⟨fun i hi => ?_, ⟨ρ, fun i hi => ?_⟩, fun i r hi hf hr => ?_⟩, fun v => ?_⟩
  · by_cases e : i = n
    · subst e
      rw [upI_s, upI_s]
      rcases hx with q | ⟨a, b, q1, q2, q3, q4⟩
      · exact Or.inl q
      · exact Or.inr ⟨a, b, q1, q2, by omega, by omega⟩
    · rw [upI_n e, upI_n e]
      rcases hK i (by omega) with q | ⟨a, b, q1, q2, q3, q4⟩
      · exact Or.inl q
      · exact Or.inr ⟨a, b, q1, q2, by omega, by omega⟩
  · unfold uPd
    by_cases e : i = n
    · rw [if_pos e]; exact ⟨by omega, fun z => absurd e.symm z⟩
    · rw [if_neg e]
      obtain ⟨q1, q2⟩ := hU i (by omega)
      exact ⟨by omega, q2⟩
  · by_cases e : i = n
    · subst e
      have : r = i := Ru_un hr (Ru_self (by unfold uPd; rw [if_pos rfl]))
      subst this
      exact ⟨hf, fun v _ _ => ⟨rfl, rfl⟩⟩
    · have hin : i < n := by omega
      have hr' := (Ru_ext hU hin).mp hr
      obtain ⟨rn, -, -⟩ := Ru_in hU hin hr'
      rw [upI_n e] at hf
      obtain ⟨c1, c2⟩ := hC i r hin hf hr'
      rw [upI_n (by omega), upI_n e, upI_n e, upI_n (by omega)]
      exact ⟨c1, fun v h1 h2 => c2 v ((on1 v).mp h1) h2⟩
  · unfold Sl
    rw [on1]
    constructor
    · rintro ⟨h1, h2⟩
      refine ⟨⟨fun i hi hf => ?_, h2⟩, fun q => ?_⟩
      · have := h1 i (by omega) (by rw [upI_n (by omega)]; exact hf)
        rw [upI_n (by omega), upI_n (by omega)] at this
        exact this
      · have := h1 n (by omega) (by rw [upI_s]; exact q)
        rw [upI_s, upI_s] at this
        exact this
    · rintro ⟨⟨h1, h2⟩, h3⟩
      refine ⟨fun i hi hf => ?_, h2⟩
      by_cases e : i = n
      · subst e
        rw [upI_s] at hf ⊢
        rw [upI_s]
        exact h3 hf
      · rw [upI_n e] at hf ⊢
        rw [upI_n e]
        exact h1 i (by omega) hf
theorem Sl_ex (hG : GOK n fr to o) (h : Sl n fr to o v) : Sl n fr to o (exV v n τ) := by
  obtain ⟨hK, ⟨ρ, hU⟩, hC⟩ := hG
  refine ⟨fun i hi hf => ?_, fun i hi => ?_⟩
  · obtain ⟨k1, k2⟩ := KG_at hK hi hf
    rw [exV_n (by omega), exV_n (by omega), exV_n (by omega)]
    exact h.1 i hi hf
  · have := (hU i hi).1
    rw [exV_n (by omega), exV_n (by omega)]
    exact h.2 i hi
theorem mpI_app {f : Nat → Int} : mpI n f ++ [x] = mpI (n + 1) (upI f n x) := by
  unfold mpI
  rw [List.range_succ, List.map_append]
  congr 1
  · apply List.map_congr_left
    intro i hi
    rw [upI_n (by have := List.mem_range.mp hi; omega)]
  · simp [upI_s]
theorem mpN_app : mpN n o ++ [(n : Int)] = mpN (n + 1) (uPd o n n) := by
  unfold mpN
  rw [List.range_succ, List.map_append]
  congr 1
  · apply List.map_congr_left
    intro i hi
    have := List.mem_range.mp hi
    unfold uPd
    rw [if_neg (by omega)]
  · simp [uPd]
/-- the rows of the kinds -/
def KRo (σ0 σ : aSg) (n : Nat) (fr to : Nat → Int) (o : Nat → Nat) : Prop := RK σ ∧ rv σ 109 = mpI n fr ∧ rv σ 111 = mpI n to ∧ rv σ 113 = mpN n o ∧ GOK n fr to o ∧ ∀ a, a < 109 ∨ 114 < a → σ a = σ0 a
theorem wr59 (h : KRo σ0 σ n fr to o) (hn : n < 720) (hx : x = -1 ∨ ∃ a b : Nat, x = (a : Int) ∧ y = (b : Int) ∧ a < n ∧ b < n) (Q : List AV → aSg → Prop) (hq : ∀ σ', KRo σ0 σ' (n + 1) (upI fr n x) (upI to n y) (uPd o n n) → Q [.inl (n : Int)] σ') : CA m59 [.inr (.inl 108), .inl x, .inl y] σ Q := by
  rw [e59]
  have c9 := cp109
  have c11 := cp111
  have c13 := cp113
  obtain ⟨h1, h2, h3, h4, h5, h6⟩ := h
  have len1 : (mpI n fr).length = n := mpI_len
  have len2 : (mpI n to).length = n := mpI_len
  have len3 : (mpN n o).length = n := mpN_len
  simp (disch := omega) only [s59_0, s59_1, s59_4, s59_5, s59_8, s59_9, s59_12, s59_13, s59_16, s59_17, s59_20, s59_21, s59_24, s59_27, s59_30, s59_31, s59_34, s59_37, s59_38, s59_39, List.cons_append, List.nil_append, if_true, if_false, true_and, and_true, and_self, eq_self, true_or, or_true, false_or, or_false, tIn, tLe, fLe, tLt, fLt, tEq, fEq, isL, row109.1, row111.1, row113.1]
  refine radd_ok row109 h1 h2 (by omega) _ (fun σ1 k1 w1 f1 => ?_)
  simp (disch := omega) only [s59_0, s59_1, s59_4, s59_5, s59_8, s59_9, s59_12, s59_13, s59_16, s59_17, s59_20, s59_21, s59_24, s59_27, s59_30, s59_31, s59_34, s59_37, s59_38, s59_39, List.cons_append, List.nil_append, if_true, if_false, true_and, and_true, and_self, eq_self, true_or, or_true, false_or, or_false, tIn, tLe, fLe, tLt, fLt, tEq, fEq, isL, row109.1, row111.1, row113.1]
  refine radd_ok row111 k1 ((FrW_rv f1 row109 row111 (by omega)).trans h3) (by omega) _ (fun σ2 k2 w2 f2 => ?_)
  have g13 : rv σ2 113 = mpN n o := by rw [FrW_rv f2 row111 row113 (by omega), FrW_rv f1 row109 row113 (by omega)]; exact h4
  simp (disch := omega) only [s59_0, s59_1, s59_4, s59_5, s59_8, s59_9, s59_12, s59_13, s59_16, s59_17, s59_20, s59_21, s59_24, s59_27, s59_30, s59_31, s59_34, s59_37, s59_38, s59_39, List.cons_append, List.nil_append, if_true, if_false, true_and, and_true, and_self, eq_self, true_or, or_true, false_or, or_false, tIn, tLe, fLe, tLt, fLt, tEq, fEq, isL, row109.1, row111.1, row113.1, c28 row113 k2, g13, len3]
  refine radd_ok row113 k2 g13 (by omega) _ (fun σ3 k3 w3 f3 => ?_)
  rw [mpN_app] at w3
  have e1 : ((mpN (n + 1) (uPd o n n)).length : Int) = (n : Int) + 1 := by rw [mpN_len]; omega
  have e2 : (n : Int) + 1 - 1 = (n : Int) := by omega
  simp (disch := omega) only [s59_0, s59_1, s59_4, s59_5, s59_8, s59_9, s59_12, s59_13, s59_16, s59_17, s59_20, s59_21, s59_24, s59_27, s59_30, s59_31, s59_34, s59_37, s59_38, s59_39, List.cons_append, List.nil_append, if_true, if_false, true_and, and_true, and_self, eq_self, true_or, or_true, false_or, or_false, tIn, tLe, fLe, tLt, fLt, tEq, fEq, isL, row113.1, c28 row113 k3, w3, e1, e2]
  refine hq σ3 ⟨k3, ?_, ?_, w3, (ext_ok h5 hx).1, fun a ha => ?_⟩
  · rw [FrW_rv f3 row113 row109 (by omega), FrW_rv f2 row111 row109 (by omega), w1, mpI_app]
  · rw [FrW_rv f3 row113 row111 (by omega), w2, mpI_app]
  · rw [f3 a (by omega) (by omega), f2 a (by omega) (by omega), f1 a (by omega) (by omega)]; exact h6 a ha
theorem wr58 (h : KRo σ0 σ n fr to o) (hn : n < 720) (Q : List AV → aSg → Prop) (hq : ∀ σ', KRo σ0 σ' (n + 1) (upI fr n (-1)) (upI to n (-1)) (uPd o n n) → Q [.inl (n : Int)] σ') : CA m58 [.inr (.inl 108)] σ Q := by
  rw [e58]
  simp (disch := omega) only [s58_0, s58_1, s58_2, s58_3, s58_6, List.cons_append, List.nil_append, if_true, if_false, true_and, and_true, and_self, eq_self, true_or, or_true, false_or, or_false, tIn, tLe, fLe, tLt, fLt, tEq, fEq, isL]
  refine wr59 h hn (Or.inl rfl) _ (fun σ1 i1 => ?_)
  simp (disch := omega) only [s58_0, s58_1, s58_2, s58_3, s58_6, List.cons_append, List.nil_append, if_true, if_false, true_and, and_true, and_self, eq_self, true_or, or_true, false_or, or_false, tIn, tLe, fLe, tLt, fLt, tEq, fEq, isL]
  exact hq σ1 i1
end ARW
