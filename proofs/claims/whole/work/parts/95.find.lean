/-! Sorter: what the search for a kind keeps -/
def vl (β : Nat → Ty) (γ : Int → Ty) : Lb → Ty
  | .inl b => β b
  | .inr c => γ c
def FdI (n : Nat) (fr to : Nat → Int) (o : Nat → Nat) (n0 : Nat) (lb : Nat → Lb) (T CK : List Int) (p : Nat) : Prop :=
  (∀ v β γ, Sl n fr to o v → (∀ i, i < n0 → v i = vl β γ (lb i)) → ∀ q, p ≤ q → q < T.length → lcl β γ T (fun q => v (lat CK (q : Int)).toNat) q) ∧
  ∀ (β : Nat → Ty) (γ : Int → Ty) (τ : Nat → Ty), (∀ q, p ≤ q → q < T.length → lcl β γ T τ q) → ∃ v, Sl n fr to o v ∧ (∀ i, i < n0 → v i = vl β γ (lb i)) ∧ ∀ q : Nat, p ≤ q → q < T.length → v (lat CK (q : Int)).toNat = τ q
section FDI
variable {n n' n0 : Nat} {fr to fr' to' : Nat → Int} {o o' : Nat → Nat} {lb : Nat → Lb} {T CK CK' : List Int} {p q : Nat} {β : Nat → Ty} {γ : Int → Ty} {τ τ' v : Nat → Ty}
theorem te_ge0 : q ≤ te T q := by unfold te; omega
theorem lcl_cg (h : ∀ r, q ≤ r → τ' r = τ r) (hl : lcl β γ T τ q) : lcl β γ T τ' q := by
  unfold lcl at hl ⊢
  have := te_ge0 (T := T) (q := q + 1)
  rw [h q (Nat.le_refl _), h (q + 1) (by omega), h (te T (q + 1)) (by omega)]
  exact hl
theorem vl_ex {p0 : Nat} (h : LbJ n0 lb p0) : ∃ β γ, ∀ i, i < n0 → v i = vl β γ (lb i) := by
  refine ⟨fun b => v (@Classical.epsilon Nat ⟨0⟩ (fun i => i < n0 ∧ lb i = .inl b)), fun c => v (@Classical.epsilon Nat ⟨0⟩ (fun i => i < n0 ∧ lb i = .inr c)), fun i hi => ?_⟩
  cases e : lb i with
  | inl b =>
    have s := Classical.epsilon_spec (p := fun j => j < n0 ∧ lb j = .inl b) ⟨i, hi, e⟩
    exact congrArg v (h.1 _ _ hi s.1 (e.trans s.2.symm))
  | inr c =>
    have s := Classical.epsilon_spec (p := fun j => j < n0 ∧ lb j = .inr c) ⟨i, hi, e⟩
    exact congrArg v (h.1 _ _ hi s.1 (e.trans s.2.symm))
theorem FdI_st (h : FdI n fr to o n0 lb T CK (p + 1)) (hn : n0 ≤ n) (gp : p < T.length) (hCK : ∀ q : Nat, p < q → lat CK' (q : Int) = lat CK (q : Int)) (hb : ∀ q : Nat, p < q → q < T.length → (lat CK (q : Int)).toNat < n)
    (S1 : ∀ v β γ, Sl n' fr' to' o' v → (∀ i, i < n0 → v i = vl β γ (lb i)) → Sl n fr to o v ∧ lcl β γ T (fun q => v (lat CK' (q : Int)).toNat) p)
    (S2 : ∀ v β γ τ, Sl n fr to o v → (∀ i, i < n0 → v i = vl β γ (lb i)) → (∀ q : Nat, p < q → q < T.length → v (lat CK (q : Int)).toNat = τ q) → lcl β γ T τ p → ∃ v', Sl n' fr' to' o' v' ∧ (∀ i, i < n → v' i = v i) ∧ v' (lat CK' (p : Int)).toNat = τ p) : FdI n' fr' to' o' n0 lb T CK' p := by
  constructor
  · intro v β γ hs hv q h1 h2
    obtain ⟨s1, s2⟩ := S1 v β γ hs hv
    by_cases g : q = p
    · rw [g]; exact s2
    · refine lcl_cg (fun r hr => ?_) (h.1 v β γ s1 hv q (by omega) h2)
      simp only [hCK r (by omega)]
  · intro β γ τ hl
    obtain ⟨v, v1, v2, v3⟩ := h.2 β γ τ (fun q h1 h2 => hl q (by omega) h2)
    obtain ⟨v', w1, w2, w3⟩ := S2 v β γ τ v1 v2 (fun q h1 h2 => v3 q (by omega) h2) (hl p (Nat.le_refl _) gp)
    refine ⟨v', w1, fun i hi => (w2 i (by omega)).trans (v2 i hi), fun q h1 h2 => ?_⟩
    by_cases g : q = p
    · rw [g]; exact w3
    · rw [hCK q (by omega), w2 _ (hb q (by omega) h2)]
      exact v3 q (by omega) h2
end FDI
