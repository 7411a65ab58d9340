/-! kinds: what they are, how they are written -/
abbrev Ty : Type := Lean.Data.AC.Expr
def sbT (s : Nat → Ty) : Ty → Ty
  | .var x => s x
  | .op a b => .op (sbT s a) (sbT s b)
def vaT : Ty → List Nat
  | .var x => [x]
  | .op a b => vaT a ++ vaT b
def isOp : Ty → Bool
  | .var _ => false
  | .op _ _ => true
def ixN (x : Nat) : List Nat → Nat
  | [] => 0
  | y :: l => if y = x then 0 else 1 + ixN x l
def wrt : Ty → List Nat → List Int × List Nat
  | .var x, l => if x ∈ l then ([97 + (ixN x l : Int)], l) else ([97 + (l.length : Int)], l ++ [x])
  | .op a b, l => ((if isOp a = true then [40] ++ (wrt a l).1 ++ [41] else (wrt a l).1) ++ [62] ++ (wrt b (wrt a l).2).1, (wrt b (wrt a l).2).2)
def szT : Ty → Nat
  | .var _ => 1
  | .op a b => 1 + szT a + szT b
section KND
variable {s s' : Nat → Ty} {f : Nat → Nat} {x y : Nat}
theorem sb_var {u : Ty} (h : sbT s u = .var x) : ∃ y, u = .var y := by
  cases u with
  | var y => exact ⟨y, rfl⟩
  | op a b => simp [sbT] at h
theorem sb_id : ∀ π : Ty, sbT s' (sbT s π) = π → ∀ x ∈ vaT π, sbT s' (s x) = .var x := by
  intro π
  induction π with
  | var y => intro h x hx; rcases List.mem_singleton.mp hx with rfl; exact h
  | op a b iha ihb =>
    intro h x hx
    simp only [sbT, Lean.Data.AC.Expr.op.injEq] at h
    rcases List.mem_append.mp hx with hx | hx
    · exact iha h.1 x hx
    · exact ihb h.2 x hx
theorem ixN_map : ∀ (l : List Nat) (x : Nat), (∀ y ∈ l, f y = f x → y = x) → ixN (f x) (l.map f) = ixN x l := by
  intro l
  induction l with
  | nil => intro x _; rfl
  | cons y l ih =>
    intro x h
    simp only [List.map_cons, ixN]
    by_cases e : y = x
    · rw [if_pos e, if_pos (by rw [e])]
    · rw [if_neg e, if_neg (fun z => e (h y (List.mem_cons_self ..) z)), ih x (fun z hz => h z (List.mem_cons_of_mem _ hz))]
theorem wrt_sub : ∀ (π : Ty) (l : List Nat), ∀ z ∈ (wrt π l).2, z ∈ l ∨ z ∈ vaT π := by
  intro π
  induction π with
  | var x =>
    intro l z hz
    simp only [wrt] at hz
    split at hz
    · exact Or.inl hz
    · rcases List.mem_append.mp hz with hz | hz
      · exact Or.inl hz
      · exact Or.inr (by simpa [vaT] using hz)
  | op a b iha ihb =>
    intro l z hz
    simp only [wrt] at hz
    rcases ihb _ z hz with h | h
    · rcases iha _ z h with h | h
      · exact Or.inl h
      · exact Or.inr (List.mem_append_left _ h)
    · exact Or.inr (List.mem_append_right _ h)
theorem isOp_sb {a : Ty} (h : ∀ x ∈ vaT a, ∃ y, s x = .var y) : isOp (sbT s a) = isOp a := by
  cases a with
  | var x => obtain ⟨y, e⟩ := h x (by simp [vaT]); simp [sbT, e, isOp]
  | op a b => rfl
theorem wrt_ren : ∀ (π : Ty) (l : List Nat), (∀ x ∈ vaT π, s x = .var (f x)) → (∀ x y, (x ∈ vaT π ∨ x ∈ l) → (y ∈ vaT π ∨ y ∈ l) → f x = f y → x = y) → wrt (sbT s π) (l.map f) = ((wrt π l).1, (wrt π l).2.map f) := by
  intro π
  induction π with
  | var x =>
    intro l h1 h2
    have e := h1 x (by simp [vaT])
    simp only [sbT, e, wrt]
    by_cases g : x ∈ l
    · rw [if_pos g, if_pos (List.mem_map_of_mem g)]
      simp only
      rw [ixN_map l x (fun y hy z => h2 y x (Or.inr hy) (Or.inl (by simp [vaT])) z)]
    · have g' : ¬ f x ∈ l.map f := by
        intro z
        obtain ⟨y, y1, y2⟩ := List.mem_map.mp z
        exact g (by rw [← h2 y x (Or.inr y1) (Or.inl (by simp [vaT])) y2]; exact y1)
      rw [if_neg g, if_neg g']
      simp
  | op a b iha ihb =>
    intro l h1 h2
    have ha : ∀ x ∈ vaT a, s x = .var (f x) := fun x hx => h1 x (List.mem_append_left _ hx)
    have hb : ∀ x ∈ vaT b, s x = .var (f x) := fun x hx => h1 x (List.mem_append_right _ hx)
    have mem : ∀ x, (x ∈ vaT b ∨ x ∈ (wrt a l).2) → (x ∈ vaT (.op a b) ∨ x ∈ l) := by
      intro x hx
      rcases hx with hx | hx
      · exact Or.inl (List.mem_append_right _ hx)
      · rcases wrt_sub a l x hx with h | h
        · exact Or.inr h
        · exact Or.inl (List.mem_append_left _ h)
    have q1 := iha l ha (fun x y hx hy => h2 x y (by rcases hx with h | h; exact Or.inl (List.mem_append_left _ h); exact Or.inr h) (by rcases hy with h | h; exact Or.inl (List.mem_append_left _ h); exact Or.inr h))
    have q2 := ihb (wrt a l).2 hb (fun x y hx hy => h2 x y (mem x hx) (mem y hy))
    simp only [sbT, wrt]
    rw [q1]
    simp only
    rw [q2, isOp_sb (fun x hx => ⟨_, ha x hx⟩)]
/-- two that are instances of each other are written alike -/
theorem wrt_eq {π π' : Ty} (h1 : sbT s π = π') (h2 : sbT s' π' = π) : (wrt π []).1 = (wrt π' []).1 ∧ (wrt π []).2.length = (wrt π' []).2.length := by
  have hid := sb_id π (s := s) (s' := s') (by rw [h1, h2])
  have hv : ∀ x ∈ vaT π, ∃ y, s x = .var y := fun x hx => sb_var (hid x hx)
  have hf : ∃ f : Nat → Nat, ∀ x ∈ vaT π, s x = .var (f x) := by
    refine ⟨fun x => match s x with | .var y => y | _ => 0, fun x hx => ?_⟩
    obtain ⟨y, e⟩ := hv x hx
    simp only [e]
  obtain ⟨f, hf⟩ := hf
  have hinj : ∀ x y, (x ∈ vaT π ∨ x ∈ ([] : List Nat)) → (y ∈ vaT π ∨ y ∈ ([] : List Nat)) → f x = f y → x = y := by
    intro x y hx hy e
    have hx' : x ∈ vaT π := by rcases hx with h | h; exact h; cases h
    have hy' : y ∈ vaT π := by rcases hy with h | h; exact h; cases h
    have a1 := hid x hx'
    have a2 := hid y hy'
    rw [hf x hx'] at a1
    rw [hf y hy'] at a2
    rw [e] at a1
    rw [a1] at a2
    simpa using a2
  have := wrt_ren π [] hf hinj
  rw [h1] at this
  simp only [List.map_nil] at this
  rw [this]
  simp
end KND
/-- a sign's kind -/
def sgK (c : Int) (τ : Ty) : Prop :=
  if c = 73 then ∃ a : Ty, τ = .op a a
  else if c = 75 then ∃ a b : Ty, τ = .op a (.op b a)
  else if c = 83 then ∃ a b d : Ty, τ = .op (.op a (.op b d)) (.op (.op a b) (.op a d))
  else if c = 66 then ∃ a b d : Ty, τ = .op (.op b d) (.op (.op a b) (.op a d))
  else ∃ a b d : Ty, τ = .op (.op a (.op b d)) (.op b (.op a d))
def rsB (T : List Int) (p : Nat) : Nat → Option Nat
  | 0 => none
  | b + 1 => if T.getD b 0 = 1000 + T.getD p 0 ∧ p < te T b then some b else rsB T p b
def nmK (β : Nat → Ty) (γ : Int → Ty) (T : List Int) (p : Nat) (c : Int) : Ty := match rsB T p p with
  | some b => β b
  | none => γ c
def dv (β : Nat → Ty) (γ : Int → Ty) (T : List Int) : Tm → Nat → Ty → Prop
  | .num c, p, τ => if 97 ≤ c ∧ c ≤ 122 then τ = nmK β γ T p c else sgK c τ
  | .add a b, p, τ => ∃ k, dv β γ T a (p + 1) (.op k τ) ∧ dv β γ T b (te T (p + 1)) k
  | .mulL _ a, p, τ => ∃ l, τ = .op (β p) l ∧ dv β γ T a (p + 1) l
  | _, _, _ => False
/-- it has a kind; the most general one -/
def hasK (T : List Int) : Prop := ∃ β γ τ, dv β γ T (trA T 0) 0 τ
def prK (T : List Int) (π : Ty) : Prop := (∃ β γ, dv β γ T (trA T 0) 0 π) ∧ ∀ β γ τ, dv β γ T (trA T 0) 0 τ → ∃ s, sbT s π = τ
noncomputable def kdP (T : List Int) : Ty := @Classical.epsilon Ty ⟨.var 0⟩ (fun π => prK T π)
noncomputable def kW (T : List Int) : List Int := (wrt (kdP T) []).1
noncomputable def kN (T : List Int) : Nat := (wrt (kdP T) []).2.length
theorem prK_W {T : List Int} {π : Ty} (h : prK T π) : (wrt π []).1 = kW T ∧ (wrt π []).2.length = kN T := by
  have h' : prK T (kdP T) := Classical.epsilon_spec (p := fun π => prK T π) ⟨π, h⟩
  obtain ⟨⟨β, γ, d1⟩, g1⟩ := h
  obtain ⟨⟨β', γ', d2⟩, g2⟩ := h'
  obtain ⟨s, e1⟩ := g1 β' γ' _ d2
  obtain ⟨s', e2⟩ := g2 β γ _ d1
  exact wrt_eq e1 e2
