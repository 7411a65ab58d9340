/-! kinds: none within itself -/
def Acy (n : Nat) (fr to : Nat → Int) (o : Nat → Nat) : Prop := ∃ ht : Nat → Nat, ∀ r, r < n → o r = r → fr r ≠ -1 → (∀ x, Ru o (fr r).toNat x → ht x < ht r) ∧ (∀ x, Ru o (to r).toNat x → ht x < ht r)
noncomputable def rof (o : Nat → Nat) (i : Nat) : Nat := @Classical.epsilon Nat ⟨0⟩ (fun r => Ru o i r)
noncomputable def tyF (fr to : Nat → Int) (o : Nat → Nat) : Nat → Nat → Ty
  | 0, i => .var (rof o i)
  | f + 1, i => if fr (rof o i) = -1 then .var (rof o i) else .op (tyF fr to o f (fr (rof o i)).toNat) (tyF fr to o f (to (rof o i)).toNat)
section SND
variable {n : Nat} {fr to : Nat → Int} {o o' ρ : Nat → Nat} {i j r k l a b x y : Nat} {v : Nat → Ty} {P : List (Nat × Nat)}
theorem rof_eq (h : Ru o i r) : rof o i = r := Ru_un (Classical.epsilon_spec (p := fun r => Ru o i r) ⟨r, h⟩) h
theorem KG_at (hK : KGr n fr to) (hi : i < n) (hf : fr i ≠ -1) : (fr i).toNat < n ∧ (to i).toNat < n := by
  rcases hK i hi with q | ⟨a, b, q1, q2, q3, q4⟩
  · exact absurd q hf
  · rw [q1, q2]; simp only [Int.toNat_natCast]; exact ⟨q3, q4⟩
theorem ht_max (ht : Nat → Nat) : ∀ n, ∃ B, ∀ r, r < n → ht r < B := by
  intro n
  induction n with
  | zero => exact ⟨0, fun r hr => by omega⟩
  | succ n ih =>
    obtain ⟨B, hB⟩ := ih
    refine ⟨B + ht n + 1, fun r hr => ?_⟩
    by_cases e : r = n
    · subst e; omega
    · have := hB r (by omega); omega
theorem acy_V (hK : KGr n fr to) (hU : UFr n o ρ) (hC : CCm n fr to o []) (hA : Acy n fr to o) : ∃ V : Nat → Ty, apV n fr to V ∧ onV n o V ∧ (∀ i r, i < n → Ru o i r → (fr r = -1 → V i = .var r) ∧ (fr r ≠ -1 → V i = .op (V (fr r).toNat) (V (to r).toNat))) ∧ ∀ v, apV n fr to v → onV n o v → ∀ i, i < n → sbT v (V i) = v i := by
  obtain ⟨ht, hA⟩ := hA
  have rr : ∀ i, i < n → ∃ r, Ru o i r ∧ r < n ∧ o r = r ∧ rof o i = r := by
    intro i hi
    obtain ⟨r, q1, q2, q3⟩ := Ru_ex hU (ρ i) i (Nat.le_refl _) hi
    exact ⟨r, q1, q2, (Ru_in hU hi q1).2.2, rof_eq q1⟩
  have stab : ∀ (m i f g r : Nat), i < n → Ru o i r → ht r ≤ m → ht r < f → ht r < g → tyF fr to o f i = tyF fr to o g i := by
    intro m
    induction m with
    | zero =>
      intro i f g r hi hr h1 h2 h3
      obtain ⟨r', a1, a2, a3, a4⟩ := rr i hi
      have := Ru_un hr a1
      subst this
      cases f with
      | zero => omega
      | succ f =>
        cases g with
        | zero => omega
        | succ g =>
          simp only [tyF, a4]
          by_cases e : fr r = -1
          · rw [if_pos e, if_pos e]
          · exfalso
            obtain ⟨x1, x2⟩ := KG_at hK a2 e
            obtain ⟨x, y1, -⟩ := rr _ x1
            have := (hA r a2 a3 e).1 x y1
            omega
    | succ m ih =>
      intro i f g r hi hr h1 h2 h3
      obtain ⟨r', a1, a2, a3, a4⟩ := rr i hi
      have := Ru_un hr a1
      subst this
      cases f with
      | zero => omega
      | succ f =>
        cases g with
        | zero => omega
        | succ g =>
          simp only [tyF, a4]
          by_cases e : fr r = -1
          · rw [if_pos e, if_pos e]
          · rw [if_neg e, if_neg e]
            obtain ⟨x1, x2⟩ := KG_at hK a2 e
            obtain ⟨x, y1, -⟩ := rr _ x1
            obtain ⟨y, y2, -⟩ := rr _ x2
            have z1 := (hA r a2 a3 e).1 x y1
            have z2 := (hA r a2 a3 e).2 y y2
            rw [ih _ f g x x1 y1 (by omega) (by omega) (by omega), ih _ f g y x2 y2 (by omega) (by omega) (by omega)]
  obtain ⟨B, hB⟩ := ht_max ht n
  have shape : ∀ i r, i < n → Ru o i r → (fr r = -1 → tyF fr to o (B + 1) i = .var r) ∧ (fr r ≠ -1 → tyF fr to o (B + 1) i = .op (tyF fr to o (B + 1) (fr r).toNat) (tyF fr to o (B + 1) (to r).toNat)) := by
    intro i r hi hr
    obtain ⟨r', a1, a2, a3, a4⟩ := rr i hi
    have := Ru_un hr a1
    subst this
    refine ⟨fun e => by simp only [tyF, a4]; rw [if_pos e], fun e => ?_⟩
    obtain ⟨x1, x2⟩ := KG_at hK a2 e
    obtain ⟨x, y1, y3, -⟩ := rr _ x1
    obtain ⟨y, y2, y4, -⟩ := rr _ x2
    have z1 := (hA r a2 a3 e).1 x y1
    have z2 := (hA r a2 a3 e).2 y y2
    have b0 := hB r a2
    rw [show tyF fr to o (B + 1) i = .op (tyF fr to o B (fr r).toNat) (tyF fr to o B (to r).toNat) by simp only [tyF, a4]; rw [if_neg e]]
    rw [stab (ht x) _ B (B + 1) x x1 y1 (Nat.le_refl _) (by omega) (by omega), stab (ht y) _ B (B + 1) y x2 y2 (Nat.le_refl _) (by omega) (by omega)]
  have hon : onV n o (tyF fr to o (B + 1)) := by
    intro i hi
    obtain ⟨r, a1, a2, a3, a4⟩ := rr i hi
    obtain ⟨s1, s2⟩ := shape i r hi a1
    obtain ⟨s3, s4⟩ := shape (o i) r (hU i hi).1 (Ru_dn a1)
    by_cases e : fr r = -1
    · rw [s1 e, s3 e]
    · rw [s2 e, s4 e]
  refine ⟨tyF fr to o (B + 1), fun i hi hf => ?_, hon, shape, fun v hv1 hv2 => ?_⟩
  · obtain ⟨r, a1, a2, a3, a4⟩ := rr i hi
    obtain ⟨c1, c2⟩ := hC i r hi hf a1
    obtain ⟨d1, d2⟩ := c2 _ hon (fun q hq => by cases hq)
    rw [(shape i r hi a1).2 c1, d1, d2]
  · have : ∀ (m i r : Nat), i < n → Ru o i r → ht r ≤ m → sbT v (tyF fr to o (B + 1) i) = v i := by
      intro m
      induction m with
      | zero =>
        intro i r hi hr h1
        obtain ⟨a2, -, a3⟩ := Ru_in hU hi hr
        rw [Ru_v hU hv2 hi hr]
        by_cases e : fr r = -1
        · rw [(shape i r hi hr).1 e]; rfl
        · exfalso
          obtain ⟨x1, x2⟩ := KG_at hK a2 e
          obtain ⟨x, y1, -⟩ := rr _ x1
          have := (hA r a2 a3 e).1 x y1
          omega
      | succ m ih =>
        intro i r hi hr h1
        obtain ⟨a2, -, a3⟩ := Ru_in hU hi hr
        rw [Ru_v hU hv2 hi hr]
        by_cases e : fr r = -1
        · rw [(shape i r hi hr).1 e]; rfl
        · obtain ⟨x1, x2⟩ := KG_at hK a2 e
          obtain ⟨x, y1, -⟩ := rr _ x1
          obtain ⟨y, y2, -⟩ := rr _ x2
          have z1 := (hA r a2 a3 e).1 x y1
          have z2 := (hA r a2 a3 e).2 y y2
          rw [(shape i r hi hr).2 e, hv1 r a2 e]
          simp only [sbT]
          rw [ih _ x x1 y1 (by omega), ih _ y x2 y2 (by omega)]
    intro i hi
    obtain ⟨r, a1, -⟩ := rr i hi
    exact this (ht r) i r hi a1 (Nat.le_refl _)
/-- what goes round has no kind -/
theorem cyc_no (hK : KGr n fr to) (hU : UFr n o ρ) (Bad : Nat → Prop) (h1 : ∀ r, Bad r → r < n ∧ fr r ≠ -1 ∧ ∃ x, (Ru o (fr r).toNat x ∨ Ru o (to r).toNat x) ∧ Bad x) (hr : Bad r) : ¬ ∃ v, apV n fr to v ∧ onV n o v := by
  rintro ⟨v, hv1, hv2⟩
  have : ∀ (m r : Nat), szT (v r) ≤ m → ¬ Bad r := by
    intro m
    induction m with
    | zero =>
      intro r h hb
      have : 0 < szT (v r) := by cases v r <;> simp [szT]; omega
      omega
    | succ m ih =>
      intro r h hb
      obtain ⟨q1, q2, x, q3, q4⟩ := h1 r hb
      obtain ⟨x1, x2⟩ := KG_at hK q1 q2
      have e := hv1 r q1 q2
      have sz : szT (v r) = 1 + szT (v (fr r).toNat) + szT (v (to r).toNat) := by rw [e]; rfl
      refine ih x ?_ q4
      rcases q3 with q3 | q3
      · rw [← Ru_v hU hv2 x1 q3]; omega
      · rw [← Ru_v hU hv2 x2 q3]; omega
  exact this _ r (Nat.le_refl _) hr
end SND
