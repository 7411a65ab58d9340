/-! terms as rows of tokens -/
theorem skp_split {m n : Nat} {l r : List Int} (h : skp (m + n) l = some r) : ∃ r1, skp m l = some r1 ∧ skp n r1 = some r := by
  induction l generalizing m with
  | nil =>
    cases m with
    | zero => exact ⟨[], rfl, by simpa using h⟩
    | succ m => rw [show m + 1 + n = (m + n) + 1 by omega] at h; simp [skp] at h
  | cons c l ih =>
    cases m with
    | zero => exact ⟨c :: l, rfl, by simpa using h⟩
    | succ m =>
      rw [show m + 1 + n = (m + n) + 1 by omega] at h
      simp only [skp] at h ⊢
      rw [show m + n + arT c = (m + arT c) + n by omega] at h
      exact ih h
theorem skp_sfx {n : Nat} {l r : List Int} (h : skp n l = some r) : ∃ a, l = a ++ r ∧ skp n a = some [] := by
  induction l generalizing n with
  | nil =>
    cases n with
    | zero => simp only [skp, Option.some.injEq] at h; subst h; exact ⟨[], rfl, rfl⟩
    | succ n => simp [skp] at h
  | cons c l ih =>
    cases n with
    | zero => simp only [skp, Option.some.injEq] at h; subst h; exact ⟨[], rfl, rfl⟩
    | succ n =>
      simp only [skp] at h
      obtain ⟨a, rfl, ha⟩ := ih h
      exact ⟨c :: a, rfl, ha⟩
abbrev isT (t : List Int) : Prop := skp 1 t = some []
theorem isT_ne {t : List Int} (h : isT t) : t ≠ [] := by intro e; subst e; simp [isT, skp] at h
theorem isT_pos {t : List Int} (h : isT t) : 0 < t.length := List.length_pos_iff.mpr (isT_ne h)
/-- what is left has terms: at least one -/
def sx (T : List Int) (p : Nat) : Prop := ∃ k, skp (k + 1) (T.drop p) = some []
theorem skp_tail {n : Nat} {a b : List Int} (h : skp n (a ++ b) = some []) (hb : b ≠ []) : ∃ k, skp (k + 1) b = some [] := by
  induction a generalizing n with
  | nil =>
    cases n with
    | zero => simp only [skp, List.nil_append, Option.some.injEq] at h; exact absurd h hb
    | succ n => exact ⟨n, h⟩
  | cons c a ih =>
    cases n with
    | zero => simp [skp] at h
    | succ n =>
      simp only [List.cons_append, skp] at h
      exact ih h
theorem sx_of {T : List Int} {p : Nat} (h : isT T) (hp : p < T.length) : sx T p := by
  have e : T = T.take p ++ T.drop p := (List.take_append_drop p T).symm
  unfold isT at h
  rw [e] at h
  exact skp_tail h (by intro he; have := congrArg List.length he; simp at this; omega)
/-- the length of the first term -/
def tlen (l : List Int) : Nat := match skp 1 l with
  | some r => l.length - r.length
  | none => 0
theorem tlen_app {t r : List Int} (h : isT t) : tlen (t ++ r) = t.length := by
  unfold tlen
  rw [skp_app h]
  simp
theorem tlen_T {t : List Int} (h : isT t) : tlen t = t.length := by
  have := tlen_app (r := []) h
  simpa using this
/-- the first term of what is left -/
theorem sx_split {T : List Int} {p : Nat} (h : sx T p) : ∃ t r, T.drop p = t ++ r ∧ isT t ∧ (r = [] ∨ ∃ k, skp (k + 1) r = some []) := by
  obtain ⟨k, hk⟩ := h
  rw [Nat.add_comm] at hk
  obtain ⟨r1, h1, h2⟩ := skp_split hk
  obtain ⟨a, e, ha⟩ := skp_sfx h1
  refine ⟨a, r1, e, ha, ?_⟩
  cases k with
  | zero => simp only [skp, Option.some.injEq] at h2; exact Or.inl h2
  | succ k => exact Or.inr ⟨k, h2⟩
def te (T : List Int) (p : Nat) : Nat := p + tlen (T.drop p)
theorem isT_cases {t : List Int} (h : isT t) : (∃ c, arT c = 0 ∧ t = [c]) ∨ (∃ c a, arT c = 1 ∧ isT a ∧ t = c :: a) ∨ (∃ c a b, arT c = 2 ∧ isT a ∧ isT b ∧ t = c :: (a ++ b)) := by
  cases t with
  | nil => exact absurd rfl (isT_ne h)
  | cons c l =>
    have h' : skp (arT c) l = some [] := by simpa [isT, skp] using h
    have hr : arT c = 0 ∨ arT c = 1 ∨ arT c = 2 := by unfold arT; split; omega; split <;> omega
    rcases hr with e | e | e
    · rw [e] at h'
      simp only [skp, Option.some.injEq] at h'
      exact Or.inl ⟨c, e, by rw [h']⟩
    · rw [e] at h'
      exact Or.inr (Or.inl ⟨c, l, e, h', rfl⟩)
    · rw [e] at h'
      obtain ⟨r1, h1, h2⟩ := skp_split (m := 1) (n := 1) h'
      obtain ⟨a, rfl, ha⟩ := skp_sfx h1
      exact Or.inr (Or.inr ⟨c, a, r1, e, ha, h2, rfl⟩)
theorem isT_0 {c : Int} (h : arT c = 0) : isT [c] := by simp [isT, skp, h]
theorem isT_1 {c : Int} {a : List Int} (h : arT c = 1) (ha : isT a) : isT (c :: a) := by
  show skp (0 + arT c) a = some []
  rw [h]; exact ha
theorem isT_2 {c : Int} {a b : List Int} (h : arT c = 2) (ha : isT a) (hb : isT b) : isT (c :: (a ++ b)) := by
  show skp (0 + arT c) (a ++ b) = some []
  rw [h, show 0 + 2 = 1 + 1 from rfl, skp_add (skp_app ha)]
  exact hb
theorem term_ind {P : List Int → Prop} (h0 : ∀ c, arT c = 0 → P [c]) (h1 : ∀ c a, arT c = 1 → isT a → P a → P (c :: a)) (h2 : ∀ c a b, arT c = 2 → isT a → isT b → P a → P b → P (c :: (a ++ b))) : ∀ t, isT t → P t := by
  have : ∀ n t, t.length ≤ n → isT t → P t := by
    intro n
    induction n with
    | zero => intro t hn ht; have := isT_pos ht; omega
    | succ n ih =>
      intro t hn ht
      rcases isT_cases ht with ⟨c, hc, rfl⟩ | ⟨c, a, hc, ha, rfl⟩ | ⟨c, a, b, hc, ha, hb, rfl⟩
      · exact h0 c hc
      · exact h1 c a hc ha (ih a (by simp at hn; omega) ha)
      · exact h2 c a b hc ha hb (ih a (by simp at hn; omega) ha) (ih b (by simp at hn; omega) hb)
  exact fun t ht => this t.length t (Nat.le_refl _) ht
/-- the first term at a place, its parts -/
theorem at_split {T : List Int} {p : Nat} (hT : isT T) (hp : p < T.length) : ∃ t r, T.drop p = t ++ r ∧ isT t ∧ te T p = p + t.length ∧ te T p ≤ T.length ∧ p < te T p := by
  obtain ⟨t, r, e, ht, -⟩ := sx_split (sx_of hT hp)
  have hl := congrArg List.length e
  simp only [List.length_drop, List.length_append] at hl
  have h1 := isT_pos ht
  have h2 : te T p = p + t.length := by unfold te; rw [e, tlen_app ht]
  exact ⟨t, r, e, ht, h2, by omega, by omega⟩
theorem te_gt {T : List Int} {p : Nat} (hT : isT T) (hp : p < T.length) : p < te T p ∧ te T p ≤ T.length := by
  obtain ⟨t, r, -, -, -, h1, h2⟩ := at_split hT hp
  exact ⟨h2, h1⟩
theorem te_0 {T : List Int} {p : Nat} {c : Int} (hT : isT T) (hc : T[p]? = some c) (ha : arT c = 0) : te T p = p + 1 := by
  have hp := (List.getElem?_eq_some_iff.mp hc).1
  obtain ⟨t, r, e, ht, h1, -⟩ := at_split hT hp
  have hd : T.drop p = c :: T.drop (p + 1) := by rw [List.drop_eq_getElem_cons hp, (List.getElem?_eq_some_iff.mp hc).2]
  rw [e] at hd
  rcases isT_cases ht with ⟨c', hc', rfl⟩ | ⟨c', a, hc', ha', rfl⟩ | ⟨c', a, b, hc', ha', hb', rfl⟩
  · rw [h1]; simp
  · simp only [List.cons_append, List.cons.injEq] at hd
    rw [← hd.1] at ha; omega
  · simp only [List.cons_append, List.cons.injEq] at hd
    rw [← hd.1] at ha; omega
theorem te_1 {T : List Int} {p : Nat} {c : Int} (hT : isT T) (hc : T[p]? = some c) (ha : arT c = 1) : p + 1 < T.length ∧ te T p = te T (p + 1) := by
  have hp := (List.getElem?_eq_some_iff.mp hc).1
  obtain ⟨t, r, e, ht, h1, h2, -⟩ := at_split hT hp
  have hd : T.drop p = c :: T.drop (p + 1) := by rw [List.drop_eq_getElem_cons hp, (List.getElem?_eq_some_iff.mp hc).2]
  rw [e] at hd
  rcases isT_cases ht with ⟨c', hc', rfl⟩ | ⟨c', a, hc', ha', rfl⟩ | ⟨c', a, b, hc', ha', hb', rfl⟩
  · simp only [List.cons_append, List.cons.injEq] at hd
    rw [← hd.1] at ha; omega
  · simp only [List.cons_append, List.cons.injEq] at hd
    have := isT_pos ha'
    simp only [List.length_cons] at h1
    refine ⟨by omega, ?_⟩
    rw [h1, te, ← hd.2, tlen_app ha']
    omega
  · simp only [List.cons_append, List.cons.injEq] at hd
    rw [← hd.1] at ha; omega
theorem te_2 {T : List Int} {p : Nat} {c : Int} (hT : isT T) (hc : T[p]? = some c) (ha : arT c = 2) : p + 1 < T.length ∧ te T (p + 1) < T.length ∧ te T p = te T (te T (p + 1)) := by
  have hp := (List.getElem?_eq_some_iff.mp hc).1
  obtain ⟨t, r, e, ht, h1, h2, -⟩ := at_split hT hp
  have hd : T.drop p = c :: T.drop (p + 1) := by rw [List.drop_eq_getElem_cons hp, (List.getElem?_eq_some_iff.mp hc).2]
  rw [e] at hd
  rcases isT_cases ht with ⟨c', hc', rfl⟩ | ⟨c', a, hc', ha', rfl⟩ | ⟨c', a, b, hc', ha', hb', rfl⟩
  · simp only [List.cons_append, List.cons.injEq] at hd
    rw [← hd.1] at ha; omega
  · simp only [List.cons_append, List.cons.injEq] at hd
    rw [← hd.1] at ha; omega
  · simp only [List.cons_append, List.cons.injEq, List.append_assoc] at hd
    have pa := isT_pos ha'
    have pb := isT_pos hb'
    simp only [List.length_cons, List.length_append] at h1
    have e1 : te T (p + 1) = p + 1 + a.length := by rw [te, ← hd.2, tlen_app ha']
    have e2 : T.drop (p + 1 + a.length) = b ++ r := by
      rw [← List.drop_drop, ← hd.2, List.drop_left]
    refine ⟨by omega, by omega, ?_⟩
    rw [e1, h1, te, e2, tlen_app hb']
    omega
