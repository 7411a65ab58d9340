/-! kinds: which are one -/
def itn (o : Nat → Nat) : Nat → Nat → Nat
  | 0, i => i
  | f + 1, i => itn o f (o i)
def Ru (o : Nat → Nat) (i r : Nat) : Prop := ∃ f, itn o f i = r ∧ o r = r
def KGr (n : Nat) (fr to : Nat → Int) : Prop := ∀ i, i < n → fr i = -1 ∨ ∃ a b : Nat, fr i = (a : Int) ∧ to i = (b : Int) ∧ a < n ∧ b < n
def UFr (n : Nat) (o ρ : Nat → Nat) : Prop := ∀ i, i < n → o i < n ∧ (o i ≠ i → ρ (o i) < ρ i)
def apV (n : Nat) (fr to : Nat → Int) (v : Nat → Ty) : Prop := ∀ i, i < n → fr i ≠ -1 → v i = .op (v (fr i).toNat) (v (to i).toNat)
def onV (n : Nat) (o : Nat → Nat) (v : Nat → Ty) : Prop := ∀ i, i < n → v i = v (o i)
def prV (P : List (Nat × Nat)) (v : Nat → Ty) : Prop := ∀ q ∈ P, v q.1 = v q.2
def uPd (o : Nat → Nat) (a b i : Nat) : Nat := if i = a then b else o i
def rtN (o : Nat → Nat) : Nat → Nat
  | 0 => 0
  | n + 1 => (if o n = n then 1 else 0) + rtN o n
section UNI
variable {n : Nat} {fr to : Nat → Int} {o o' ρ : Nat → Nat} {i j r k l a b x y : Nat} {v : Nat → Ty} {P : List (Nat × Nat)}
theorem itn_stop (h : o i = i) : ∀ f, itn o f i = i := by
  intro f
  induction f with
  | zero => rfl
  | succ f ih => simp only [itn, h]; exact ih
theorem Ru_un (h : Ru o i r) (h' : Ru o i j) : r = j := by
  obtain ⟨f, h1, h2⟩ := h
  obtain ⟨g, h3, h4⟩ := h'
  induction f generalizing i g with
  | zero =>
    have : i = r := h1
    subst this
    rw [itn_stop h2] at h3
    exact h3
  | succ f ih =>
    cases g with
    | zero =>
      have : i = j := h3
      subst this
      rw [itn_stop h4] at h1
      exact h1.symm
    | succ g => exact ih h1 g h3
theorem Ru_self (h : o i = i) : Ru o i i := ⟨0, rfl, h⟩
theorem Ru_up (h : Ru o (o i) r) : Ru o i r := by
  obtain ⟨f, h1, h2⟩ := h
  exact ⟨f + 1, h1, h2⟩
theorem Ru_dn (h : Ru o i r) : Ru o (o i) r := by
  obtain ⟨f, h1, h2⟩ := h
  cases f with
  | zero => have : i = r := h1; subst this; exact ⟨0, h2, h2⟩
  | succ f => exact ⟨f, h1, h2⟩
theorem Ru_ex (hU : UFr n o ρ) : ∀ (m i : Nat), ρ i ≤ m → i < n → ∃ r, Ru o i r ∧ r < n ∧ ρ r ≤ ρ i := by
  intro m
  induction m with
  | zero =>
    intro i h1 h2
    by_cases e : o i = i
    · exact ⟨i, Ru_self e, h2, by omega⟩
    · have := (hU i h2).2 e; omega
  | succ m ih =>
    intro i h1 h2
    by_cases e : o i = i
    · exact ⟨i, Ru_self e, h2, by omega⟩
    · have h3 := (hU i h2).2 e
      obtain ⟨r, q1, q2, q3⟩ := ih (o i) (by omega) (hU i h2).1
      exact ⟨r, Ru_up q1, q2, by omega⟩
theorem Ru_in (hU : UFr n o ρ) (hi : i < n) (h : Ru o i r) : r < n ∧ ρ r ≤ ρ i ∧ o r = r := by
  obtain ⟨r', q1, q2, q3⟩ := Ru_ex hU (ρ i) i (Nat.le_refl _) hi
  have := Ru_un h q1
  subst this
  obtain ⟨f, -, e⟩ := h
  exact ⟨q2, q3, e⟩
theorem Ru_v (hU : UFr n o ρ) (hv : onV n o v) (hi : i < n) (h : Ru o i r) : v i = v r := by
  obtain ⟨f, h1, h2⟩ := h
  induction f generalizing i with
  | zero => have : i = r := h1; subst this; rfl
  | succ f ih => exact (hv i hi).trans (ih (hU i hi).1 h1)
/-- half a way -/
theorem half_ok (hU : UFr n o ρ) (hi : i < n) : UFr n (uPd o i (o (o i))) ρ ∧ (∀ v, onV n o v ↔ onV n (uPd o i (o (o i))) v) ∧ (∀ j, o j = j ↔ uPd o i (o (o i)) j = j) ∧ (∀ j r, Ru o j r ↔ Ru (uPd o i (o (o i))) j r) := by
  have hn : ∀ j, j < n → ρ (o j) ≤ ρ j := fun j hj => by
    by_cases e : o j = j
    · rw [e]; exact Nat.le_refl _
    · have := (hU j hj).2 e; omega
  have root : ∀ j, o j = j ↔ uPd o i (o (o i)) j = j := by
    intro j
    unfold uPd
    by_cases e : j = i
    · subst e
      rw [if_pos rfl]
      constructor
      · intro h; rw [h, h]
      · intro h
        apply Classical.byContradiction
        intro q
        have h1 := (hU j hi).2 q
        have h2 := hn (o j) (hU j hi).1
        rw [h] at h2
        omega
    · rw [if_neg e]
  have fw : ∀ f j r, itn o f j = r → o r = r → Ru (uPd o i (o (o i))) j r := by
    intro f
    induction f using Nat.strongRecOn with
    | ind f ih =>
      intro j r h1 h2
      cases f with
      | zero => have : j = r := h1; subst this; exact Ru_self ((root j).mp h2)
      | succ f =>
        by_cases e : j = i
        · subst e
          apply Ru_up
          have e3 : uPd o j (o (o j)) j = o (o j) := by unfold uPd; rw [if_pos rfl]
          rw [e3]
          cases f with
          | zero =>
            have e4 : o j = r := h1
            exact ⟨0, by show o (o j) = r; rw [e4, h2], (root r).mp h2⟩
          | succ f => exact ih f (by omega) _ r h1 h2
        · apply Ru_up
          have : uPd o i (o (o i)) j = o j := by unfold uPd; rw [if_neg e]
          rw [this]
          exact ih f (by omega) _ r h1 h2
  have bw : ∀ f j r, itn (uPd o i (o (o i))) f j = r → uPd o i (o (o i)) r = r → Ru o j r := by
    intro f
    induction f with
    | zero => intro j r h1 h2; have : j = r := h1; subst this; exact Ru_self ((root j).mpr h2)
    | succ f ih =>
      intro j r h1 h2
      have := ih _ r h1 h2
      by_cases e : j = i
      · subst e
        have e2 : uPd o j (o (o j)) j = o (o j) := by unfold uPd; rw [if_pos rfl]
        rw [e2] at this
        exact Ru_up (Ru_up this)
      · have e2 : uPd o i (o (o i)) j = o j := by unfold uPd; rw [if_neg e]
        rw [e2] at this
        exact Ru_up this
  refine ⟨fun j hj => ?_, fun v => ⟨fun h j hj => ?_, fun h j hj => ?_⟩, root, fun j r => ⟨fun ⟨f, h1, h2⟩ => fw f j r h1 h2, fun ⟨f, h1, h2⟩ => bw f j r h1 h2⟩⟩
  · unfold uPd
    by_cases e : j = i
    · subst e
      rw [if_pos rfl]
      refine ⟨(hU _ (hU j hi).1).1, fun q => ?_⟩
      by_cases e2 : o j = j
      · exact absurd (by rw [e2, e2]) q
      · have h1 := (hU j hi).2 e2
        have h2 := hn (o j) (hU j hi).1
        omega
    · rw [if_neg e]; exact hU j hj
  · unfold uPd
    by_cases e : j = i
    · subst e; rw [if_pos rfl, h j hj, h (o j) (hU j hj).1]
    · rw [if_neg e]; exact h j hj
  · by_cases e : j = i
    · subst e
      by_cases e2 : o j = j
      · rw [e2]
      · have h1 := h j hj
        have h2 := h (o j) (hU j hj).1
        unfold uPd at h1 h2
        rw [if_pos rfl] at h1
        rw [if_neg e2] at h2
        rw [h1, h2]
    · have := h j hj
      unfold uPd at this
      rw [if_neg e] at this
      exact this
/-- one under the other -/
theorem link_ok (hU : UFr n o ρ) (ha : a < n) (hb : b < n) (oa : o a = a) (ob : o b = b) (hab : a ≠ b) : (∃ ρ', UFr n (uPd o a b) ρ') ∧ (∀ v, onV n (uPd o a b) v ↔ onV n o v ∧ v a = v b) ∧ (∀ j r, j < n → Ru o j r → Ru (uPd o a b) j (if r = a then b else r)) ∧ rtN (uPd o a b) n + 1 = rtN o n := by
  have st : ∀ j r, Ru o j r → Ru (uPd o a b) j (if r = a then b else r) := by
    intro j r h
    obtain ⟨f, h1, h2⟩ := h
    have rb : Ru (uPd o a b) b b := Ru_self (by unfold uPd; rw [if_neg (fun e => hab e.symm)]; exact ob)
    induction f generalizing j with
    | zero =>
      have : j = r := h1
      subst this
      by_cases e : j = a
      · rw [if_pos e]
        apply Ru_up
        unfold uPd
        rw [if_pos e]
        exact rb
      · rw [if_neg e]
        exact Ru_self (by unfold uPd; rw [if_neg e]; exact h2)
    | succ f ih =>
      by_cases e : j = a
      · subst e
        have h1' : itn o f (o j) = r := h1
        rw [oa, itn_stop oa] at h1'
        subst h1'
        rw [if_pos rfl]
        apply Ru_up
        unfold uPd
        rw [if_pos rfl]
        exact rb
      · apply Ru_up
        have : uPd o a b j = o j := by unfold uPd; rw [if_neg e]
        rw [this]
        exact ih _ h1
  refine ⟨?_, fun v => ⟨fun h => ⟨fun j hj => ?_, ?_⟩, fun h j hj => ?_⟩, fun j r _ => st j r, ?_⟩
  · have hc : ∃ q : Nat → Nat, ∀ j, j < n → (Ru o j a → q j = ρ j + ρ b + 1) ∧ (¬ Ru o j a → q j = ρ j) := by
      have : ∀ j, ∃ m, (Ru o j a → m = ρ j + ρ b + 1) ∧ (¬ Ru o j a → m = ρ j) := by
        intro j
        by_cases e : Ru o j a
        · exact ⟨_, fun _ => rfl, fun q => absurd e q⟩
        · exact ⟨_, fun q => absurd q e, fun _ => rfl⟩
      exact ⟨fun j => Classical.choose (this j), fun j _ => Classical.choose_spec (this j)⟩
    obtain ⟨q, hq⟩ := hc
    refine ⟨q, fun j hj => ?_⟩
    unfold uPd
    by_cases e : j = a
    · subst e
      rw [if_pos rfl]
      refine ⟨hb, fun _ => ?_⟩
      have h1 := (hq j ha).1 (Ru_self oa)
      have h2 := (hq b hb).2 (fun z => hab (Ru_un z (Ru_self ob)))
      omega
    · rw [if_neg e]
      refine ⟨(hU j hj).1, fun z => ?_⟩
      have h1 := (hU j hj).2 z
      by_cases g : Ru o j a
      · have a1 := (hq j hj).1 g
        have a2 := (hq (o j) (hU j hj).1).1 (Ru_dn g)
        omega
      · have a1 := (hq j hj).2 g
        have a2 := (hq (o j) (hU j hj).1).2 (fun z => g (Ru_up z))
        omega
  · by_cases e : j = a
    · subst e; rw [oa]
    · have := h j hj
      unfold uPd at this
      rw [if_neg e] at this
      exact this
  · have := h a ha
    unfold uPd at this
    rw [if_pos rfl] at this
    exact this
  · unfold uPd
    by_cases e : j = a
    · rw [if_pos e, e]; exact h.2
    · rw [if_neg e]; exact h.1 j hj
  · have : ∀ m, rtN (uPd o a b) m + (if a < m then 1 else 0) = rtN o m := by
      intro m
      induction m with
      | zero => simp [rtN]
      | succ m ih =>
        have h1 : rtN (uPd o a b) (m + 1) = (if uPd o a b m = m then 1 else 0) + rtN (uPd o a b) m := rfl
        have h2 : rtN o (m + 1) = (if o m = m then 1 else 0) + rtN o m := rfl
        rw [h1, h2]
        by_cases e : m = a
        · have e1 : ¬ uPd o a b m = m := by
            unfold uPd
            rw [if_pos e]
            intro z
            exact hab (by rw [← e, z])
          have e2 : o m = m := by rw [e]; exact oa
          have e3 : ¬ a < m := by omega
          have e4 : a < m + 1 := by omega
          simp only [if_neg e1, if_pos e2, if_pos e4]
          simp only [if_neg e3] at ih
          omega
        · have e1 : uPd o a b m = o m := by unfold uPd; rw [if_neg e]
          rw [e1]
          by_cases g : a < m
          · have g2 : a < m + 1 := by omega
            simp only [if_pos g2]
            simp only [if_pos g] at ih
            omega
          · have g2 : ¬ a < m + 1 := by omega
            simp only [if_neg g2]
            simp only [if_neg g] at ih
            omega
    have := this n
    rw [if_pos ha] at this
    exact this
/-- what is still to be made one keeps the solutions -/
def UIv (n : Nat) (fr to : Nat → Int) (o0 : Nat → Nat) (k l : Nat) (o : Nat → Nat) (P : List (Nat × Nat)) : Prop := ∀ v, apV n fr to v → ((onV n o0 v ∧ v k = v l) ↔ (onV n o v ∧ prV P v))
/-- arrows that are one have the same parts, but for what is still to be made one -/
def CCm (n : Nat) (fr to : Nat → Int) (o : Nat → Nat) (P : List (Nat × Nat)) : Prop := ∀ i r, i < n → fr i ≠ -1 → Ru o i r → fr r ≠ -1 ∧ ∀ v : Nat → Ty, onV n o v → prV P v → v (fr i).toNat = v (fr r).toNat ∧ v (to i).toNat = v (to r).toNat
theorem prV_cons : prV ((k, l) :: P) v ↔ v k = v l ∧ prV P v := by
  unfold prV
  constructor
  · intro h; exact ⟨h (k, l) (List.mem_cons_self ..), fun q hq => h q (List.mem_cons_of_mem _ hq)⟩
  · intro h q hq
    rcases List.mem_cons.mp hq with rfl | hq
    · exact h.1
    · exact h.2 q hq
theorem un_same {o0 : Nat → Nat} {k0 l0 : Nat} (hU : UFr n o ρ) (hk : k < n) (hl : l < n) (rk : Ru o k a) (rl : Ru o l a) (hI : UIv n fr to o0 k0 l0 o ((k, l) :: P)) (hC : CCm n fr to o ((k, l) :: P)) : UIv n fr to o0 k0 l0 o P ∧ CCm n fr to o P := by
  have eqv : ∀ v, onV n o v → v k = v l := fun v hv => by rw [Ru_v hU hv hk rk, Ru_v hU hv hl rl]
  refine ⟨fun v hv => ?_, fun i r hi hf hr => ?_⟩
  · rw [hI v hv, prV_cons]
    exact ⟨fun h => ⟨h.1, h.2.2⟩, fun h => ⟨h.1, eqv v h.1, h.2⟩⟩
  · obtain ⟨c1, c2⟩ := hC i r hi hf hr
    exact ⟨c1, fun v h1 h2 => c2 v h1 (prV_cons.mpr ⟨eqv v h1, h2⟩)⟩
/-- x, of which nothing is known, becomes y -/
theorem un_open {o0 : Nat → Nat} {k0 l0 : Nat} (hU : UFr n o ρ) (hk : k < n) (hl : l < n) (rk : Ru o k a) (rl : Ru o l b) (hxy : (x = a ∧ y = b) ∨ (x = b ∧ y = a)) (hab : a ≠ b) (hx : fr x = -1) (hI : UIv n fr to o0 k0 l0 o ((k, l) :: P)) (hC : CCm n fr to o ((k, l) :: P)) : UIv n fr to o0 k0 l0 (uPd o x y) P ∧ CCm n fr to (uPd o x y) P := by
  obtain ⟨a1, -, a3⟩ := Ru_in hU hk rk
  obtain ⟨b1, -, b3⟩ := Ru_in hU hl rl
  have hx1 : x < n ∧ o x = x := by rcases hxy with q | q <;> rw [q.1] <;> exact ⟨by assumption, by assumption⟩
  have hy1 : y < n ∧ o y = y := by rcases hxy with q | q <;> rw [q.2] <;> exact ⟨by assumption, by assumption⟩
  have hne : x ≠ y := by rcases hxy with q | q <;> rw [q.1, q.2]; exact hab; exact fun e => hab e.symm
  obtain ⟨L1, L2, L3, L4⟩ := link_ok hU hx1.1 hy1.1 hx1.2 hy1.2 hne
  have eqv : ∀ v, onV n o v → (v k = v l ↔ v x = v y) := fun v hv => by
    rw [Ru_v hU hv hk rk, Ru_v hU hv hl rl]
    rcases hxy with q | q
    · rw [q.1, q.2]
    · rw [q.1, q.2]; exact ⟨fun h => h.symm, fun h => h.symm⟩
  refine ⟨fun v hv => ?_, fun i r hi hf hr => ?_⟩
  · rw [hI v hv, prV_cons, L2]
    exact ⟨fun h => ⟨⟨h.1, (eqv v h.1).mp h.2.1⟩, h.2.2⟩, fun h => ⟨h.1.1, (eqv v h.1.1).mpr h.1.2, h.2⟩⟩
  · obtain ⟨r0, q1, q2, q3⟩ := Ru_ex hU (ρ i) i (Nat.le_refl _) hi
    obtain ⟨c1, c2⟩ := hC i r0 hi hf q1
    have hr0 : r0 ≠ x := fun e => c1 (by rw [e]; exact hx)
    have e1 := Ru_un hr (L3 i r0 hi q1)
    rw [if_neg hr0] at e1
    subst e1
    refine ⟨c1, fun v h1 h2 => c2 v ((L2 v).mp h1).1 (prV_cons.mpr ⟨?_, h2⟩)⟩
    exact (eqv v ((L2 v).mp h1).1).mpr ((L2 v).mp h1).2
/-- both are arrows: their parts are to be made one, too -/
theorem un_both {o0 : Nat → Nat} {k0 l0 : Nat} {fa fb ta tb : Nat} {P2 : List (Nat × Nat)} (hU : UFr n o ρ) (hk : k < n) (hl : l < n) (rk : Ru o k a) (rl : Ru o l b) (hxy : (x = a ∧ y = b) ∨ (x = b ∧ y = a)) (hab : a ≠ b) (e1 : fr a = (fa : Int)) (e2 : to a = (ta : Int)) (e3 : fr b = (fb : Int)) (e4 : to b = (tb : Int)) (hP : ∀ v : Nat → Ty, prV P2 v ↔ (v fa = v fb ∧ v ta = v tb) ∧ prV P v) (hI : UIv n fr to o0 k0 l0 o ((k, l) :: P)) (hC : CCm n fr to o ((k, l) :: P)) : UIv n fr to o0 k0 l0 (uPd o x y) P2 ∧ CCm n fr to (uPd o x y) P2 := by
  obtain ⟨a1, -, a3⟩ := Ru_in hU hk rk
  obtain ⟨b1, -, b3⟩ := Ru_in hU hl rl
  have hx1 : x < n ∧ o x = x := by rcases hxy with q | q <;> rw [q.1] <;> exact ⟨by assumption, by assumption⟩
  have hy1 : y < n ∧ o y = y := by rcases hxy with q | q <;> rw [q.2] <;> exact ⟨by assumption, by assumption⟩
  have hne : x ≠ y := by rcases hxy with q | q <;> rw [q.1, q.2]; exact hab; exact fun e => hab e.symm
  obtain ⟨L1, L2, L3, L4⟩ := link_ok hU hx1.1 hy1.1 hx1.2 hy1.2 hne
  have eqv : ∀ v, onV n o v → (v k = v l ↔ v x = v y) := fun v hv => by
    rw [Ru_v hU hv hk rk, Ru_v hU hv hl rl]
    rcases hxy with q | q
    · rw [q.1, q.2]
    · rw [q.1, q.2]; exact ⟨fun h => h.symm, fun h => h.symm⟩
  have ab : ∀ v : Nat → Ty, v x = v y ↔ v a = v b := fun v => by
    rcases hxy with q | q
    · rw [q.1, q.2]
    · rw [q.1, q.2]; exact ⟨fun h => h.symm, fun h => h.symm⟩
  have na : fr a ≠ -1 := by rw [e1]; omega
  have nb : fr b ≠ -1 := by rw [e3]; omega
  refine ⟨fun v hv => ?_, fun i r hi hf hr => ?_⟩
  · have va := hv a a1 na
    have vb := hv b b1 nb
    rw [e1, e2] at va
    rw [e3, e4] at vb
    simp only [Int.toNat_natCast] at va vb
    have parts : v a = v b ↔ v fa = v fb ∧ v ta = v tb := by
      rw [va, vb, Lean.Data.AC.Expr.op.injEq]
    rw [hI v hv, prV_cons, L2, hP]
    constructor
    · intro h
      have h1 := (eqv v h.1).mp h.2.1
      exact ⟨⟨h.1, h1⟩, parts.mp ((ab v).mp h1), h.2.2⟩
    · intro h
      exact ⟨h.1.1, (eqv v h.1.1).mpr h.1.2, h.2.2⟩
  · obtain ⟨r0, q1, q2, q3⟩ := Ru_ex hU (ρ i) i (Nat.le_refl _) hi
    obtain ⟨c1, c2⟩ := hC i r0 hi hf q1
    have e5 := Ru_un hr (L3 i r0 hi q1)
    have base : ∀ v, onV n (uPd o x y) v → prV P2 v → v (fr i).toNat = v (fr r0).toNat ∧ v (to i).toNat = v (to r0).toNat := fun v h1 h2 => c2 v ((L2 v).mp h1).1 (prV_cons.mpr ⟨(eqv v ((L2 v).mp h1).1).mpr ((L2 v).mp h1).2, ((hP v).mp h2).2⟩)
    by_cases g : r0 = x
    · rw [if_pos g] at e5
      subst e5
      refine ⟨by rcases hxy with q | q <;> rw [q.2] <;> assumption, fun v h1 h2 => ?_⟩
      obtain ⟨z1, z2⟩ := base v h1 h2
      obtain ⟨⟨p1, p2⟩, -⟩ := (hP v).mp h2
      rw [z1, z2, g]
      rcases hxy with q | q
      · rw [q.1, q.2, e1, e2, e3, e4]
        simp only [Int.toNat_natCast]
        exact ⟨p1, p2⟩
      · rw [q.1, q.2, e1, e2, e3, e4]
        simp only [Int.toNat_natCast]
        exact ⟨p1.symm, p2.symm⟩
    · rw [if_neg g] at e5
      subst e5
      exact ⟨c1, base⟩
end UNI
