/-! things: the mathematics -/
abbrev Gr : Type := List (Int × Nat × Nat)
abbrev Lt : Type := Lean.RArray Nat
def cl (G : Gr) (i : Nat) : Int := (G.getD i (0, 0, 0)).1
def lf (G : Gr) (i : Nat) : Nat := (G.getD i (0, 0, 0)).2.1
def rt (G : Gr) (i : Nat) : Nat := (G.getD i (0, 0, 0)).2.2
def rl (G : Gr) : Nat → Nat → Nat
  | 0, i => i
  | f + 1, i => if cl G i = 2 then rl G f (lf G i) else i
def Rl (G : Gr) (i j : Nat) : Prop := ∃ f, rl G f i = j ∧ cl G j ≠ 2
def Ul (G : Gr) (i : Nat) (T : Lt) : Prop := match T with
  | .leaf j => Rl G i j ∧ cl G j ≠ 1
  | .branch j a b => Rl G i j ∧ cl G j = 1 ∧ Ul G (lf G j) a ∧ Ul G (rt G j) b
def fi : Lt → List Nat
  | .leaf j => [j]
  | .branch j a b => j :: (fi a ++ fi b)
def WG (G : Gr) (ρ : Nat → Nat) : Prop := ∀ i, i < G.length → (cl G i = 1 ∧ lf G i < G.length ∧ rt G i < G.length ∧ ρ (lf G i) < ρ i ∧ ρ (rt G i) < ρ i) ∨ (cl G i = 2 ∧ lf G i < G.length ∧ ρ (lf G i) < ρ i) ∨ (tok (cl G i) ∧ arT (cl G i) = 0)
def tmL (G : Gr) : Lt → Tm
  | .leaf j => .num (cl G j)
  | .branch _ a b => .add (tmL G a) (tmL G b)
section GRP
variable {G : Gr} {ρ : Nat → Nat} {i j k f g : Nat} {T U : Lt}
theorem rl_stop (h : cl G i ≠ 2) : ∀ f, rl G f i = i := by
  intro f
  cases f with
  | zero => rfl
  | succ f => simp only [rl]; rw [if_neg h]
theorem Rl_un (h : Rl G i j) (h' : Rl G i k) : j = k := by
  obtain ⟨f, h1, h2⟩ := h
  obtain ⟨g, h3, h4⟩ := h'
  induction f generalizing i g with
  | zero =>
    have : i = j := h1
    subst this
    rw [rl_stop h2 g] at h3
    exact h3
  | succ f ih =>
    by_cases c : cl G i = 2
    · cases g with
      | zero =>
        have : i = k := h3
        subst this
        exact absurd c h4
      | succ g =>
        simp only [rl, if_pos c] at h1 h3
        exact ih h1 g h3
    · rw [rl_stop c] at h1 h3
      rw [← h1, ← h3]
theorem Rl_ex (hW : WG G ρ) : ∀ (n i : Nat), ρ i ≤ n → i < G.length → ∃ j, Rl G i j ∧ j < G.length ∧ ρ j ≤ ρ i := by
  intro n
  induction n with
  | zero =>
    intro i h1 h2
    rcases hW i h2 with q | q | q
    · omega
    · omega
    · exact ⟨i, ⟨0, rfl, by intro e; have := q.1; rw [e] at this; unfold tok at this; omega⟩, h2, by omega⟩
  | succ n ih =>
    intro i h1 h2
    rcases hW i h2 with q | q | q
    · exact ⟨i, ⟨0, rfl, by rw [q.1]; omega⟩, h2, by omega⟩
    · obtain ⟨j, ⟨f, e1, e2⟩, e3, e4⟩ := ih (lf G i) (by omega) q.2.1
      exact ⟨j, ⟨f + 1, by simp only [rl]; rw [if_pos q.1]; exact e1, e2⟩, e3, by omega⟩
    · exact ⟨i, ⟨0, rfl, by intro e; have := q.1; rw [e] at this; unfold tok at this; omega⟩, h2, by omega⟩
theorem Rl_in (hW : WG G ρ) (hi : i < G.length) (h : Rl G i j) : j < G.length ∧ ρ j ≤ ρ i ∧ cl G j ≠ 2 := by
  obtain ⟨k, h1, h2, h3⟩ := Rl_ex hW (ρ i) i (Nat.le_refl _) hi
  have := Rl_un h h1
  subst this
  obtain ⟨f, -, e⟩ := h
  exact ⟨h2, h3, e⟩
theorem Rl_lk (h : cl G i = 2) (hj : Rl G (lf G i) j) : Rl G i j := by
  obtain ⟨f, e1, e2⟩ := hj
  exact ⟨f + 1, by simp only [rl]; rw [if_pos h]; exact e1, e2⟩
theorem Rl_lk' (h : cl G i = 2) (hj : Rl G i j) : Rl G (lf G i) j := by
  obtain ⟨f, e1, e2⟩ := hj
  cases f with
  | zero => have : i = j := e1; subst this; exact absurd h e2
  | succ f => simp only [rl, if_pos h] at e1; exact ⟨f, e1, e2⟩
theorem Rl_self (h : cl G i ≠ 2) : Rl G i i := ⟨0, rfl, h⟩
theorem Ul_ex (hW : WG G ρ) : ∀ (n i : Nat), ρ i ≤ n → i < G.length → ∃ T, Ul G i T := by
  intro n
  induction n using Nat.strongRecOn with
  | ind n ih =>
    intro i h1 h2
    obtain ⟨j, r1, r2, r3⟩ := Rl_ex hW (ρ i) i (Nat.le_refl _) h2
    rcases hW j r2 with q | q | q
    · obtain ⟨a, ha⟩ := ih (ρ (lf G j)) (by omega) (lf G j) (Nat.le_refl _) q.2.1
      obtain ⟨b, hb⟩ := ih (ρ (rt G j)) (by omega) (rt G j) (Nat.le_refl _) q.2.2.1
      exact ⟨.branch j a b, r1, q.1, ha, hb⟩
    · exact absurd q.1 (Rl_in hW h2 r1).2.2
    · exact ⟨.leaf j, r1, by intro e; rw [e] at q; exact absurd q.2 (by decide)⟩
theorem Ul_un : ∀ (T U : Lt) (i : Nat), Ul G i T → Ul G i U → T = U := by
  intro T
  induction T with
  | leaf j =>
    intro U i h1 h2
    cases U with
    | leaf k => exact congrArg _ (Rl_un h1.1 h2.1)
    | branch k a b => have := Rl_un h1.1 h2.1; subst this; exact absurd h2.2.1 h1.2
  | branch j a b iha ihb =>
    intro U i h1 h2
    cases U with
    | leaf k => have := Rl_un h1.1 h2.1; subst this; exact absurd h1.2.1 h2.2
    | branch k c d =>
      have := Rl_un h1.1 h2.1
      subst this
      rw [iha c _ h1.2.2.1 h2.2.2.1, ihb d _ h1.2.2.2 h2.2.2.2]
/-- all that is written out is real; behind a put stands what it begins with -/
theorem Ul_P : ∀ (T : Lt) (i : Nat), WG G ρ → i < G.length → Ul G i T → (∃ j r, fi T = j :: r ∧ Rl G i j) ∧ (∀ j ∈ fi T, j < G.length ∧ cl G j ≠ 2) ∧ (∀ (m j : Nat), (fi T)[m]? = some j → cl G j = 1 → ∃ k, (fi T)[m + 1]? = some k ∧ Rl G (lf G j) k) := by
  intro T
  induction T with
  | leaf j =>
    intro i hW hi h
    obtain ⟨b1, b2, b3⟩ := Rl_in hW hi h.1
    refine ⟨⟨j, [], rfl, h.1⟩, fun k hk => ?_, fun m k hm hk => ?_⟩
    · rcases List.mem_singleton.mp hk with rfl
      exact ⟨b1, b3⟩
    · have := List.mem_of_getElem? hm
      rcases List.mem_singleton.mp this with rfl
      exact absurd hk h.2
  | branch j a b iha ihb =>
    intro i hW hi h
    obtain ⟨b1, b2, b3⟩ := Rl_in hW hi h.1
    have hc := h.2.1
    have hj : lf G j < G.length ∧ rt G j < G.length := by
      rcases hW j b1 with q | q | q
      · exact ⟨q.2.1, q.2.2.1⟩
      · rw [q.1] at hc; omega
      · rw [hc] at q; exact absurd q.2 (by decide)
    obtain ⟨⟨ja, ra, ea, eb⟩, p2, p3⟩ := iha _ hW hj.1 h.2.2.1
    obtain ⟨-, q2, q3⟩ := ihb _ hW hj.2 h.2.2.2
    refine ⟨⟨j, fi a ++ fi b, rfl, h.1⟩, fun k hk => ?_, fun m k hm hk => ?_⟩
    · simp only [fi, List.mem_cons, List.mem_append] at hk
      rcases hk with rfl | hk | hk
      · exact ⟨b1, b3⟩
      · exact p2 k hk
      · exact q2 k hk
    · simp only [fi] at hm ⊢
      cases m with
      | zero =>
        simp at hm
        subst hm
        exact ⟨ja, by rw [ea]; rfl, eb⟩
      | succ m =>
        rw [List.getElem?_cons_succ] at hm ⊢
        by_cases g : m < (fi a).length
        · rw [List.getElem?_append_left g] at hm
          obtain ⟨k2, e1, e2⟩ := p3 m k hm hk
          exact ⟨k2, by rw [List.getElem?_append_left (List.getElem?_eq_some_iff.mp e1).1]; exact e1, e2⟩
        · rw [List.getElem?_append_right (by omega)] at hm
          obtain ⟨k2, e1, e2⟩ := q3 _ k hm hk
          refine ⟨k2, ?_, e2⟩
          rw [List.getElem?_append_right (by omega), show m + 1 - (fi a).length = m - (fi a).length + 1 by omega]
          exact e1
theorem tmL_fl : ∀ (T : Lt) (i : Nat), WG G ρ → i < G.length → Ul G i T → fl (tmL G T) = (fi T).map (cl G) ∧ wt (tmL G T) ∧ tks (fl (tmL G T)) := by
  intro T
  induction T with
  | leaf j =>
    intro i hW hi h
    obtain ⟨b1, b2, b3⟩ := Rl_in hW hi h.1
    have q : tok (cl G j) ∧ arT (cl G j) = 0 := by
      rcases hW j b1 with q | q | q
      · exact absurd q.1 h.2
      · exact absurd q.1 b3
      · exact q
    exact ⟨rfl, q.2, fun c hc => by simp [tmL, fl] at hc; rw [hc]; exact q.1⟩
  | branch j a b iha ihb =>
    intro i hW hi h
    obtain ⟨b1, b2, b3⟩ := Rl_in hW hi h.1
    have hc := h.2.1
    have hj : lf G j < G.length ∧ rt G j < G.length := by
      rcases hW j b1 with q | q | q
      · exact ⟨q.2.1, q.2.2.1⟩
      · rw [q.1] at hc; omega
      · rw [hc] at q; exact absurd q.2 (by decide)
    obtain ⟨p1, p2, p3⟩ := iha _ hW hj.1 h.2.2.1
    obtain ⟨q1, q2, q3⟩ := ihb _ hW hj.2 h.2.2.2
    refine ⟨by simp [tmL, fl, fi, p1, q1, hc], ⟨p2, q2⟩, fl_add_all (Or.inl rfl) p3 q3⟩
noncomputable def ufd (G : Gr) : Lt := @Classical.epsilon Lt ⟨.leaf 0⟩ (fun T => Ul G 0 T)
noncomputable def idG (G : Gr) : List Nat := fi (ufd G)
noncomputable def fG (G : Gr) : List Int := (idG G).map (cl G)
theorem ufd_ok (hW : WG G ρ) (h0 : 0 < G.length) : Ul G 0 (ufd G) := by
  obtain ⟨T, hT⟩ := Ul_ex hW (ρ 0) 0 (Nat.le_refl _) h0
  exact Classical.epsilon_spec (p := fun T => Ul G 0 T) ⟨T, hT⟩
theorem fG_T (hW : WG G ρ) (h0 : 0 < G.length) : isT (fG G) ∧ tks (fG G) := by
  obtain ⟨p1, p2, p3⟩ := tmL_fl (ufd G) 0 hW h0 (ufd_ok hW h0)
  unfold fG idG
  rw [← p1]
  exact ⟨fl_T _ p2, p3⟩
/-- the thing of a sign's step -/
def idN (I : List Nat) (m : Nat) : Nat := I.getD m 0
def stG (G : Gr) (I : List Nat) (h : Nat) : Gr :=
  if cl G (idN I h) = 83 then (G.set (idN I (h - 3)) (1, G.length, G.length + 1)) ++ [(1, rt G (idN I (h - 1)), rt G (idN I (h - 3))), (1, rt G (idN I (h - 2)), rt G (idN I (h - 3)))]
  else if cl G (idN I h) = 66 then (G.set (idN I (h - 3)) (1, rt G (idN I (h - 1)), G.length)) ++ [(1, rt G (idN I (h - 2)), rt G (idN I (h - 3)))]
  else if cl G (idN I h) = 67 then (G.set (idN I (h - 3)) (1, G.length, rt G (idN I (h - 2)))) ++ [(1, rt G (idN I (h - 1)), rt G (idN I (h - 3)))]
  else if cl G (idN I h) = 75 then G.set (idN I (h - 2)) (2, rt G (idN I (h - 1)), rt G (idN I (h - 2)))
  else G.set (idN I (h - 1)) (2, rt G (idN I (h - 1)), rt G (idN I (h - 1)))
def nlk (G : Gr) : Nat → Nat
  | 0 => 0
  | n + 1 => (if cl G n = 2 then 1 else 0) + nlk G n
def cnk (G : Gr) (ρ : Nat → Nat) (b : Nat) : Nat → Nat
  | 0 => 0
  | n + 1 => (if cl G n = 2 ∧ ρ n < b then 1 else 0) + cnk G ρ b n
theorem cnk_le (b : Nat) : ∀ n, cnk G ρ b n ≤ nlk G n := by
  intro n
  induction n with
  | zero => simp [cnk]
  | succ n ih =>
    simp only [cnk, nlk]
    by_cases g : cl G n = 2
    · rw [if_pos g]; split <;> omega
    · rw [if_neg (fun z => g z.1), if_neg g]; omega
theorem cnk_lt {b d i : Nat} (hbd : b ≤ d) (h1 : cl G i = 2) (h2 : ρ i < d) (h3 : ¬ ρ i < b) : ∀ n, i < n → cnk G ρ b n + 1 ≤ cnk G ρ d n := by
  have mono : ∀ n, cnk G ρ b n ≤ cnk G ρ d n := by
    intro n
    induction n with
    | zero => simp [cnk]
    | succ n ih =>
      simp only [cnk]
      by_cases g : cl G n = 2 ∧ ρ n < b
      · rw [if_pos g, if_pos ⟨g.1, by omega⟩]; omega
      · rw [if_neg g]; omega
  intro n
  induction n with
  | zero => intro h; omega
  | succ n ih =>
    intro hi
    simp only [cnk]
    by_cases e : i = n
    · subst e
      have := mono i
      rw [if_neg (fun z => h3 z.2), if_pos ⟨h1, h2⟩]
      omega
    · have := ih (by omega)
      by_cases g : cl G n = 2 ∧ ρ n < b
      · rw [if_pos g, if_pos ⟨g.1, by omega⟩]; omega
      · rw [if_neg g]; omega
end GRP
