/-! terms as trees -/
abbrev Tm : Type := Int.Internal.Linear.Expr
def fl : Tm → List Int
  | .num c => [c]
  | .add a b => 1 :: (fl a ++ fl b)
  | .mulL c a => c :: fl a
  | _ => []
def wt : Tm → Prop
  | .num c => arT c = 0
  | .add a b => wt a ∧ wt b
  | .mulL c a => arT c = 1 ∧ wt a
  | _ => False
theorem wt_ind {P : Tm → Prop} (h0 : ∀ c, arT c = 0 → P (.num c)) (h2 : ∀ a b, wt a → wt b → P a → P b → P (.add a b)) (h1 : ∀ c a, arT c = 1 → wt a → P a → P (.mulL c a)) : ∀ t, wt t → P t := by
  intro t
  induction t with
  | num c => intro h; exact h0 c h
  | var i => intro h; exact absurd h (by simp [wt])
  | add a b iha ihb => intro h; exact h2 a b h.1 h.2 (iha h.1) (ihb h.2)
  | sub a b _ _ => intro h; exact absurd h (by simp [wt])
  | neg a _ => intro h; exact absurd h (by simp [wt])
  | mulL c a ih => intro h; exact h1 c a h.1 h.2 (ih h.2)
  | mulR a c _ => intro h; exact absurd h (by simp [wt])
theorem fl_T : ∀ t, wt t → isT (fl t) := wt_ind (fun c h => isT_0 h) (fun a b _ _ ha hb => isT_2 rfl ha hb) (fun c a h _ ha => isT_1 h ha)
theorem arT_2 {c : Int} (h : arT c = 2) : c = 1 := by unfold arT at h; split at h; assumption; split at h <;> omega
theorem arT_1' {c : Int} (h : arT c = 1) : 1000 < c := by unfold arT at h; split at h; omega; split at h; assumption; omega
theorem arT_0' {c : Int} (h : arT c = 0) : c ≠ 1 ∧ ¬ 1000 < c := by
  unfold arT at h
  split at h
  · omega
  · split at h
    · omega
    · exact ⟨by assumption, by assumption⟩
theorem ex_fl : ∀ T, isT T → ∃ t, wt t ∧ fl t = T := by
  apply term_ind
  · intro c h; exact ⟨.num c, h, rfl⟩
  · rintro c a h _ ⟨t, h1, h2⟩; exact ⟨.mulL c t, ⟨h, h1⟩, by simp [fl, h2]⟩
  · rintro c a b h _ _ ⟨t, h1, h2⟩ ⟨u, h3, h4⟩
    have := arT_2 h
    subst this
    exact ⟨.add t u, ⟨h1, h3⟩, by simp [fl, h2, h4]⟩
theorem fl_pos {t : Tm} (h : wt t) : 0 < (fl t).length := isT_pos (fl_T t h)
theorem fl_inj : ∀ t, wt t → ∀ (u : Tm) (r s : List Int), wt u → fl t ++ r = fl u ++ s → t = u ∧ r = s := by
  apply wt_ind
  · intro c hc u r s hu e
    cases u with
    | num d => simp only [fl, List.cons_append, List.nil_append, List.cons.injEq] at e; exact ⟨by rw [e.1], e.2⟩
    | add a b => simp only [fl, List.cons_append, List.nil_append, List.cons.injEq] at e; rw [e.1] at hc; exact absurd hc (by decide)
    | mulL d a => simp only [fl, List.cons_append, List.nil_append, List.cons.injEq] at e; have := hu.1; rw [← e.1, hc] at this; omega
    | var i => simp [wt] at hu
    | sub a b => simp [wt] at hu
    | neg a => simp [wt] at hu
    | mulR a d => simp [wt] at hu
  · intro a b ha hb iha ihb u r s hu e
    cases u with
    | num d => simp only [fl, List.cons_append, List.nil_append, List.cons.injEq] at e; rw [show wt (.num d) = (arT d = 0) from rfl, ← e.1] at hu; exact absurd hu (by decide)
    | add a' b' =>
      simp only [fl, List.cons_append, List.append_assoc, List.cons.injEq, true_and] at e
      obtain ⟨e1, e2⟩ := iha a' _ _ hu.1 e
      obtain ⟨e3, e4⟩ := ihb b' _ _ hu.2 e2
      exact ⟨by rw [e1, e3], e4⟩
    | mulL d a' => simp only [fl, List.cons_append, List.cons.injEq] at e; have := hu.1; rw [← e.1] at this; exact absurd this (by decide)
    | var i => simp [wt] at hu
    | sub a b => simp [wt] at hu
    | neg a => simp [wt] at hu
    | mulR a d => simp [wt] at hu
  · intro c a hc ha iha u r s hu e
    cases u with
    | num d => simp only [fl, List.cons_append, List.nil_append, List.cons.injEq] at e; rw [show wt (.num d) = (arT d = 0) from rfl, ← e.1] at hu; omega
    | add a' b' => simp only [fl, List.cons_append, List.cons.injEq] at e; rw [e.1] at hc; exact absurd hc (by decide)
    | mulL d a' =>
      simp only [fl, List.cons_append, List.cons.injEq] at e
      obtain ⟨e1, e2⟩ := iha a' _ _ hu.2 e.2
      exact ⟨by rw [e1, e.1], e2⟩
    | var i => simp [wt] at hu
    | sub a b => simp [wt] at hu
    | neg a => simp [wt] at hu
    | mulR a d => simp [wt] at hu
/-- the tree at a place -/
def AtT (T : List Int) (p : Nat) (t : Tm) : Prop := wt t ∧ ∃ r, T.drop p = fl t ++ r
section ATS
variable {T : List Int} {p : Nat} {t a b : Tm} {c : Int}
theorem At_ex (hT : isT T) (hp : p < T.length) : ∃ t, AtT T p t := by
  obtain ⟨l, r, e, h, -⟩ := at_split hT hp
  obtain ⟨t, h1, h2⟩ := ex_fl l h
  exact ⟨t, h1, r, by rw [h2]; exact e⟩
theorem At_un (h : AtT T p t) (h' : AtT T p a) : t = a := by
  obtain ⟨h1, r, e1⟩ := h
  obtain ⟨h2, s, e2⟩ := h'
  exact (fl_inj t h1 a r s h2 (e1.symm.trans e2)).1
theorem At_te (h : AtT T p t) : te T p = p + (fl t).length := by
  obtain ⟨h1, r, e1⟩ := h
  unfold te
  rw [e1, tlen_app (fl_T t h1)]
theorem At_le (h : AtT T p t) : p + (fl t).length ≤ T.length := by
  obtain ⟨h1, r, e1⟩ := h
  have := congrArg List.length e1
  have := fl_pos h1
  simp only [List.length_drop, List.length_append] at *
  omega
theorem At_lt (h : AtT T p t) : p < T.length := by
  have := At_le h
  have := fl_pos h.1
  omega
theorem At_cons {l r : List Int} (e : T.drop p = c :: l ++ r) : T[p]? = some c ∧ T.drop (p + 1) = l ++ r := by
  constructor
  · have : (T.drop p)[0]? = some c := by rw [e]; rfl
    rwa [List.getElem?_drop, Nat.add_zero] at this
  · have : (T.drop p).drop 1 = l ++ r := by rw [e]; rfl
    rwa [List.drop_drop] at this
theorem At_num (h : AtT T p (.num c)) : T[p]? = some c ∧ arT c = 0 := by
  obtain ⟨h1, r, e1⟩ := h
  exact ⟨(At_cons (l := []) e1).1, h1⟩
theorem At_add (h : AtT T p (.add a b)) : T[p]? = some 1 ∧ AtT T (p + 1) a ∧ AtT T (te T (p + 1)) b ∧ te T (p + 1) = p + 1 + (fl a).length := by
  obtain ⟨h1, r, e1⟩ := h
  obtain ⟨e2, e3⟩ := At_cons (l := fl a ++ fl b) e1
  have A : AtT T (p + 1) a := ⟨h1.1, fl b ++ r, by rw [e3, List.append_assoc]⟩
  have te1 := At_te A
  refine ⟨e2, A, ⟨h1.2, r, ?_⟩, te1⟩
  rw [te1, ← List.drop_drop, e3, List.append_assoc, List.drop_left]
theorem At_mul (h : AtT T p (.mulL c a)) : T[p]? = some c ∧ arT c = 1 ∧ AtT T (p + 1) a := by
  obtain ⟨h1, r, e1⟩ := h
  obtain ⟨e2, e3⟩ := At_cons (l := fl a) e1
  exact ⟨e2, h1.1, h1.2, r, e3⟩
theorem At_0 (h : wt t) : AtT (fl t) 0 t := ⟨h, [], by simp⟩
theorem At_sub (h : AtT T p t) : subT T p = fl t := by
  have := At_te h
  obtain ⟨h1, r, e1⟩ := h
  unfold subT
  rw [e1, this, Nat.add_sub_cancel_left, List.take_left]
theorem At_get (h : T[p]? = some c) : ∃ hp : p < T.length, T[p] = c := List.getElem?_eq_some_iff.mp h
noncomputable def trA (T : List Int) (p : Nat) : Tm := @Classical.epsilon Tm ⟨.num 0⟩ (fun t => AtT T p t)
theorem trA_eq (h : AtT T p t) : trA T p = t := At_un (Classical.epsilon_spec (p := fun t => AtT T p t) ⟨t, h⟩) h
theorem tree_ind {P : Tm → Prop} (h : ∀ t, (∀ u, (fl u).length < (fl t).length → P u) → P t) : ∀ t, P t := by
  have : ∀ n t, (fl t).length < n → P t := by
    intro n
    induction n with
    | zero => intro t ht; omega
    | succ n ih => intro t ht; exact h t (fun u hu => ih u (by omega))
  exact fun t => this _ t (Nat.lt_succ_self _)
end ATS
