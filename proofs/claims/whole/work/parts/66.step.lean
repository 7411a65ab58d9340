/-! a step: the mathematics -/
def scn : List Int → Nat → Nat → Option Nat
  | [], _, _ => none
  | c :: l, k, i => if c = 1 then scn l (k + 1) (i + 1) else if 0 < wnt c ∧ wnt c ≤ (k : Int) then some i else scn l 0 (i + 1)
def rdx (c : Int) (a b d : Tm) : Tm := if c = 73 then a else if c = 75 then a else if c = 83 then .add (.add a d) (.add b d) else if c = 66 then .add a (.add b d) else .add (.add a d) b
def wn (c : Int) : Nat := (wnt c).toNat
noncomputable def stpL (T : List Int) (h : Nat) : List Int := T.take (h - wn (T.getD h 0)) ++ (fl (rdx (T.getD h 0) (trA T (h + 1)) (trA T (te T (h + 1))) (trA T (te T (te T (h + 1))))) ++ T.drop (te T (h - wn (T.getD h 0))))
/-- no binders -/
def nbA (T : List Int) : Prop := ∀ c ∈ T, ¬ 1000 < c
section STP
variable {T : List Int} {h k p q i : Nat} {c : Int} {a b d t : Tm}
theorem scn_some : ∀ (l : List Int) (k i h : Nat), scn l k i = some h → ∃ m c, h = i + m ∧ l[m]? = some c ∧ 0 < wnt c ∧ (∀ j, j < (wnt c).toNat → j < m → l[m - 1 - j]? = some 1) ∧ (wnt c).toNat ≤ k + m := by
  intro l
  induction l with
  | nil => intro k i h e; simp [scn] at e
  | cons c l ih =>
    intro k i h e
    simp only [scn] at e
    by_cases g1 : c = 1
    · rw [if_pos g1] at e
      obtain ⟨m, d, h1, h2, h3, h4, h5⟩ := ih _ _ _ e
      refine ⟨m + 1, d, by omega, by simpa using h2, h3, fun j hj hm => ?_, by omega⟩
      by_cases q : j < m
      · have := h4 j hj q
        rw [show m + 1 - 1 - j = (m - 1 - j) + 1 by omega, List.getElem?_cons_succ]; exact this
      · rw [show m + 1 - 1 - j = 0 by omega]; simp [g1]
    · rw [if_neg g1] at e
      by_cases g2 : 0 < wnt c ∧ wnt c ≤ (k : Int)
      · rw [if_pos g2] at e
        cases e
        exact ⟨0, c, by omega, rfl, g2.1, fun j _ hm => by omega, by omega⟩
      · rw [if_neg g2] at e
        obtain ⟨m, d, h1, h2, h3, h4, h5⟩ := ih _ _ _ e
        refine ⟨m + 1, d, by omega, by simpa using h2, h3, fun j hj hm => ?_, by omega⟩
        have := h4 j hj (by omega)
        rw [show m + 1 - 1 - j = (m - 1 - j) + 1 by omega, List.getElem?_cons_succ]; exact this
theorem wnt_c (h : 0 < wnt c) : (c = 73 ∧ wnt c = 1) ∨ (c = 75 ∧ wnt c = 2) ∨ (c = 83 ∧ wnt c = 3) ∨ (c = 66 ∧ wnt c = 3) ∨ (c = 67 ∧ wnt c = 3) := by
  unfold wnt at h ⊢
  repeat' split
  all_goals simp_all
theorem At_put (hT : isT T) (h1 : T[p]? = some 1) : ∃ u v, AtT T p (.add u v) ∧ AtT T (p + 1) u ∧ AtT T (te T (p + 1)) v ∧ te T p = te T (te T (p + 1)) := by
  obtain ⟨hp, e⟩ := List.getElem?_eq_some_iff.mp h1
  obtain ⟨t, A⟩ := At_ex hT hp
  have hw := A.1
  have ht := (te_2 hT h1 rfl).2.2
  cases t with
  | num c =>
    obtain ⟨g1, g2⟩ := At_num A
    rw [h1] at g1; cases g1; exact absurd g2 (by decide)
  | add u v =>
    obtain ⟨-, A1, A2, -⟩ := At_add A
    exact ⟨u, v, A, A1, A2, ht⟩
  | mulL c a =>
    obtain ⟨g1, g2, -⟩ := At_mul A
    rw [h1] at g1; cases g1; exact absurd g2 (by decide)
  | var i => simp [wt] at hw
  | sub a b => simp [wt] at hw
  | neg a => simp [wt] at hw
  | mulR a d => simp [wt] at hw
theorem At_leaf (hT : isT T) (h1 : T[p]? = some c) (h2 : arT c = 0) : AtT T p (.num c) := by
  obtain ⟨hp, e⟩ := List.getElem?_eq_some_iff.mp h1
  obtain ⟨t, A⟩ := At_ex hT hp
  have hw := A.1
  cases t with
  | num d =>
    obtain ⟨g1, g2⟩ := At_num A
    rw [h1] at g1; cases g1; exact A
  | add u v =>
    obtain ⟨g1, -⟩ := At_add A
    rw [h1] at g1; cases g1; exact absurd h2 (by decide)
  | mulL d a =>
    obtain ⟨g1, g2, -⟩ := At_mul A
    rw [h1] at g1; cases g1; omega
  | var i => simp [wt] at hw
  | sub a b => simp [wt] at hw
  | neg a => simp [wt] at hw
  | mulR a d => simp [wt] at hw
/-- what the found step has -/
def rxT (T : List Int) (h : Nat) (c : Int) (a b d : Tm) : Prop := AtT T (h + 1) a ∧ ((wnt c = 1 ∧ AtT T (h - 1) (.add (.num c) a) ∧ te T (h - 1) = te T (h + 1)) ∨ (wnt c = 2 ∧ AtT T (te T (h + 1)) b ∧ AtT T (h - 2) (.add (.add (.num c) a) b) ∧ te T (h - 2) = te T (te T (h + 1))) ∨ (wnt c = 3 ∧ AtT T (te T (h + 1)) b ∧ AtT T (te T (te T (h + 1))) d ∧ AtT T (h - 3) (.add (.add (.add (.num c) a) b) d) ∧ te T (h - 3) = te T (te T (te T (h + 1)))))
theorem scn_at (hT : isT T) (e : scn T 0 0 = some h) : ∃ c a b d, T[h]? = some c ∧ 0 < wnt c ∧ (wnt c).toNat ≤ h ∧ rxT T h c a b d := by
  obtain ⟨m, c, h1, h2, h3, h4, h5⟩ := scn_some T 0 0 h e
  have hm : m = h := by omega
  subst hm
  have ha : arT c = 0 := by rcases wnt_c h3 with q | q | q | q | q <;> (rw [q.1]; rfl)
  have L := At_leaf hT h2 ha
  have te0 : te T m = m + 1 := te_0 hT h2 ha
  have p1 : T[m - 1]? = some 1 := by have := h4 0 (by omega) (by omega); simpa using this
  obtain ⟨u, a, A1, A2, A3, A4⟩ := At_put hT p1
  rw [show m - 1 + 1 = m by omega] at A2 A3 A4
  rw [te0] at A3 A4
  have e1 := At_un A2 L
  subst e1
  by_cases w1 : wnt c = 1
  · exact ⟨c, a, a, a, h2, h3, by omega, A3, Or.inl ⟨w1, A1, A4⟩⟩
  have p2 : T[m - 2]? = some 1 := by have := h4 1 (by rcases wnt_c h3 with q | q | q | q | q <;> omega) (by rcases wnt_c h3 with q | q | q | q | q <;> omega); rw [show m - 1 - 1 = m - 2 by omega] at this; exact this
  obtain ⟨u, b, B1, B2, B3, B4⟩ := At_put hT p2
  have m2 : 2 ≤ m := by rcases wnt_c h3 with q | q | q | q | q <;> omega
  rw [show m - 2 + 1 = m - 1 by omega] at B2 B3 B4
  rw [A4] at B3 B4
  have e2 := At_un B2 A1
  subst e2
  by_cases w2 : wnt c = 2
  · exact ⟨c, a, b, b, h2, h3, by omega, A3, Or.inr (Or.inl ⟨w2, B3, B1, B4⟩)⟩
  have w3 : wnt c = 3 := by rcases wnt_c h3 with q | q | q | q | q <;> omega
  have p3 : T[m - 3]? = some 1 := by have := h4 2 (by omega) (by omega); rw [show m - 1 - 2 = m - 3 by omega] at this; exact this
  obtain ⟨u, d, D1, D2, D3, D4⟩ := At_put hT p3
  rw [show m - 3 + 1 = m - 2 by omega] at D2 D3 D4
  rw [B4] at D3 D4
  have e3 := At_un D2 B1
  subst e3
  exact ⟨c, a, b, d, h2, h3, by omega, A3, Or.inr (Or.inr ⟨w3, B3, D3, D1, D4⟩)⟩
theorem At_nb (h : AtT T p t) (hn : nbA T) : ∀ c ∈ fl t, ¬ 1000 < c := by
  obtain ⟨_, r, e⟩ := h
  intro c hc
  exact hn c (List.mem_of_mem_drop (by rw [e]; exact List.mem_append_left _ hc))
/-- a tree instead of another one, in its place -/
theorem rep_ok (hT : isT T) (hk : tks T) (hn : nbA T) (A : AtT T p t) (hw : wt a) (hka : tks (fl a)) (hna : ∀ c ∈ fl a, ¬ 1000 < c) : isT (T.take p ++ (fl a ++ T.drop (te T p))) ∧ tks (T.take p ++ (fl a ++ T.drop (te T p))) ∧ nbA (T.take p ++ (fl a ++ T.drop (te T p))) ∧ (T.take p ++ (fl a ++ T.drop (te T p))).length + (fl t).length = T.length + (fl a).length := by
  have hte := At_te A
  have hle := At_le A
  have hsplit : T = T.take p ++ (fl t ++ T.drop (te T p)) := by
    obtain ⟨_, r, e⟩ := A
    have : T.drop (te T p) = r := by rw [hte, ← List.drop_drop, e, List.drop_left]
    rw [this, ← e, List.take_append_drop]
  refine ⟨?_, ?_, ?_, ?_⟩
  · have h1 := hT
    unfold isT at h1
    rw [hsplit] at h1
    exact skp_rep (fl_T _ A.1) (fl_T _ hw) _ _ 1 h1
  · intro c hc
    rcases List.mem_append.mp hc with h | h
    · exact hk c (List.mem_of_mem_take h)
    rcases List.mem_append.mp h with h | h
    · exact hka c h
    · exact hk c (List.mem_of_mem_drop h)
  · intro c hc
    rcases List.mem_append.mp hc with h | h
    · exact hn c (List.mem_of_mem_take h)
    rcases List.mem_append.mp h with h | h
    · exact hna c h
    · exact hn c (List.mem_of_mem_drop h)
  · rw [List.length_append, List.length_append, List.length_take, List.length_drop]; omega
theorem fl_add_all {P : Int → Prop} (h1 : P 1) (ha : ∀ c ∈ fl a, P c) (hb : ∀ c ∈ fl b, P c) : ∀ c ∈ fl (.add a b), P c := by
  intro c hc
  simp only [fl, List.mem_cons, List.mem_append] at hc
  rcases hc with rfl | hc | hc
  · exact h1
  · exact ha c hc
  · exact hb c hc
theorem stpL_ok (hT : isT T) (hk : tks T) (hn : nbA T) (e : scn T 0 0 = some h) : isT (stpL T h) ∧ tks (stpL T h) ∧ nbA (stpL T h) ∧ (stpL T h).length ≤ 2 * T.length := by
  obtain ⟨c, a, b, d, h1, h2, h3, A, hr⟩ := scn_at hT e
  have hg : T.getD h 0 = c := by rw [List.getD_eq_getElem?_getD, h1]; rfl
  have t1 : tok 1 := Or.inl rfl
  have n1 : ¬ (1000 : Int) < 1 := by omega
  have ka := At_tks A hk
  have na := At_nb A hn
  unfold stpL
  rw [hg]
  unfold wn
  rcases hr with ⟨w, R, -⟩ | ⟨w, B, R, -⟩ | ⟨w, B, D, R, -⟩
  · have hc : c = 73 := by rcases wnt_c h2 with q | q | q | q | q <;> omega
    rw [w, trA_eq A, show rdx c a (trA T (te T (h + 1))) (trA T (te T (te T (h + 1)))) = a by simp [rdx, hc]]
    obtain ⟨q1, q2, q3, q4⟩ := rep_ok hT hk hn R A.1 ka na
    refine ⟨q1, q2, q3, ?_⟩
    have := fl_pos A.1
    have e1 : (1 : Int).toNat = 1 := rfl
    rw [e1]
    simp only [fl, List.length_cons, List.length_append, List.length_nil] at q4 ⊢
    omega
  · have hc : c = 75 := by rcases wnt_c h2 with q | q | q | q | q <;> omega
    rw [w, trA_eq A, show rdx c a (trA T (te T (h + 1))) (trA T (te T (te T (h + 1)))) = a by simp [rdx, hc]]
    obtain ⟨q1, q2, q3, q4⟩ := rep_ok hT hk hn R A.1 ka na
    refine ⟨q1, q2, q3, ?_⟩
    have := fl_pos A.1
    have e1 : (2 : Int).toNat = 2 := rfl
    rw [e1]
    simp only [fl, List.length_cons, List.length_append, List.length_nil] at q4 ⊢
    omega
  · have kb := At_tks B hk
    have nb := At_nb B hn
    have kd := At_tks D hk
    have nd := At_nb D hn
    have e1 : (3 : Int).toNat = 3 := rfl
    have pa := fl_pos A.1
    have pb := fl_pos B.1
    have pd := fl_pos D.1
    have le := At_le R
    simp only [fl, List.length_cons, List.length_append, List.length_nil] at le
    rw [w, trA_eq A, trA_eq B, trA_eq D, e1]
    have hc : c = 83 ∨ c = 66 ∨ c = 67 := by rcases wnt_c h2 with q | q | q | q | q <;> omega
    rcases hc with hc | hc | hc
    · rw [show rdx c a b d = .add (.add a d) (.add b d) by simp [rdx, hc]]
      obtain ⟨q1, q2, q3, q4⟩ := rep_ok (a := .add (.add a d) (.add b d)) hT hk hn R ⟨⟨A.1, D.1⟩, ⟨B.1, D.1⟩⟩ (fl_add_all t1 (fl_add_all t1 ka kd) (fl_add_all t1 kb kd)) (fl_add_all n1 (fl_add_all n1 na nd) (fl_add_all n1 nb nd))
      refine ⟨q1, q2, q3, ?_⟩
      simp only [fl, List.length_cons, List.length_append, List.length_nil] at q4 ⊢
      omega
    · rw [show rdx c a b d = .add a (.add b d) by simp [rdx, hc]]
      obtain ⟨q1, q2, q3, q4⟩ := rep_ok (a := .add a (.add b d)) hT hk hn R ⟨A.1, ⟨B.1, D.1⟩⟩ (fl_add_all t1 ka (fl_add_all t1 kb kd)) (fl_add_all n1 na (fl_add_all n1 nb nd))
      refine ⟨q1, q2, q3, ?_⟩
      simp only [fl, List.length_cons, List.length_append, List.length_nil] at q4 ⊢
      omega
    · rw [show rdx c a b d = .add (.add a d) b by simp [rdx, hc]]
      obtain ⟨q1, q2, q3, q4⟩ := rep_ok (a := .add (.add a d) b) hT hk hn R ⟨⟨A.1, D.1⟩, B.1⟩ (fl_add_all t1 (fl_add_all t1 ka kd) kb) (fl_add_all n1 (fl_add_all n1 na nd) nb)
      refine ⟨q1, q2, q3, ?_⟩
      simp only [fl, List.length_cons, List.length_append, List.length_nil] at q4 ⊢
      omega
end STP
noncomputable def wkP : Nat → List Int → Nat × List Int
  | 0, T => (0, T)
  | n + 1, T => if 300 < T.length then (0, T) else match scn T 0 0 with
    | none => (0, T)
    | some h => ((wkP n (stpL T h)).1 + 1, (wkP n (stpL T h)).2)
