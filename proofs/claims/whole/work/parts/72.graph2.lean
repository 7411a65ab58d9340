/-! things: a step -/
section GRQ
variable {G : Gr} {ρ : Nat → Nat} {i j k f g h m : Nat} {T U : Lt}
theorem id_at {I : List Nat} {c : Int} (e : (I.map (cl G))[m]? = some c) : I[m]? = some (idN I m) ∧ cl G (idN I m) = c := by
  rw [List.getElem?_map] at e
  cases hq : I[m]? with
  | none => rw [hq] at e; simp at e
  | some j =>
    rw [hq] at e
    simp at e
    have : idN I m = j := by unfold idN; rw [List.getD_eq_getElem?_getD, hq]; rfl
    rw [this]
    exact ⟨rfl, e⟩
theorem put_in (hW : WG G ρ) (hi : i < G.length) (hc : cl G i = 1) : lf G i < G.length ∧ rt G i < G.length ∧ ρ (lf G i) < ρ i ∧ ρ (rt G i) < ρ i := by
  rcases hW i hi with q | q | q
  · exact q.2
  · rw [q.1] at hc; omega
  · rw [hc] at q; exact absurd q.2 (by decide)
/-- what a step takes: the puts ahead of a sign -/
theorem st_at (hW : WG G ρ) (h0 : 0 < G.length) (e : scn (fG G) 0 0 = some h) : 0 < wnt (cl G (idN (idG G) h)) ∧ (wnt (cl G (idN (idG G) h))).toNat ≤ h ∧ h < (idG G).length ∧ (idN (idG G) h < G.length) ∧ (∀ j : Nat, 1 ≤ j → (j : Int) ≤ wnt (cl G (idN (idG G) h)) → (idG G)[h - j]? = some (idN (idG G) (h - j)) ∧ idN (idG G) (h - j) < G.length ∧ cl G (idN (idG G) (h - j)) = 1) ∧ (∀ j : Nat, 1 ≤ j → (j : Int) + 1 ≤ wnt (cl G (idN (idG G) h)) → ρ (idN (idG G) (h - j)) < ρ (idN (idG G) (h - (j + 1)))) := by
  obtain ⟨m, c, h1, h2, h3, h4, h5⟩ := scn_some _ 0 0 h e
  have hm : m = h := by omega
  subst hm
  obtain ⟨p1, p2, p3⟩ := Ul_P (ufd G) 0 hW h0 (ufd_ok hW h0)
  obtain ⟨i1, i2⟩ := id_at h2
  have hlt := (List.getElem?_eq_some_iff.mp i1).1
  have hin : ∀ q j, (idG G)[q]? = some j → j < G.length ∧ cl G j ≠ 2 := fun q j hq => p2 j (List.mem_of_getElem? hq)
  rw [i2]
  have puts : ∀ j : Nat, 1 ≤ j → (j : Int) ≤ wnt c → (idG G)[m - j]? = some (idN (idG G) (m - j)) ∧ idN (idG G) (m - j) < G.length ∧ cl G (idN (idG G) (m - j)) = 1 := by
    intro j j1 j2
    have := h4 (j - 1) (by omega) (by omega)
    rw [show m - 1 - (j - 1) = m - j by omega] at this
    obtain ⟨q1, q2⟩ := id_at this
    exact ⟨q1, (hin _ _ q1).1, q2⟩
  refine ⟨h3, by omega, hlt, (hin _ _ i1).1, puts, fun j j1 j2 => ?_⟩
  obtain ⟨a1, a2, a3⟩ := puts j j1 (by omega)
  obtain ⟨b1, b2, b3⟩ := puts (j + 1) (by omega) (by omega)
  obtain ⟨k, e1, e2⟩ := p3 _ _ b1 b3
  have e1' : (idG G)[m - (j + 1) + 1]? = some k := e1
  rw [show m - (j + 1) + 1 = m - j by omega, a1] at e1'
  cases e1'
  obtain ⟨q1, q2, q3, q4⟩ := put_in hW b2 b3
  have := Rl_in hW q1 e2
  omega
theorem gs_in {v : Int × Nat × Nat} {X : Gr} {w : Nat} (hw : w < G.length) (hi : i < G.length) : (G.set w v ++ X).getD i (0, 0, 0) = if i = w then v else G.getD i (0, 0, 0) := by
  rw [List.getD_eq_getElem?_getD, List.getElem?_append_left (by simpa using hi), List.getElem?_set]
  by_cases e : w = i
  · subst e; rw [if_pos rfl, if_pos rfl, if_pos hw]; rfl
  · rw [if_neg e, if_neg (fun z => e z.symm), List.getD_eq_getElem?_getD]
theorem gs_out {v : Int × Nat × Nat} {X : Gr} {w : Nat} : (G.set w v ++ X).getD (G.length + k) (0, 0, 0) = X.getD k (0, 0, 0) := by
  rw [List.getD_eq_getElem?_getD, List.getElem?_append_right (by simp), List.getD_eq_getElem?_getD]
  simp
def rk3 (G : Gr) (ρ : Nat → Nat) (w i : Nat) : Nat := if i < G.length then 3 * ρ i else 3 * ρ w - 1
theorem nlk_app {X : Gr} {w : Nat} {v : Int × Nat × Nat} (hw : w < G.length) (hc : cl G w = 1) : ∀ n, n ≤ G.length → nlk (G.set w v ++ X) n ≤ nlk G n + (if v.1 = 2 ∧ w < n then 1 else 0) := by
  intro n
  induction n with
  | zero => intro _; simp [nlk]
  | succ n ih =>
    intro hn
    have := ih (by omega)
    have e : cl (G.set w v ++ X) n = if n = w then v.1 else cl G n := by
      unfold cl
      rw [gs_in hw (by omega)]
      split <;> rfl
    simp only [nlk]
    rw [e]
    by_cases q : n = w
    · have e2 : ¬ cl G n = 2 := by rw [q, hc]; omega
      have e3 : ¬ (v.1 = 2 ∧ w < n) := by omega
      rw [if_neg e3] at this
      simp only [if_pos q, if_neg e2]
      by_cases q2 : v.1 = 2
      · simp only [if_pos q2, if_pos (show v.1 = 2 ∧ w < n + 1 from ⟨q2, by omega⟩)]; omega
      · simp only [if_neg q2]; omega
    · simp only [if_neg q]
      by_cases q2 : v.1 = 2 ∧ w < n
      · rw [if_pos q2] at this
        simp only [if_pos (show v.1 = 2 ∧ w < n + 1 from ⟨q2.1, by omega⟩)]; omega
      · rw [if_neg q2] at this; omega
/-- G with w changed and more puts behind -/
theorem WG_step {X : Gr} {w : Nat} {v : Int × Nat × Nat} (hW : WG G ρ) (hw : w < G.length) (hc : cl G w = 1) (hv : (v.1 = 1 ∧ v.2.1 < G.length + X.length ∧ v.2.2 < G.length + X.length ∧ (v.2.1 < G.length → ρ v.2.1 < ρ w) ∧ (v.2.2 < G.length → ρ v.2.2 < ρ w)) ∨ (v.1 = 2 ∧ v.2.1 < G.length ∧ ρ v.2.1 < ρ w)) (hX : ∀ u ∈ X, u.1 = 1 ∧ u.2.1 < G.length ∧ u.2.2 < G.length ∧ ρ u.2.1 < ρ w ∧ ρ u.2.2 < ρ w) : WG (G.set w v ++ X) (rk3 G ρ w) ∧ nlk (G.set w v ++ X) (G.set w v ++ X).length ≤ nlk G G.length + 1 := by
  have hrw : 1 ≤ ρ w := by
    have := (put_in hW hw hc).2.2.1
    omega
  have hlen : (G.set w v ++ X).length = G.length + X.length := by simp
  have r1 : ∀ {a : Nat}, a < G.length → rk3 G ρ w a = 3 * ρ a := fun h => by unfold rk3; rw [if_pos h]
  have r2 : ∀ {a : Nat}, ¬ a < G.length → rk3 G ρ w a = 3 * ρ w - 1 := fun h => by unfold rk3; rw [if_neg h]
  have cX : ∀ k, k < X.length → (G.set w v ++ X).getD (G.length + k) (0, 0, 0) ∈ X := by
    intro k hk
    rw [gs_out, List.getD_eq_getElem?_getD, List.getElem?_eq_getElem hk]
    exact List.getElem_mem hk
  constructor
  · intro i hi
    rw [hlen] at hi
    rw [hlen]
    by_cases g : i < G.length
    · have e := gs_in (v := v) (X := X) hw g
      by_cases q : i = w
      · subst q
        rw [if_pos rfl] at e
        unfold cl lf rt
        rw [e, r1 hw]
        rcases hv with ⟨v1, v2, v3, v4, v5⟩ | ⟨v1, v2, v3⟩
        · refine Or.inl ⟨v1, v2, v3, ?_, ?_⟩
          · by_cases z : v.2.1 < G.length
            · rw [r1 z]; have := v4 z; omega
            · rw [r2 z]; omega
          · by_cases z : v.2.2 < G.length
            · rw [r1 z]; have := v5 z; omega
            · rw [r2 z]; omega
        · refine Or.inr (Or.inl ⟨v1, by omega, ?_⟩)
          rw [r1 v2]; omega
      · rw [if_neg q] at e
        have e1 : cl (G.set w v ++ X) i = cl G i := by unfold cl; rw [e]
        have e2 : lf (G.set w v ++ X) i = lf G i := by unfold lf; rw [e]
        have e3 : rt (G.set w v ++ X) i = rt G i := by unfold rt; rw [e]
        rw [e1, e2, e3, r1 g]
        rcases hW i g with ⟨q1, q2, q3, q4, q5⟩ | ⟨q1, q2, q3⟩ | q1
        · refine Or.inl ⟨q1, by omega, by omega, ?_, ?_⟩
          · rw [r1 q2]; omega
          · rw [r1 q3]; omega
        · refine Or.inr (Or.inl ⟨q1, by omega, ?_⟩)
          rw [r1 q2]; omega
        · exact Or.inr (Or.inr q1)
    · have hm := cX (i - G.length) (by omega)
      rw [show G.length + (i - G.length) = i by omega] at hm
      obtain ⟨u1, u2, u3, u4, u5⟩ := hX _ hm
      rw [r2 g]
      refine Or.inl ⟨u1, by unfold lf; omega, by unfold rt; omega, ?_, ?_⟩
      · rw [show lf (G.set w v ++ X) i = ((G.set w v ++ X).getD i (0, 0, 0)).2.1 from rfl, r1 u2]; omega
      · rw [show rt (G.set w v ++ X) i = ((G.set w v ++ X).getD i (0, 0, 0)).2.2 from rfl, r1 u3]; omega
  · have h1 := nlk_app (X := X) (v := v) hw hc G.length (Nat.le_refl _)
    have h2 : ∀ k, k ≤ X.length → nlk (G.set w v ++ X) (G.length + k) = nlk (G.set w v ++ X) G.length := by
      intro k
      induction k with
      | zero => intro _; rfl
      | succ k ih =>
        intro hk
        rw [← Nat.add_assoc]
        simp only [nlk]
        have := (hX _ (cX k (by omega))).1
        rw [show cl (G.set w v ++ X) (G.length + k) = ((G.set w v ++ X).getD (G.length + k) (0, 0, 0)).1 from rfl, this, if_neg (by omega), ih (by omega)]
        omega
    rw [hlen, h2 X.length (Nat.le_refl _)]
    split at h1 <;> omega
theorem stG_ok (hW : WG G ρ) (h0 : 0 < G.length) (e : scn (fG G) 0 0 = some h) : (∃ ρ', WG (stG G (idG G) h) ρ') ∧ nlk (stG G (idG G) h) (stG G (idG G) h).length ≤ nlk G G.length + 1 ∧ G.length ≤ (stG G (idG G) h).length ∧ (stG G (idG G) h).length ≤ G.length + 2 := by
  obtain ⟨s1, s2, s3, s4, s5, s6⟩ := st_at hW h0 e
  have pi : ∀ j : Nat, 1 ≤ j → (j : Int) ≤ wnt (cl G (idN (idG G) h)) → rt G (idN (idG G) (h - j)) < G.length ∧ ρ (rt G (idN (idG G) (h - j))) < ρ (idN (idG G) (h - j)) := by
    intro j j1 j2
    obtain ⟨a1, a2, a3⟩ := s5 j j1 j2
    have := put_in hW a2 a3
    exact ⟨this.2.1, this.2.2.2⟩
  unfold stG
  rcases wnt_c s1 with ⟨c1, w1⟩ | ⟨c1, w1⟩ | ⟨c1, w1⟩ | ⟨c1, w1⟩ | ⟨c1, w1⟩
  · rw [if_neg (by omega), if_neg (by omega), if_neg (by omega), if_neg (by omega)]
    obtain ⟨a1, a2, a3⟩ := s5 1 (by omega) (by omega)
    obtain ⟨b1, b2⟩ := pi 1 (by omega) (by omega)
    have := WG_step (X := []) (v := (2, rt G (idN (idG G) (h - 1)), rt G (idN (idG G) (h - 1)))) hW a2 a3 (Or.inr ⟨rfl, b1, b2⟩) (fun u hu => by cases hu)
    rw [List.append_nil] at this
    exact ⟨⟨_, this.1⟩, this.2, by simp, by simp⟩
  · rw [if_neg (by omega), if_neg (by omega), if_neg (by omega), if_pos c1]
    obtain ⟨a1, a2, a3⟩ := s5 2 (by omega) (by omega)
    obtain ⟨b1, b2⟩ := pi 1 (by omega) (by omega)
    have q1 : ρ (idN (idG G) (h - 1)) < ρ (idN (idG G) (h - 2)) := s6 1 (by omega) (by omega)
    have := WG_step (X := []) (v := (2, rt G (idN (idG G) (h - 1)), rt G (idN (idG G) (h - 2)))) hW a2 a3 (Or.inr ⟨rfl, b1, by show ρ (rt G (idN (idG G) (h - 1))) < _; omega⟩) (fun u hu => by cases hu)
    rw [List.append_nil] at this
    exact ⟨⟨_, this.1⟩, this.2, by simp, by simp⟩
  · rw [if_pos c1]
    obtain ⟨a1, a2, a3⟩ := s5 3 (by omega) (by omega)
    obtain ⟨b1, b2⟩ := pi 1 (by omega) (by omega)
    obtain ⟨b3, b4⟩ := pi 2 (by omega) (by omega)
    obtain ⟨b5, b6⟩ := pi 3 (by omega) (by omega)
    have q1 : ρ (idN (idG G) (h - 1)) < ρ (idN (idG G) (h - 2)) := s6 1 (by omega) (by omega)
    have q2 : ρ (idN (idG G) (h - 2)) < ρ (idN (idG G) (h - 3)) := s6 2 (by omega) (by omega)
    have := WG_step (X := [(1, rt G (idN (idG G) (h - 1)), rt G (idN (idG G) (h - 3))), (1, rt G (idN (idG G) (h - 2)), rt G (idN (idG G) (h - 3)))]) (v := (1, G.length, G.length + 1)) hW a2 a3 (Or.inl ⟨rfl, by simp, by simp, fun z => by simp at z, fun z => absurd z (by show ¬ (G.length + 1 < G.length); omega)⟩) (fun u hu => by
      simp only [List.mem_cons, List.not_mem_nil, or_false] at hu
      rcases hu with rfl | rfl
      · exact ⟨rfl, b1, b5, by show ρ (rt G (idN (idG G) (h - 1))) < _; omega, b6⟩
      · exact ⟨rfl, b3, b5, by show ρ (rt G (idN (idG G) (h - 2))) < _; omega, b6⟩)
    exact ⟨⟨_, this.1⟩, this.2, by simp, by simp⟩
  · rw [if_neg (by omega), if_pos c1]
    obtain ⟨a1, a2, a3⟩ := s5 3 (by omega) (by omega)
    obtain ⟨b1, b2⟩ := pi 1 (by omega) (by omega)
    obtain ⟨b3, b4⟩ := pi 2 (by omega) (by omega)
    obtain ⟨b5, b6⟩ := pi 3 (by omega) (by omega)
    have q1 : ρ (idN (idG G) (h - 1)) < ρ (idN (idG G) (h - 2)) := s6 1 (by omega) (by omega)
    have q2 : ρ (idN (idG G) (h - 2)) < ρ (idN (idG G) (h - 3)) := s6 2 (by omega) (by omega)
    have := WG_step (X := [(1, rt G (idN (idG G) (h - 2)), rt G (idN (idG G) (h - 3)))]) (v := (1, rt G (idN (idG G) (h - 1)), G.length)) hW a2 a3 (Or.inl ⟨rfl, by show rt G (idN (idG G) (h - 1)) < _; simp; omega, by simp, fun _ => by show ρ (rt G (idN (idG G) (h - 1))) < _; omega, fun z => by simp at z⟩) (fun u hu => by
      simp only [List.mem_cons, List.not_mem_nil, or_false] at hu
      rcases hu with rfl
      exact ⟨rfl, b3, b5, by show ρ (rt G (idN (idG G) (h - 2))) < _; omega, b6⟩)
    exact ⟨⟨_, this.1⟩, this.2, by simp, by simp⟩
  · rw [if_neg (by omega), if_neg (by omega), if_pos c1]
    obtain ⟨a1, a2, a3⟩ := s5 3 (by omega) (by omega)
    obtain ⟨b1, b2⟩ := pi 1 (by omega) (by omega)
    obtain ⟨b3, b4⟩ := pi 2 (by omega) (by omega)
    obtain ⟨b5, b6⟩ := pi 3 (by omega) (by omega)
    have q1 : ρ (idN (idG G) (h - 1)) < ρ (idN (idG G) (h - 2)) := s6 1 (by omega) (by omega)
    have q2 : ρ (idN (idG G) (h - 2)) < ρ (idN (idG G) (h - 3)) := s6 2 (by omega) (by omega)
    have := WG_step (X := [(1, rt G (idN (idG G) (h - 1)), rt G (idN (idG G) (h - 3)))]) (v := (1, G.length, rt G (idN (idG G) (h - 2)))) hW a2 a3 (Or.inl ⟨rfl, by simp, by show rt G (idN (idG G) (h - 2)) < _; simp; omega, fun z => by simp at z, fun _ => by show ρ (rt G (idN (idG G) (h - 2))) < _; omega⟩) (fun u hu => by
      simp only [List.mem_cons, List.not_mem_nil, or_false] at hu
      rcases hu with rfl
      exact ⟨rfl, b1, b5, by show ρ (rt G (idN (idG G) (h - 1))) < _; omega, b6⟩)
    exact ⟨⟨_, this.1⟩, this.2, by simp, by simp⟩
end GRQ
noncomputable def wkS : Nat → Gr → Nat × List Int
  | 0, G => (0, (fG G).take 301)
  | n + 1, G => if 300 < (fG G).length then (0, (fG G).take 301) else match scn (fG G) 0 0 with
    | none => (0, (fG G).take 301)
    | some h => ((wkS n (stG G (idG G) h)).1 + 1, (wkS n (stG G (idG G) h)).2)
/-- the things of a term, as they come -/
def gr0 (T : List Int) : Gr := (List.range T.length).map (fun p => (T.getD p 0, p + 1, te T (p + 1)))
