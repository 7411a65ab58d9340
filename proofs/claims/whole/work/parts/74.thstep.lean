/-! things: what changes -/
def Sok (G : Gr) (ρ : Nat → Nat) (w : Nat) (v : Int × Nat × Nat) (X : Gr) : Prop := w < G.length ∧ cl G w = 1 ∧ ((v.1 = 1 ∧ v.2.1 < G.length + X.length ∧ v.2.2 < G.length + X.length ∧ (v.2.1 < G.length → ρ v.2.1 < ρ w) ∧ (v.2.2 < G.length → ρ v.2.2 < ρ w)) ∨ (v.1 = 2 ∧ v.2.1 < G.length ∧ ρ v.2.1 < ρ w)) ∧ (∀ u ∈ X, u.1 = 1 ∧ u.2.1 < G.length ∧ u.2.2 < G.length ∧ ρ u.2.1 < ρ w ∧ ρ u.2.2 < ρ w)
section THS
variable {σ σ0 σ' : aSg} {K : List AV → aSg → Prop} {x y z c : Int} {T W st F I L R s : List Int} {r q t i j k p h m w : Nat} {G G' : Gr} {ρ : Nat → Nat} {v : Int × Nat × Nat} {X : Gr}
theorem Sok_W (hW : WG G ρ) (h : Sok G ρ w v X) : WG (G.set w v ++ X) (rk3 G ρ w) ∧ nlk (G.set w v ++ X) (G.set w v ++ X).length ≤ nlk G G.length + 1 := WG_step hW h.1 h.2.1 h.2.2.1 h.2.2.2
theorem st_pi (hW : WG G ρ) (h0 : 0 < G.length) (e : scn (fG G) 0 0 = some h) : ∀ j : Nat, 1 ≤ j → (j : Int) ≤ wnt (cl G (idN (idG G) h)) → rt G (idN (idG G) (h - j)) < G.length ∧ ρ (rt G (idN (idG G) (h - j))) < ρ (idN (idG G) (h - j)) ∧ idN (idG G) (h - j) < G.length ∧ cl G (idN (idG G) (h - j)) = 1 := by
  obtain ⟨s1, s2, s3, s4, s5, s6⟩ := st_at hW h0 e
  intro j j1 j2
  obtain ⟨a1, a2, a3⟩ := s5 j j1 j2
  have := put_in hW a2 a3
  exact ⟨this.2.1, this.2.2.2, a2, a3⟩
theorem S_73 (hW : WG G ρ) (h0 : 0 < G.length) (e : scn (fG G) 0 0 = some h) (c1 : cl G (idN (idG G) h) = 73) : stG G (idG G) h = G.set (idN (idG G) (h - 1)) (2, rt G (idN (idG G) (h - 1)), rt G (idN (idG G) (h - 1))) ++ [] ∧ Sok G ρ (idN (idG G) (h - 1)) (2, rt G (idN (idG G) (h - 1)), rt G (idN (idG G) (h - 1))) [] := by
  have pi := st_pi hW h0 e
  have w1 : wnt (cl G (idN (idG G) h)) = 1 := by rw [c1]; rfl
  obtain ⟨b1, b2, a2, a3⟩ := pi 1 (by omega) (by omega)
  refine ⟨?_, a2, a3, Or.inr ⟨rfl, b1, b2⟩, fun u hu => by cases hu⟩
  unfold stG
  rw [if_neg (by omega), if_neg (by omega), if_neg (by omega), if_neg (by omega), List.append_nil]
theorem S_75 (hW : WG G ρ) (h0 : 0 < G.length) (e : scn (fG G) 0 0 = some h) (c1 : cl G (idN (idG G) h) = 75) : stG G (idG G) h = G.set (idN (idG G) (h - 2)) (2, rt G (idN (idG G) (h - 1)), rt G (idN (idG G) (h - 2))) ++ [] ∧ Sok G ρ (idN (idG G) (h - 2)) (2, rt G (idN (idG G) (h - 1)), rt G (idN (idG G) (h - 2))) [] := by
  have pi := st_pi hW h0 e
  obtain ⟨s1, s2, s3, s4, s5, s6⟩ := st_at hW h0 e
  have w1 : wnt (cl G (idN (idG G) h)) = 2 := by rw [c1]; rfl
  obtain ⟨b1, b2, -⟩ := pi 1 (by omega) (by omega)
  obtain ⟨-, -, a2, a3⟩ := pi 2 (by omega) (by omega)
  have q1 : ρ (idN (idG G) (h - 1)) < ρ (idN (idG G) (h - 2)) := s6 1 (by omega) (by omega)
  refine ⟨?_, a2, a3, Or.inr ⟨rfl, b1, by show ρ (rt G (idN (idG G) (h - 1))) < _; omega⟩, fun u hu => by cases hu⟩
  unfold stG
  rw [if_neg (by omega), if_neg (by omega), if_neg (by omega), if_pos c1, List.append_nil]
theorem S_3 (hW : WG G ρ) (h0 : 0 < G.length) (e : scn (fG G) 0 0 = some h) (w1 : wnt (cl G (idN (idG G) h)) = 3) : 3 ≤ h ∧ idN (idG G) (h - 3) < G.length ∧ cl G (idN (idG G) (h - 3)) = 1 ∧ (rt G (idN (idG G) (h - 1)) < G.length ∧ ρ (rt G (idN (idG G) (h - 1))) < ρ (idN (idG G) (h - 3))) ∧ (rt G (idN (idG G) (h - 2)) < G.length ∧ ρ (rt G (idN (idG G) (h - 2))) < ρ (idN (idG G) (h - 3))) ∧ (rt G (idN (idG G) (h - 3)) < G.length ∧ ρ (rt G (idN (idG G) (h - 3))) < ρ (idN (idG G) (h - 3))) := by
  have pi := st_pi hW h0 e
  obtain ⟨s1, s2, s3, s4, s5, s6⟩ := st_at hW h0 e
  obtain ⟨b1, b2, -⟩ := pi 1 (by omega) (by omega)
  obtain ⟨b3, b4, -⟩ := pi 2 (by omega) (by omega)
  obtain ⟨b5, b6, a2, a3⟩ := pi 3 (by omega) (by omega)
  have q1 : ρ (idN (idG G) (h - 1)) < ρ (idN (idG G) (h - 2)) := s6 1 (by omega) (by omega)
  have q2 : ρ (idN (idG G) (h - 2)) < ρ (idN (idG G) (h - 3)) := s6 2 (by omega) (by omega)
  exact ⟨by omega, a2, a3, ⟨b1, by omega⟩, ⟨b3, by omega⟩, ⟨b5, b6⟩⟩
theorem S_83 (hW : WG G ρ) (h0 : 0 < G.length) (e : scn (fG G) 0 0 = some h) (c1 : cl G (idN (idG G) h) = 83) : stG G (idG G) h = G.set (idN (idG G) (h - 3)) (1, G.length, G.length + 1) ++ [(1, rt G (idN (idG G) (h - 1)), rt G (idN (idG G) (h - 3))), (1, rt G (idN (idG G) (h - 2)), rt G (idN (idG G) (h - 3)))] ∧ Sok G ρ (idN (idG G) (h - 3)) (1, G.length, G.length + 1) [(1, rt G (idN (idG G) (h - 1)), rt G (idN (idG G) (h - 3))), (1, rt G (idN (idG G) (h - 2)), rt G (idN (idG G) (h - 3)))] := by
  obtain ⟨-, a2, a3, ⟨b1, b2⟩, ⟨b3, b4⟩, ⟨b5, b6⟩⟩ := S_3 hW h0 e (by rw [c1]; rfl)
  refine ⟨by unfold stG; rw [if_pos c1], a2, a3, Or.inl ⟨rfl, by simp, by simp, fun z => by simp at z, fun z => absurd z (by show ¬ (G.length + 1 < G.length); omega)⟩, fun u hu => ?_⟩
  simp only [List.mem_cons, List.not_mem_nil, or_false] at hu
  rcases hu with rfl | rfl
  · exact ⟨rfl, b1, b5, b2, b6⟩
  · exact ⟨rfl, b3, b5, b4, b6⟩
theorem S_66 (hW : WG G ρ) (h0 : 0 < G.length) (e : scn (fG G) 0 0 = some h) (c1 : cl G (idN (idG G) h) = 66) : stG G (idG G) h = G.set (idN (idG G) (h - 3)) (1, rt G (idN (idG G) (h - 1)), G.length) ++ [(1, rt G (idN (idG G) (h - 2)), rt G (idN (idG G) (h - 3)))] ∧ Sok G ρ (idN (idG G) (h - 3)) (1, rt G (idN (idG G) (h - 1)), G.length) [(1, rt G (idN (idG G) (h - 2)), rt G (idN (idG G) (h - 3)))] := by
  obtain ⟨-, a2, a3, ⟨b1, b2⟩, ⟨b3, b4⟩, ⟨b5, b6⟩⟩ := S_3 hW h0 e (by rw [c1]; rfl)
  refine ⟨by unfold stG; rw [if_neg (by omega), if_pos c1], a2, a3, Or.inl ⟨rfl, by show rt G (idN (idG G) (h - 1)) < _; simp; omega, by simp, fun _ => b2, fun z => by simp at z⟩, fun u hu => ?_⟩
  simp only [List.mem_cons, List.not_mem_nil, or_false] at hu
  rcases hu with rfl
  exact ⟨rfl, b3, b5, b4, b6⟩
theorem S_67 (hW : WG G ρ) (h0 : 0 < G.length) (e : scn (fG G) 0 0 = some h) (c1 : cl G (idN (idG G) h) = 67) : stG G (idG G) h = G.set (idN (idG G) (h - 3)) (1, G.length, rt G (idN (idG G) (h - 2))) ++ [(1, rt G (idN (idG G) (h - 1)), rt G (idN (idG G) (h - 3)))] ∧ Sok G ρ (idN (idG G) (h - 3)) (1, G.length, rt G (idN (idG G) (h - 2))) [(1, rt G (idN (idG G) (h - 1)), rt G (idN (idG G) (h - 3)))] := by
  obtain ⟨-, a2, a3, ⟨b1, b2⟩, ⟨b3, b4⟩, ⟨b5, b6⟩⟩ := S_3 hW h0 e (by rw [c1]; rfl)
  refine ⟨by unfold stG; rw [if_neg (by omega), if_neg (by omega), if_pos c1], a2, a3, Or.inl ⟨rfl, by simp, by show rt G (idN (idG G) (h - 2)) < _; simp; omega, fun z => by simp at z, fun _ => b4⟩, fun u hu => ?_⟩
  simp only [List.mem_cons, List.not_mem_nil, or_false] at hu
  rcases hu with rfl
  exact ⟨rfl, b1, b5, b2, b6⟩
theorem Rl_step (hl : ∀ m, cl G m = 2 → cl G' m = 2 ∧ lf G' m = lf G m) (h : Rl G i j) : (∀ k, Rl G' i k → Rl G' j k) ∧ (∀ k, Rl G' j k → Rl G' i k) := by
  obtain ⟨f, e1, e2⟩ := h
  induction f generalizing i with
  | zero => have : i = j := e1; subst this; exact ⟨fun _ q => q, fun _ q => q⟩
  | succ f ih =>
    by_cases c : cl G i = 2
    · simp only [rl, if_pos c] at e1
      obtain ⟨q1, q2⟩ := ih e1
      obtain ⟨l1, l2⟩ := hl i c
      refine ⟨fun k hk => q1 k ?_, fun k hk => Rl_lk l1 (by rw [l2]; exact q2 k hk)⟩
      have := Rl_lk' l1 hk
      rw [l2] at this
      exact this
    · rw [rl_stop c] at e1
      subst e1
      exact ⟨fun _ q => q, fun _ q => q⟩
theorem gs_cl (hw : w < G.length) (hi : i < G.length) (hn : i ≠ w) : cl (G.set w v ++ X) i = cl G i ∧ lf (G.set w v ++ X) i = lf G i ∧ rt (G.set w v ++ X) i = rt G i := by
  have e := gs_in (v := v) (X := X) hw hi
  rw [if_neg hn] at e
  unfold cl lf rt
  rw [e]
  exact ⟨rfl, rfl, rfl⟩
theorem gs_w (hw : w < G.length) : cl (G.set w v ++ X) w = v.1 ∧ lf (G.set w v ++ X) w = v.2.1 ∧ rt (G.set w v ++ X) w = v.2.2 := by
  have e := gs_in (v := v) (X := X) hw hw
  rw [if_pos rfl] at e
  unfold cl lf rt
  rw [e]
  exact ⟨rfl, rfl, rfl⟩
theorem cl_out (h : ¬ i < G.length) : cl G i = 0 := by unfold cl; rw [List.getD_eq_getElem?_getD, List.getElem?_eq_none (by omega)]; rfl
theorem CL_step {L' R' : List Int} (hW : WG G ρ) (hs : Sok G ρ w v X) (hC : CL G ρ L R) (hL : L'.length = G.length + X.length) (hR : R'.length = G.length + X.length) (h1 : ∀ i : Nat, i < G.length → i ≠ w → lat L' (i : Int) = lat L (i : Int) ∧ (cl G i = 1 → lat R' (i : Int) = lat R (i : Int))) (h2 : lat L' (w : Int) = (v.2.1 : Int) ∧ (v.1 = 1 → lat R' (w : Int) = (v.2.2 : Int))) (h3 : ∀ k : Nat, k < X.length → lat L' ((G.length + k : Nat) : Int) = ((X.getD k (0, 0, 0)).2.1 : Int) ∧ lat R' ((G.length + k : Nat) : Int) = ((X.getD k (0, 0, 0)).2.2 : Int)) : CL (G.set w v ++ X) (rk3 G ρ w) L' R' := by
  obtain ⟨hw, hc, hv, hX⟩ := hs
  obtain ⟨c1, c2, c3, c4⟩ := hC
  have hlen : (G.set w v ++ X).length = G.length + X.length := by simp
  obtain ⟨g1, g2, g3⟩ := gs_w (v := v) (X := X) hw
  have hlk : ∀ m, cl G m = 2 → cl (G.set w v ++ X) m = 2 ∧ lf (G.set w v ++ X) m = lf G m := by
    intro m hm
    have hml : m < G.length := by
      apply Classical.byContradiction
      intro q
      rw [cl_out q] at hm
      omega
    obtain ⟨q1, q2, q3⟩ := gs_cl (v := v) (X := X) hw hml (by intro z; rw [z, hc] at hm; omega)
    exact ⟨by rw [q1]; exact hm, q2⟩
  have r1 : ∀ {a : Nat}, a < G.length → rk3 G ρ w a = 3 * ρ a := fun h => by unfold rk3; rw [if_pos h]
  refine ⟨by rw [hlen]; exact hL, by rw [hlen]; exact hR, fun i hi hc1 => ?_, fun i hi hc2 => ?_⟩
  · rw [hlen] at hi
    by_cases g : i < G.length
    · by_cases q : i = w
      · subst q
        rw [g1] at hc1
        rw [g2, g3]
        exact ⟨h2.1, h2.2 hc1⟩
      · obtain ⟨q1, q2, q3⟩ := gs_cl (v := v) (X := X) hw g q
        rw [q1] at hc1
        rw [q2, q3]
        obtain ⟨a1, a2⟩ := h1 i g q
        obtain ⟨b1, b2⟩ := c3 i g hc1
        exact ⟨by rw [a1]; exact b1, by rw [a2 hc1]; exact b2⟩
    · have e := gs_out (G := G) (v := v) (X := X) (w := w) (k := i - G.length)
      rw [show G.length + (i - G.length) = i by omega] at e
      obtain ⟨a1, a2⟩ := h3 (i - G.length) (by omega)
      rw [show G.length + (i - G.length) = i by omega] at a1 a2
      unfold lf rt
      rw [e]
      exact ⟨a1, a2⟩
  · rw [hlen] at hi
    by_cases g : i < G.length
    · by_cases q : i = w
      · subst q
        have hv2 : v.1 = 2 := by rw [g1] at hc2; exact hc2
        rcases hv with hv | ⟨-, v2, v3⟩
        · omega
        · refine ⟨v.2.1, h2.1, by rw [hlen]; omega, by rw [r1 v2, r1 hw]; omega, fun k hk => ?_⟩
          have := Rl_lk' hc2 hk
          rw [g2] at this
          exact this
      · obtain ⟨q1, q2, q3⟩ := gs_cl (v := v) (X := X) hw g q
        rw [q1] at hc2
        obtain ⟨a1, a2⟩ := h1 i g q
        obtain ⟨j, d1, d2, d3, d4⟩ := c4 i g hc2
        refine ⟨j, by rw [a1]; exact d1, by rw [hlen]; omega, by rw [r1 d2, r1 g]; omega, fun k hk => ?_⟩
        obtain ⟨je, r1, r2, r3⟩ := Rl_ex hW (ρ i) i (Nat.le_refl _) g
        exact (Rl_step hlk (d4 je r1)).2 k ((Rl_step hlk r1).1 k hk)
    · exfalso
      have e := gs_out (G := G) (v := v) (X := X) (w := w) (k := i - G.length)
      rw [show G.length + (i - G.length) = i by omega] at e
      have hm : X.getD (i - G.length) (0, 0, 0) ∈ X := by
        rw [List.getD_eq_getElem?_getD, List.getElem?_eq_getElem (by omega)]
        exact List.getElem_mem (by omega)
      have := (hX _ hm).1
      unfold cl at hc2
      rw [e, this] at hc2
      omega
end THS
