/-! kinds: how one is written out, turn by turn -/
def wrS (V : Nat → Ty) : List Int → List Nat → List Int × List Nat
  | [], L => ([], L)
  | x :: W, L => if x < 0 then ((-x) :: (wrS V W L).1, (wrS V W L).2) else ((wrt (V x.toNat) L).1 ++ (wrS V W (wrt (V x.toNat) L).2).1, (wrS V W (wrt (V x.toNat) L).2).2)
def mkL (L : List Nat) (r : Nat) : Int := if r ∈ L then 97 + (ixN r L : Int) else 0
def topN (V : Nat → Ty) : List Int → Prop
  | [] => True
  | x :: _ => 0 ≤ x → isOp (V x.toNat) = false
def WkI (V : Nat → Ty) (n : Nat) (A : List Int) (N : Nat) (W out : List Int) (L : List Nat) (E : Nat) : Prop :=
  out ++ (wrS V W L).1 = A ∧ (wrS V W L).2.length = N ∧ W.length ≤ 1 + 4 * E ∧ (E ≤ out.length ∨ (E ≤ out.length + 1 ∧ topN V W)) ∧ ∀ x ∈ W, x = -40 ∨ x = -41 ∨ x = -62 ∨ ∃ i : Nat, x = (i : Int) ∧ i < n
section WKT
variable {V : Nat → Ty} {n N E i r : Nat} {A W out : List Int} {L : List Nat} {fr to : Nat → Int} {o ρ : Nat → Nat} {x : Int}
theorem wrt_ge : ∀ (π : Ty) (L : List Nat), L.length ≤ (wrt π L).2.length := by
  intro π
  induction π with
  | var x => intro L; simp only [wrt]; split <;> simp
  | op a b iha ihb =>
    intro L
    simp only [wrt]
    exact Nat.le_trans (iha L) (ihb _)
theorem wrS_ge : ∀ (W : List Int) (L : List Nat), L.length ≤ (wrS V W L).2.length := by
  intro W
  induction W with
  | nil => intro L; exact Nat.le_refl _
  | cons x W ih =>
    intro L
    simp only [wrS]
    split
    · exact ih L
    · exact Nat.le_trans (wrt_ge _ L) (ih _)
theorem ixN_app : ∀ (L : List Nat) (x y : Nat), x ∈ L → ixN x (L ++ [y]) = ixN x L := by
  intro L
  induction L with
  | nil => intro x y h; cases h
  | cons z L ih =>
    intro x y h
    simp only [List.cons_append, ixN]
    by_cases e : z = x
    · rw [if_pos e, if_pos e]
    · rw [if_neg e, if_neg e, ih x y (by rcases List.mem_cons.mp h with q | q; exact absurd q.symm e; exact q)]
theorem ixN_new : ∀ (L : List Nat) (x : Nat), x ∉ L → ixN x (L ++ [x]) = L.length := by
  intro L
  induction L with
  | nil => intro x _; simp [ixN]
  | cons z L ih =>
    intro x h
    simp only [List.cons_append, ixN]
    rw [if_neg (fun e => h (by rw [e]; exact List.mem_cons_self ..)), ih x (fun q => h (List.mem_cons_of_mem _ q)), List.length_cons]
    omega
theorem mkL_nil : mkL [] = fun _ => 0 := by funext r; simp [mkL]
theorem mkL_in (h : r ∈ L) : mkL L r = 97 + (ixN r L : Int) ∧ ¬ mkL L r = 0 := by
  unfold mkL
  rw [if_pos h]
  exact ⟨rfl, by omega⟩
theorem mkL_out (h : r ∉ L) : mkL L r = 0 := by unfold mkL; rw [if_neg h]
theorem mkL_new (h : r ∉ L) : mkL (L ++ [r]) = upI (mkL L) r (97 + (L.length : Int)) := by
  funext j
  unfold upI mkL
  by_cases e : j = r
  · subst e
    rw [if_pos rfl, if_pos (by simp), ixN_new L j h]
  · rw [if_neg e]
    by_cases g : j ∈ L
    · rw [if_pos g, if_pos (by simp [g]), ixN_app L j r g]
    · rw [if_neg g, if_neg (by simp [g, e])]
theorem wk_0 (hi : i < n) : WkI V n (wrt (V i) []).1 (wrt (V i) []).2.length [(i : Int)] [] [] 0 := by
  refine ⟨?_, ?_, by simp, Or.inl (Nat.zero_le _), fun x hx => ?_⟩
  · simp [wrS, if_neg (show ¬ (i : Int) < 0 by omega)]
  · simp [wrS, if_neg (show ¬ (i : Int) < 0 by omega)]
  · rcases List.mem_singleton.mp hx with rfl
    exact Or.inr (Or.inr (Or.inr ⟨i, rfl, hi⟩))
theorem wk_lit (h : WkI V n A N (x :: W) out L E) (hx : x < 0) : WkI V n A N W (out ++ [-x]) L E := by
  obtain ⟨h1, h2, h3, h4, h5⟩ := h
  simp only [wrS, if_pos hx] at h1 h2
  simp only [List.length_cons] at h3
  refine ⟨by rw [← h1]; simp, h2, by omega, Or.inl ?_, fun y hy => h5 y (List.mem_cons_of_mem _ hy)⟩
  rw [List.length_append, List.length_singleton]
  rcases h4 with q | q <;> omega
theorem wk_old (h : WkI V n A N ((i : Int) :: W) out L E) (hv : V i = .var r) (hr : r ∈ L) : WkI V n A N W (out ++ [mkL L r]) L E := by
  obtain ⟨h1, h2, h3, h4, h5⟩ := h
  simp only [wrS, if_neg (show ¬ (i : Int) < 0 by omega), Int.toNat_natCast, hv, wrt, if_pos hr] at h1 h2
  simp only [List.length_cons] at h3
  refine ⟨by rw [← h1, (mkL_in hr).1]; simp, h2, by omega, Or.inl ?_, fun y hy => h5 y (List.mem_cons_of_mem _ hy)⟩
  rw [List.length_append, List.length_singleton]
  rcases h4 with q | q <;> omega
theorem wk_new (h : WkI V n A N ((i : Int) :: W) out L E) (hv : V i = .var r) (hr : r ∉ L) : WkI V n A N W (out ++ [97 + (L.length : Int)]) (L ++ [r]) E := by
  obtain ⟨h1, h2, h3, h4, h5⟩ := h
  simp only [wrS, if_neg (show ¬ (i : Int) < 0 by omega), Int.toNat_natCast, hv, wrt, if_neg hr] at h1 h2
  simp only [List.length_cons] at h3
  refine ⟨by rw [← h1]; simp, h2, by omega, Or.inl ?_, fun y hy => h5 y (List.mem_cons_of_mem _ hy)⟩
  rw [List.length_append, List.length_singleton]
  rcases h4 with q | q <;> omega
theorem wk_arr {a b : Nat} (h : WkI V n A N ((i : Int) :: W) out L E) (hv : V i = .op (V a) (V b)) (ha : a < n) (hb : b < n) : (isOp (V a) = true → WkI V n A N (-40 :: (a : Int) :: -41 :: -62 :: (b : Int) :: W) out L (E + 1)) ∧ (isOp (V a) = false → WkI V n A N ((a : Int) :: -62 :: (b : Int) :: W) out L (E + 1)) := by
  obtain ⟨h1, h2, h3, h4, h5⟩ := h
  simp only [List.length_cons] at h3
  have h4' : E ≤ out.length := by
    rcases h4 with q | ⟨q, q'⟩
    · exact q
    · have := q' (by omega)
      rw [Int.toNat_natCast, hv] at this
      exact absurd this (by simp [isOp])
  have n0 : ∀ k : Nat, ¬ (k : Int) < 0 := fun k => by omega
  have mm : ∀ x ∈ W, x = -40 ∨ x = -41 ∨ x = -62 ∨ ∃ i : Nat, x = (i : Int) ∧ i < n := fun y hy => h5 y (List.mem_cons_of_mem _ hy)
  constructor
  · intro g
    simp only [wrS, if_neg (n0 i), Int.toNat_natCast, hv, wrt, if_pos g] at h1 h2
    refine ⟨?_, ?_, by simp only [List.length_cons]; omega, Or.inr ⟨by omega, fun q => by omega⟩, fun x hx => ?_⟩
    · simp only [wrS, if_neg (n0 a), if_neg (n0 b), Int.toNat_natCast]
      rw [if_pos (by omega), if_pos (by omega), if_pos (by omega), ← h1]
      simp
    · simp only [wrS, if_neg (n0 a), if_neg (n0 b), Int.toNat_natCast]
      rw [if_pos (by omega), if_pos (by omega), if_pos (by omega)]
      exact h2
    · simp only [List.mem_cons] at hx
      rcases hx with rfl | rfl | rfl | rfl | rfl | hx
      · exact Or.inl rfl
      · exact Or.inr (Or.inr (Or.inr ⟨a, rfl, ha⟩))
      · exact Or.inr (Or.inl rfl)
      · exact Or.inr (Or.inr (Or.inl rfl))
      · exact Or.inr (Or.inr (Or.inr ⟨b, rfl, hb⟩))
      · exact mm x hx
  · intro g
    simp only [wrS, if_neg (n0 i), Int.toNat_natCast, hv, wrt, g] at h1 h2
    refine ⟨?_, ?_, by simp only [List.length_cons]; omega, Or.inr ⟨by omega, fun q => by rw [Int.toNat_natCast]; exact g⟩, fun x hx => ?_⟩
    · simp only [wrS, if_neg (n0 a), if_neg (n0 b), Int.toNat_natCast]
      rw [if_pos (by omega), ← h1]
      simp
    · simp only [wrS, if_neg (n0 a), if_neg (n0 b), Int.toNat_natCast]
      rw [if_pos (by omega)]
      exact h2
    · simp only [List.mem_cons] at hx
      rcases hx with rfl | rfl | rfl | hx
      · exact Or.inr (Or.inr (Or.inr ⟨a, rfl, ha⟩))
      · exact Or.inr (Or.inr (Or.inl rfl))
      · exact Or.inr (Or.inr (Or.inr ⟨b, rfl, hb⟩))
      · exact mm x hx
/-- the end, or too much -/
theorem wk_end (h : WkI V n A N [] out L E) : A = out ∧ N = L.length := by
  obtain ⟨h1, h2, -⟩ := h
  simp only [wrS, List.append_nil] at h1 h2
  exact ⟨h1.symm, h2.symm⟩
theorem wk_full (h : WkI V n A N W out L E) (g : 200 < out.length ∨ 26 < L.length) : 200 < A.length ∨ 26 < N := by
  obtain ⟨h1, h2, -⟩ := h
  have := wrS_ge (V := V) W L
  rcases g with g | g
  · left; rw [← h1, List.length_append]; omega
  · right; omega
theorem wk_bd (h : WkI V n A N W out L E) (g : out.length ≤ 200) : E ≤ 201 ∧ W.length ≤ 805 := by
  obtain ⟨-, -, h3, h4, -⟩ := h
  rcases h4 with q | q <;> omega
/-- what a kind is -/
theorem sh_op (hS : KSh n fr to o V) (hi : i < n) (hr : Ru o i r) : isOp (V i) = true ↔ fr r ≠ -1 := by
  obtain ⟨s1, s2⟩ := hS i r hi hr
  by_cases e : fr r = -1
  · rw [s1 e]; simp [isOp, e]
  · rw [s2 e]; simp [isOp, e]
end WKT
