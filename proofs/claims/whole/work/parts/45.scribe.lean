/-! writing a term out: the common stack machine -/
def scO (v : Int) (b : Prop) [Decidable b] (st : List Int) : List Int := if b then -40 :: v :: -41 :: st else v :: st
def scQ (T : List Int) (v : Int) : Int := (te T (v.toNat + 1) : Int)
def scP (T : List Int) (v : Int) (st : List Int) : List Int := scO (v + 1) (1000 < lat T (v + 1)) (scO (scQ T v) (lat T (scQ T v) = 1 ∨ 1000 < lat T (scQ T v)) st)
def scS (T : List Int) (v : Int) (st : List Int) : List Int := if v < 0 then st else if lat T v = 1 then scP T v st else if 1000 < lat T v then (v + 1) :: st else st
def scW (T : List Int) (v : Int) : List Int := if v < 0 then [-v] else if lat T v = 1 then [] else if 1000 < lat T v then [94, lat T v - 1000, 46] else [lat T v]
def scR (T : List Int) : Nat → List Int → List Int
  | 0, _ => []
  | _ + 1, [] => []
  | n + 1, v :: st => scW T v ++ scR T n (scS T v st)
def scI (T : List Int) (v : Int) : Prop := v = -40 ∨ v = -41 ∨ (0 ≤ v ∧ v.toNat < T.length)
def scG (T : List Int) (v : Int) : Nat := if v < 0 then 1 else 3 * (te T v.toNat - v.toNat) - 2
def scM (T : List Int) : List Int → Nat
  | [] => 0
  | v :: st => scG T v + scM T st
theorem lat_i2 {T : List Int} {p : Nat} (h : p < T.length) : lat T (p : Int) = T[p] := by
  unfold lat
  rw [if_pos (by omega), Int.toNat_natCast, List.getD_eq_getElem?_getD, List.getElem?_eq_getElem h]; rfl
theorem scM_O {T : List Int} {v : Int} {b : Prop} [Decidable b] {st : List Int} : scM T (scO v b st) ≤ scG T v + scM T st + 2 := by
  unfold scO
  split
  · simp only [scM]
    have h1 : scG T (-40) = 1 := rfl
    have h2 : scG T (-41) = 1 := rfl
    omega
  · simp only [scM]; omega
theorem scI_O {T : List Int} {v : Int} {b : Prop} [Decidable b] {st : List Int} (hv : scI T v) (hs : ∀ u ∈ st, scI T u) : ∀ u ∈ scO v b st, scI T u := by
  unfold scO
  intro u hu
  split at hu
  · rcases List.mem_cons.mp hu with rfl | hu
    · exact Or.inl rfl
    rcases List.mem_cons.mp hu with rfl | hu
    · exact hv
    rcases List.mem_cons.mp hu with rfl | hu
    · exact Or.inr (Or.inl rfl)
    exact hs u hu
  · rcases List.mem_cons.mp hu with rfl | hu
    · exact hv
    exact hs u hu
theorem scG_pos {T : List Int} (hT : isT T) {v : Int} (h : scI T v) : 1 ≤ scG T v := by
  unfold scG
  split
  · omega
  · rcases h with h | h | h
    · omega
    · omega
    · have := te_gt hT h.2
      omega
theorem scM_len {T : List Int} (hT : isT T) : ∀ st : List Int, (∀ u ∈ st, scI T u) → st.length ≤ scM T st := by
  intro st
  induction st with
  | nil => intro _; simp [scM]
  | cons v st ih =>
    intro h
    have h1 := scG_pos hT (h v (List.mem_cons_self ..))
    have h2 := ih (fun u hu => h u (List.mem_cons_of_mem _ hu))
    simp only [scM, List.length_cons]
    omega
theorem scG_n {T : List Int} (p : Nat) : scG T (p : Int) = 3 * (te T p - p) - 2 := by
  unfold scG
  rw [if_neg (by omega), Int.toNat_natCast]
theorem sc_step {T : List Int} (hT : isT T) (hk : tks T) {v : Int} {st : List Int} (hv : scI T v) (hs : ∀ u ∈ st, scI T u) : (∀ u ∈ scS T v st, scI T u) ∧ (scW T v).length + scM T (scS T v st) ≤ scG T v + scM T st ∧ 1 + scM T (scS T v st) ≤ scG T v + scM T st := by
  by_cases h0 : v < 0
  · have e1 : scS T v st = st := by unfold scS; rw [if_pos h0]
    have e2 : scW T v = [-v] := by unfold scW; rw [if_pos h0]
    have e3 : scG T v = 1 := by unfold scG; rw [if_pos h0]
    rw [e1, e2, e3]
    exact ⟨hs, by simp, by omega⟩
  · obtain ⟨p, rfl⟩ := Int.eq_ofNat_of_zero_le (show 0 ≤ v by omega)
    have hp : p < T.length := by
      rcases hv with h | h | h
      · omega
      · omega
      · simpa using h.2
    have hl := lat_i2 hp
    have hg := List.getElem?_eq_getElem hp
    have tg := te_gt hT hp
    have hn : ¬ ((p : Int) < 0) := h0
    rw [scG_n]
    unfold scS scW
    rw [if_neg hn, if_neg hn, hl]
    by_cases g1 : T[p] = 1
    · rw [if_pos g1, if_pos g1]
      obtain ⟨a1, a2, a3⟩ := te_2 hT hg (by rw [g1]; rfl)
      have t1 := te_gt hT a1
      have t2 := te_gt hT a2
      have i1 : scI T ((p : Int) + 1) := Or.inr (Or.inr ⟨by omega, by omega⟩)
      have eq : scQ T (p : Int) = ((te T (p + 1) : Nat) : Int) := by unfold scQ; rw [Int.toNat_natCast]
      have i2 : scI T (scQ T (p : Int)) := by rw [eq]; exact Or.inr (Or.inr ⟨by omega, by omega⟩)
      have m1 := scM_O (T := T) (v := (p : Int) + 1) (b := 1000 < lat T ((p : Int) + 1)) (st := scO (scQ T p) (lat T (scQ T p) = 1 ∨ 1000 < lat T (scQ T p)) st)
      have m2 := scM_O (T := T) (v := scQ T p) (b := lat T (scQ T p) = 1 ∨ 1000 < lat T (scQ T p)) (st := st)
      have g3 := scG_n (T := T) (p + 1)
      have g4 := scG_n (T := T) (te T (p + 1))
      rw [← eq] at g4
      rw [show ((p + 1 : Nat) : Int) = (p : Int) + 1 by omega] at g3
      refine ⟨scI_O i1 (scI_O i2 hs), ?_, ?_⟩
      · unfold scP; simp only [List.length_nil]; omega
      · unfold scP; omega
    · rw [if_neg g1, if_neg g1]
      by_cases g2 : 1000 < T[p]
      · rw [if_pos g2, if_pos g2]
        obtain ⟨a1, a2⟩ := te_1 hT hg (arT_b g2)
        have t1 := te_gt hT a1
        have g3 := scG_n (T := T) (p + 1)
        rw [show ((p + 1 : Nat) : Int) = (p : Int) + 1 by omega] at g3
        refine ⟨?_, ?_, ?_⟩
        · intro u hu
          rcases List.mem_cons.mp hu with rfl | hu
          · exact Or.inr (Or.inr ⟨by omega, by omega⟩)
          · exact hs u hu
        · simp only [scM, List.length_cons, List.length_nil]; omega
        · simp only [scM]; omega
      · rw [if_neg g2, if_neg g2]
        have := te_0 hT hg (arT_0 g1 g2)
        refine ⟨hs, ?_, ?_⟩
        · simp only [List.length_cons, List.length_nil]; omega
        · omega
