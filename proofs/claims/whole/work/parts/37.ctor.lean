/-! both constructors, run by the kernel -/
def z0 : aSg := aupA (fun _ _ => 0) 0 (fdf 9)
def ctor1 : Option aR := run 4000 m86 0 [vR 0] [] [(9, 13)] z0
def ctor2 : Option aR := match ctor1 with
  | some (_, sh, σ) => run 4000 m126 0 [vR 130] [] (sh ++ [(10, 37)]) (aupA σ 130 (fdf 10))
  | none => none
def ck1 : Bool := match ctor1 with
  | some (v, sh, _) => decide (v = []) && decide (sh = SH.take 130)
  | none => false
def rfL : List (Nat × Nat) := (List.range 154).flatMap (fun a => ((List.range 37).filter (fun j => isRf a j)).map (fun j => (a, j)))
def zrL : List (Nat × Nat × Int) := ((List.range 154).filter (fun a => kdS a = 3)).map (fun a => (a, 1, 0)) ++ [(0, 12, -1), (30, 2, 0), (31, 0, 32), (31, 1, 34), (31, 2, 36), (31, 3, 38), (31, 4, 40), (31, 5, 42), (31, 6, 44), (31, 7, 46), (31, 8, 48), (31, 9, 50), (29, 0, 0), (29, 1, 0), (130, 1, 0), (130, 4, 0), (130, 5, -1), (132, 0, 0), (132, 1, 0), (131, 0, 0), (131, 121, 0), (131, 242, 0), (131, 363, 0)]
def ck2 : Bool := match ctor2 with
  | some (v, sh, σ) => decide (v = []) && decide (sh = SH) && rfL.all (fun q => decide (σ q.1 q.2 = PT q.1 q.2)) && zrL.all (fun q => decide (σ q.1 q.2.1 = q.2.2))
  | none => false
set_option maxRecDepth 100000 in
theorem ck1_ok : ck1 = true := by decide +kernel
set_option maxRecDepth 100000 in
theorem ck2_ok : ck2 = true := by decide +kernel
theorem ctor1_ok : ∃ σ1, ctor1 = some ([], SH.take 130, σ1) := by
  have h := ck1_ok
  unfold ck1 at h
  split at h
  · rename_i v sh σ hc
    simp only [Bool.and_eq_true, decide_eq_true_eq] at h
    obtain ⟨rfl, rfl⟩ := h
    exact ⟨σ, hc⟩
  · cases h
theorem ctor2_ok : ∃ σ1 σ2, ctor1 = some ([], SH.take 130, σ1) ∧ run 4000 m126 0 [vR 130] [] (SH.take 130 ++ [(10, 37)]) (aupA σ1 130 (fdf 10)) = some ([], SH, σ2) ∧ (∀ q ∈ rfL, σ2 q.1 q.2 = PT q.1 q.2) ∧ (∀ q ∈ zrL, σ2 q.1 q.2.1 = q.2.2) := by
  obtain ⟨σ1, h1⟩ := ctor1_ok
  have h := ck2_ok
  unfold ck2 at h
  split at h
  · rename_i v sh σ hc
    simp only [Bool.and_eq_true, decide_eq_true_eq, List.all_eq_true] at h
    obtain ⟨⟨⟨rfl, rfl⟩, h3⟩, h4⟩ := h
    refine ⟨σ1, σ, h1, ?_, h3, h4⟩
    unfold ctor2 at hc
    rw [h1] at hc
    exact hc
  · cases h
theorem rf_in {a j : Nat} (h : isRf a j = true) : (a, j) ∈ rfL := by
  have hb : ∀ a, a < 154 → ∀ q, SH[a]? = some q → (q.1 = 22 → q.2 ≤ 37) ∧ ((fK[q.1]?).getD []).length ≤ 37 := by
    intro a ha q hq
    have := (show ∀ q ∈ SH, (q.1 = 22 → q.2 ≤ 37) ∧ ((fK[q.1]?).getD []).length ≤ 37 by decide +kernel) q (List.mem_of_getElem? hq)
    exact this
  have ha : a < 154 := by
    unfold isRf at h
    cases hq : SH[a]? with
    | none => rw [hq] at h; cases h
    | some q => exact (List.getElem?_eq_some_iff.mp hq).1
  have hj : j < 37 := by
    have h' := h
    unfold isRf at h'
    cases hq : SH[a]? with
    | none => rw [hq] at h'; cases h'
    | some q =>
      obtain ⟨b1, b2⟩ := hb a ha q hq
      rw [hq] at h'
      simp only [Bool.or_eq_true, Bool.and_eq_true, decide_eq_true_eq] at h'
      rcases h'.2 with h' | h'
      · have := b1 h'.1; omega
      · apply Classical.byContradiction
        intro hn
        unfold fkd at h'
        rw [List.getD_eq_getElem?_getD, List.getElem?_eq_none (by omega)] at h'
        simp at h'
  unfold rfL
  refine List.mem_flatMap.mpr ⟨a, List.mem_range.mpr ha, List.mem_map.mpr ⟨j, List.mem_filter.mpr ⟨List.mem_range.mpr hj, h⟩, rfl⟩⟩
theorem mkM_id {σ : aSg} (h : ∀ q ∈ rfL, σ q.1 q.2 = PT q.1 q.2) : mkM σ = σ := by
  funext a j
  unfold mkM
  split
  · rename_i hr
    exact (h (a, j) (rf_in hr)).symm
  · rfl
/-- the state at the start -/
def S0 : SS := ([], fun _ => [], -1, [], fun _ => none)
theorem S0_ok : SOk S0 := ⟨by simp [tx, S0], fun c hc => by simp [tx, S0] at hc, fun s _ => Or.inl rfl, by simp [pa, S0], fun q hq => by simp [pa, S0] at hq, fun i f _ h => by simp [im, S0] at h, ⟨by decide, by decide⟩⟩
theorem start_ok {σ : aSg} (h : ∀ q ∈ zrL, σ q.1 q.2.1 = q.2.2) : RepC σ S0 ∧ RepM σ S0 := by
  have hz : ∀ r, isRow r → σ r 1 = 0 := by
    intro r hr
    have hk := row_kd hr
    have hr0 : r < 154 := by
      have := hr.1
      unfold isO at this
      exact (List.getElem?_eq_some_iff.mp this).1
    exact h (r, 1, 0) (List.mem_append_left _ (List.mem_map.mpr ⟨r, List.mem_filter.mpr ⟨List.mem_range.mpr hr0, by simpa using hk⟩, rfl⟩))
  have hv : ∀ r, isRow r → rv σ r = [] := fun r hr => by simp [rv, hz r hr]
  have g : ∀ a j x, (a, j, x) ∈ [((0 : Nat), (12 : Nat), (-1 : Int)), (30, 2, 0), (31, 0, 32), (31, 1, 34), (31, 2, 36), (31, 3, 38), (31, 4, 40), (31, 5, 42), (31, 6, 44), (31, 7, 46), (31, 8, 48), (31, 9, 50), (29, 0, 0), (29, 1, 0), (130, 1, 0), (130, 4, 0), (130, 5, -1), (132, 0, 0), (132, 1, 0), (131, 0, 0), (131, 121, 0), (131, 242, 0), (131, 363, 0)] → σ a j = x := fun a j x hx => h (a, j, x) (List.mem_append_right _ hx)
  have g31 : plG σ (fun j => j) := by
    intro j hj
    match j, hj with
    | 0, _ => exact g 31 0 32 (by decide)
    | 1, _ => exact g 31 1 34 (by decide)
    | 2, _ => exact g 31 2 36 (by decide)
    | 3, _ => exact g 31 3 38 (by decide)
    | 4, _ => exact g 31 4 40 (by decide)
    | 5, _ => exact g 31 5 42 (by decide)
    | 6, _ => exact g 31 6 44 (by decide)
    | 7, _ => exact g 31 7 46 (by decide)
    | 8, _ => exact g 31 8 48 (by decide)
    | 9, _ => exact g 31 9 50 (by decide)
  refine ⟨⟨fun r hr => by rw [hz r hr]; omega, S0_ok, hv 1 row1, fun s hs => hv _ (rowS hs), g 0 12 (-1) (by decide), ⟨fun j => j, ⟨fun j hj => hj, fun i j _ _ e => e⟩, g31, fun j q hq => by simp [pa, S0] at hq⟩, g 30 2 0 (by decide), fun i hi => Or.inl ⟨rfl, ?_⟩⟩, S0_ok, fun s hs => ⟨?_, fun k c hc => by simp [sv, S0] at hc⟩, g 130 1 0 (by decide), fun j q hq => by simp [pa, S0, snp] at hq, fun i hi => Or.inl ⟨rfl, ?_⟩, g 130 4 0 (by decide), fun k c hc => by simp [tx, S0] at hc, g 130 5 (-1) (by decide)⟩
  · match i, hi with
    | 0, _ => exact g 29 0 0 (by decide)
    | 1, _ => exact g 29 1 0 (by decide)
  · match s, hs with
    | 0, _ => exact g 131 0 0 (by decide)
    | 1, _ => exact g 131 121 0 (by decide)
    | 2, _ => exact g 131 242 0 (by decide)
    | 3, _ => exact g 131 363 0 (by decide)
  · match i, hi with
    | 0, _ => exact g 132 0 0 (by decide)
    | 1, _ => exact g 132 1 0 (by decide)
