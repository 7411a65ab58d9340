/-! soundness of the abstract machine, 1: values, worlds -/
def cv (ad : Nat → Nat) : AV → Value
  | .inl x => .int (Int32.ofInt x)
  | .inr (.inl a) => .ref (ad a)
  | .inr (.inr (.inl x)) => .long (Int64.ofInt x)
  | .inr (.inr (.inr _)) => .null
def vOk (sh : aSh) : AV → Prop
  | .inl x => inI x
  | .inr (.inl a) => a < sh.length
  | .inr (.inr (.inl x)) => inL x
  | .inr (.inr (.inr _)) => True
def isU : AV → Bool
  | .inr (.inr (.inr _)) => true
  | _ => false
def lvOf (ad : Nat → Nat) (ls : List AV) : List (Nat × Value) := (List.range ls.length).filterMap (fun j => match ls[j]? with
  | some v => if isU v = true then none else some (j, cv ad v)
  | none => none)
theorem mem_lvOf {ad : Nat → Nat} {ls : List AV} {q : Nat × Value} : q ∈ lvOf ad ls ↔ ∃ v, ls[q.1]? = some v ∧ isU v = false ∧ q.2 = cv ad v := by
  unfold lvOf
  rw [List.mem_filterMap]
  constructor
  · rintro ⟨j, hj, h⟩
    split at h
    · rename_i v hv
      split at h
      · cases h
      · rename_i hu
        cases h
        exact ⟨v, hv, by simpa using hu, rfl⟩
    · cases h
  · rintro ⟨v, hv, hu, he⟩
    refine ⟨q.1, List.mem_range.mpr (List.getElem?_eq_some_iff.mp hv).1, ?_⟩
    rw [hv]
    simp [hu, ← he]
abbrev LH (ad : Nat → Nat) (lsC : Array Slot) (nL : Nat) (ls : List AV) : Prop := lv_has lsC nL (lvOf ad ls)
theorem LH.at {ad : Nat → Nat} {lsC : Array Slot} {nL : Nat} {ls : List AV} (h : LH ad lsC nL ls) {j : Nat} {v : AV} (hv : ls[j]? = some v) (hu : isU v = false) : lsC[j]? = some (.val (cv ad v)) := h.2.2 (j, cv ad v) (mem_lvOf.mpr ⟨v, hv, hu, rfl⟩)
theorem cat_cv (ad : Nat → Nat) (v : AV) : ((cv ad v).category = 2) ↔ isL v = true := by
  rcases v with x | a | x | u <;> simp [cv, Value.category, isL]
/-- behind a store of one slot -/
theorem LH.set1 {ad : Nat → Nat} {lsC : Array Slot} {nL : Nat} {ls : List AV} {j : Nat} {v : AV} (hok : okSt ls j = true) (h : lv_has lsC nL ((j, cv ad v) :: (lvOf ad ls).filter (fun q => !(q.1 == j) && !(q.1 + 1 == j && q.2.category == 2)))) : LH ad lsC nL (ls.set j v) := by
  refine ⟨h.1, h.2.1, fun q hq => ?_⟩
  obtain ⟨w, hw, hu, he⟩ := mem_lvOf.mp hq
  by_cases hj : q.1 = j
  · subst hj
    have hl := (List.getElem?_eq_some_iff.mp hw).1
    rw [List.getElem?_set_self (by simpa using hl)] at hw
    cases hw
    have : q = (q.1, cv ad v) := by rw [← he]
    rw [this]
    exact h.2.2 _ List.mem_cons_self
  · rw [List.getElem?_set_ne (Ne.symm hj)] at hw
    refine h.2.2 q (List.mem_cons_of_mem _ (List.mem_filter.mpr ⟨mem_lvOf.mpr ⟨w, hw, hu, he⟩, ?_⟩))
    simp only [Bool.and_eq_true, Bool.not_eq_true', beq_eq_false_iff_ne, ne_eq, Bool.and_eq_false_imp, beq_iff_eq]
    refine ⟨hj, fun h1 => ?_⟩
    intro h2
    rw [he] at h2
    have hL := (cat_cv ad w).mp h2
    subst h1
    simp [okSt, hw, hL] at hok
theorem LH.set2 {ad : Nat → Nat} {lsC : Array Slot} {nL : Nat} {ls : List AV} {j : Nat} {v : AV} (hok : okSt ls j = true) (h : lv_has lsC nL ((j, cv ad v) :: (lvOf ad ls).filter (fun q => !(q.1 == j) && (!(q.1 == j + 1) && !(q.1 + 1 == j && q.2.category == 2))))) : LH ad lsC nL ((ls.set j v).set (j + 1) vU) := by
  refine ⟨h.1, h.2.1, fun q hq => ?_⟩
  obtain ⟨w, hw, hu, he⟩ := mem_lvOf.mp hq
  by_cases hj1 : q.1 = j + 1
  · rw [hj1] at hw
    have hl := (List.getElem?_eq_some_iff.mp hw).1
    rw [List.getElem?_set_self (by simpa using hl)] at hw
    cases hw
    simp [isU] at hu
  · rw [List.getElem?_set_ne (Ne.symm hj1)] at hw
    by_cases hj : q.1 = j
    · subst hj
      have hl := (List.getElem?_eq_some_iff.mp hw).1
      rw [List.getElem?_set_self (by simpa using hl)] at hw
      cases hw
      have : q = (q.1, cv ad v) := by rw [← he]
      rw [this]
      exact h.2.2 _ List.mem_cons_self
    · rw [List.getElem?_set_ne (Ne.symm hj)] at hw
      refine h.2.2 q (List.mem_cons_of_mem _ (List.mem_filter.mpr ⟨mem_lvOf.mpr ⟨w, hw, hu, he⟩, ?_⟩))
      simp only [Bool.and_eq_true, Bool.not_eq_true', beq_eq_false_iff_ne, ne_eq, Bool.and_eq_false_imp, beq_iff_eq]
      refine ⟨hj, hj1, fun h1 => ?_⟩
      intro h2
      rw [he] at h2
      have hL := (cat_cv ad w).mp h2
      subst h1
      simp [okSt, hw, hL] at hok
theorem o32 {x : Int} (h : inI x) : (Int32.ofInt x).toInt = x := Int32.toInt_ofInt_of_le h.1 (by have := h.2; omega)
theorem o64 {x : Int} (h : inL x) : (Int64.ofInt x).toInt = x := Int64.toInt_ofInt_of_le h.1 (by have := h.2; omega)
theorem o32_lt {x y : Int} (hx : inI x) (hy : inI y) : Int32.ofInt x < Int32.ofInt y ↔ x < y := by rw [Int32.lt_iff_toInt_lt, o32 hx, o32 hy]
theorem o32_le {x y : Int} (hx : inI x) (hy : inI y) : Int32.ofInt x ≤ Int32.ofInt y ↔ x ≤ y := by rw [Int32.le_iff_toInt_le, o32 hx, o32 hy]
theorem o32_eq {x y : Int} (hx : inI x) (hy : inI y) : Int32.ofInt x = Int32.ofInt y ↔ x = y := by rw [← Int32.toInt_inj, o32 hx, o32 hy]
theorem o64_lt {x y : Int} (hx : inL x) (hy : inL y) : Int64.ofInt x < Int64.ofInt y ↔ x < y := by rw [Int64.lt_iff_toInt_lt, o64 hx, o64 hy]
theorem o64_eq {x y : Int} (hx : inL x) (hy : inL y) : Int64.ofInt x = Int64.ofInt y ↔ x = y := by rw [← Int64.toInt_inj, o64 hx, o64 hy]
theorem o32_0 : Int32.ofInt 0 = 0 := rfl
theorem o32_cl {x : Int} (h : inI x) : (Int32.ofInt x).toNatClampNeg = x.toNat := Int32.toNatClampNeg_ofInt_of_le h.1 (by have := h.2; omega)
theorem o32_back (y : Int32) : Int32.ofInt y.toInt = y := Int32.ofInt_toInt y
theorem i32_in (y : Int32) : inI y.toInt := ⟨y.le_toInt, by have := y.toInt_lt; omega⟩
theorem o32_div {a b : Int} (ha : inI a) (hb : inI b) (h0 : 0 ≤ a) (h1 : 0 < b) : Int32.ofInt a / Int32.ofInt b = Int32.ofInt (a / b) := by
  rw [← Int.tdiv_eq_ediv_of_nonneg h0]
  exact (Int32.ofInt_tdiv (by exact ha.1) (by exact ha.2) (by exact hb.1) (by exact hb.2)).symm
theorem o32_rem {a b : Int} (ha : inI a) (hb : inI b) (h0 : 0 ≤ a) (h1 : 0 < b) : Int32.ofInt a - Int32.ofInt a / Int32.ofInt b * Int32.ofInt b = Int32.ofInt (a % b) := by
  rw [o32_div ha hb h0 h1, ← Int32.ofInt_mul, ← Int32.ofInt_sub]
  congr 1
  have := Int.emod_add_mul_ediv a b
  rw [Int.mul_comm] at this
  omega
theorem o64_div {a b : Int} (ha : inL a) (hb : inL b) (h0 : 0 ≤ a) (h1 : 0 < b) : Int64.ofInt a / Int64.ofInt b = Int64.ofInt (a / b) := by
  rw [← Int.tdiv_eq_ediv_of_nonneg h0]
  exact (Int64.ofInt_tdiv (by exact ha.1) (by exact ha.2) (by exact hb.1) (by exact hb.2)).symm
theorem o64_rem {a b : Int} (ha : inL a) (hb : inL b) (h0 : 0 ≤ a) (h1 : 0 < b) : Int64.ofInt a - Int64.ofInt a / Int64.ofInt b * Int64.ofInt b = Int64.ofInt (a % b) := by
  rw [o64_div ha hb h0 h1, ← Int64.ofInt_mul, ← Int64.ofInt_sub]
  congr 1
  have := Int.emod_add_mul_ediv a b
  rw [Int.mul_comm] at this
  omega
theorem o32_sh : ∀ k : Nat, k ≤ 30 → ((Int32.ofInt (k : Int) &&& 31).toBitVec.smod 32).toNat = k := by
  intro k hk
  have h : ∀ k : Fin 31, ((Int32.ofInt ((k : Nat) : Int) &&& 31).toBitVec.smod 32).toNat = (k : Nat) := by decide +kernel
  exact h ⟨k, by omega⟩
theorem o32_shl {a b : Int} (ha : 0 ≤ a) (h0 : 0 ≤ b) (h1 : b ≤ 30) (hr : inI (a * 2 ^ b.toNat)) : Int32.ofInt a <<< (Int32.ofInt b &&& 31) = Int32.ofInt (a * 2 ^ b.toNat) := by
  obtain ⟨n, rfl⟩ := Int.eq_ofNat_of_zero_le ha
  obtain ⟨k, rfl⟩ := Int.eq_ofNat_of_zero_le h0
  have e1 : Int32.ofInt (n : Int) = nI n := Int32.ofInt_eq_ofNat
  have hr2 := hr.2
  simp only [Int.toNat_natCast] at hr2 ⊢
  have hp : n * 2 ^ k < 2 ^ 32 := by
    have : ((n * 2 ^ k : Nat) : Int) ≤ 2147483647 := by push_cast; exact hr2
    omega
  rw [e1, pk_shlN _ k (o32_sh k (by omega)) hp]
  rw [show ((n : Int) * 2 ^ k) = ((n * 2 ^ k : Nat) : Int) by push_cast; rfl, Int32.ofInt_eq_ofNat]
  rfl
