/-! the state of both sides -/
theorem ptS : ∀ s, s < 4 → pt 3 s = 4 + 2 * s ∧ 0 ≤ PT 3 s := by decide +kernel
theorem ptI : ∀ s, s < 8 → pt 12 s = 13 + 2 * s ∧ 0 ≤ PT 12 s := by decide +kernel
theorem rowS {s : Nat} (h : s < 4) : isRow (4 + 2 * s) := by
  match s, h with
  | 0, _ => exact row4
  | 1, _ => exact row6
  | 2, _ => exact row8
  | 3, _ => exact row10
theorem rowI {s : Nat} (h : s < 8) : isRow (13 + 2 * s) := by
  match s, h with
  | 0, _ => exact row13
  | 1, _ => exact row15
  | 2, _ => exact row17
  | 3, _ => exact row19
  | 4, _ => exact row21
  | 5, _ => exact row23
  | 6, _ => exact row25
  | 7, _ => exact row27
theorem rowP {s : Nat} (h : s < 10) : isRow (32 + 2 * s) := by
  match s, h with
  | 0, _ => exact row32
  | 1, _ => exact row34
  | 2, _ => exact row36
  | 3, _ => exact row38
  | 4, _ => exact row40
  | 5, _ => exact row42
  | 6, _ => exact row44
  | 7, _ => exact row46
  | 8, _ => exact row48
  | 9, _ => exact row50
theorem cpS : ∀ s, s < 4 → cp (4 + 2 * s) = 120 := by decide +kernel
theorem cpI : ∀ s, s < 8 → cp (13 + 2 * s) = 120 := by decide +kernel
theorem cpP : ∀ s, s < 10 → cp (32 + 2 * s) = 120 := by decide +kernel
/-- tokens: 1 puts, signs I K S B C as letters, names as letters, 1000 and a letter: a binder -/
def tok (c : Int) : Prop := c = 1 ∨ c = 73 ∨ c = 75 ∨ c = 83 ∨ c = 66 ∨ c = 67 ∨ (97 ≤ c ∧ c ≤ 122) ∨ (1097 ≤ c ∧ c ≤ 1122)
def arT (c : Int) : Nat := if c = 1 then 2 else if 1000 < c then 1 else 0
/-- n terms are taken from the front: what is left -/
def skp : Nat → List Int → Option (List Int)
  | 0, l => some l
  | _ + 1, [] => none
  | n + 1, c :: l => skp (n + arT c) l
def wfT (l : List Int) : Prop := skp 1 l = some [] ∧ ∀ c ∈ l, tok c
/-- a shelf: empty, or a term of 120 at most -/
def shOk (l : List Int) : Prop := l = [] ∨ (wfT l ∧ l.length ≤ 120)
abbrev SS : Type := List Int × (Nat → List Int) × Int × List (Nat × List Int) × (Nat → Option (Nat → List Int))
def tx (S : SS) : List Int := S.1
def sv (S : SS) : Nat → List Int := S.2.1
def fa (S : SS) : Int := S.2.2.1
def pa (S : SS) : List (Nat × List Int) := S.2.2.2.1
def im (S : SS) : Nat → Option (Nat → List Int) := S.2.2.2.2
def SOk (S : SS) : Prop := (tx S).length ≤ 240 ∧ (∀ c ∈ tx S, 0 ≤ c ∧ c ≤ 255) ∧ (∀ s, s < 4 → shOk (sv S s)) ∧ (pa S).length ≤ 10 ∧ (∀ q ∈ pa S, q.1 < 4 ∧ shOk q.2) ∧ (∀ i f, i < 2 → im S i = some f → ∀ s, s < 4 → shOk (f s)) ∧ inI (fa S)
/-- where the ten rows of what was stand in the array 31: each at one place -/
def onG (g : Nat → Nat) : Prop := (∀ j, j < 10 → g j < 10) ∧ ∀ i j, i < 10 → j < 10 → g i = g j → i = j
def plG (σ : aSg) (g : Nat → Nat) : Prop := ∀ j, j < 10 → σ 31 j = ((32 + 2 * g j : Nat) : Int)
/-- what was, the oldest at 0, the latest at the end -/
def ringC (σ : aSg) (g : Nat → Nat) (ps : List (Nat × List Int)) : Prop := ∀ (j : Nat) (q : Nat × List Int), ps[j]? = some q → σ 52 (ps.length - 1 - j) = (q.1 : Int) ∧ rv σ (32 + 2 * g (ps.length - 1 - j)) = q.2
def RepC (σ : aSg) (S : SS) : Prop := RK σ ∧ SOk S ∧ rv σ 1 = tx S ∧ (∀ s, s < 4 → rv σ (4 + 2 * s) = sv S s) ∧ σ 0 12 = fa S ∧ (∃ g : Nat → Nat, onG g ∧ plG σ g ∧ ringC σ g (pa S)) ∧ σ 30 2 = ((pa S).length : Int) ∧ (∀ i, i < 2 → (im S i = none ∧ σ 29 i = 0) ∨ ∃ f, im S i = some f ∧ σ 29 i = 1 ∧ ∀ s, s < 4 → rv σ (13 + 2 * (4 * i + s)) = f s)
theorem plG.keep {σ σ' : aSg} {g : Nat → Nat} (h : plG σ g) (h1 : σ' 31 = σ 31) : plG σ' g := fun j hj => by rw [h1]; exact h j hj
theorem ringC.keep {σ σ' : aSg} {g : Nat → Nat} {ps : List (Nat × List Int)} (h : ringC σ g ps) (hg : onG g) (hl : ps.length ≤ 10) (h1 : σ' 52 = σ 52) (h2 : ∀ k, k < 10 → rv σ' (32 + 2 * k) = rv σ (32 + 2 * k)) : ringC σ' g ps := by
  intro j q hq
  have hj := (List.getElem?_eq_some_iff.mp hq).1
  rw [h1, h2 _ (hg.1 _ (by omega))]
  exact h j q hq
/-- what lies behind 53 is for the day -/
theorem RepC.keep {σ σ' : aSg} {S : SS} (h : RepC σ S) (hk : RK σ') (hf : ∀ a, a < 53 → σ' a = σ a) : RepC σ' S := by
  obtain ⟨h1, h2, h3, h4, h5, ⟨g, h6, h7, h8⟩, h9, h10⟩ := h
  have rvk : ∀ r, r + 1 < 53 → rv σ' r = rv σ r := fun r hr => rv_same (hf r (by omega)) (hf (r + 1) hr)
  refine ⟨hk, h2, ?_, ?_, ?_, ⟨g, h6, h7.keep (hf 31 (by omega)), h8.keep h6 h2.2.2.2.1 (hf 52 (by omega)) (fun k hk => rvk _ (by omega))⟩, ?_, ?_⟩
  · rw [rvk 1 (by omega)]; exact h3
  · intro s hs
    rw [rvk _ (by omega)]; exact h4 s hs
  · rw [hf 0 (by omega)]; exact h5
  · rw [hf 30 (by omega)]; exact h9
  · intro i hi
    rw [hf 29 (by omega)]
    rcases h10 i hi with h | ⟨f, e1, e2, e3⟩
    · exact Or.inl h
    · refine Or.inr ⟨f, e1, e2, fun s hs => ?_⟩
      rw [rvk _ (by omega)]
      exact e3 s hs
/-- a side's part: nothing of the other side changes -/
abbrev FrC (σ σ' : aSg) : Prop := ∀ a, 130 ≤ a → σ' a = σ a
abbrev FrD (σ σ' : aSg) : Prop := ∀ a, a < 53 ∨ 130 ≤ a → σ' a = σ a
/-- what a method of the component does: its answer and the state behind it -/
def CC (k : aMe) (as : List AV) (σ : aSg) (x : Int) (S' : SS) : Prop := CA k as σ (fun v σ' => v = [.inl x] ∧ RepC σ' S' ∧ FrC σ σ')
section B1
variable {σ : aSg} {K : List AV → aSg → Prop} {x y i : Int}
theorem c113 : CA m113 [.inl x] σ K = K [.inl (if 0 ≤ x ∧ x < 4 then 1 else 0)] σ := by
  rw [e113]
  by_cases h0 : x < 0
  · simp (disch := omega) only [s113_0, s113_1, s113_4, s113_5, s113_6, s113_9, s113_10, s113_13, s113_14, List.cons_append, List.nil_append, if_true, if_false, true_and, and_true, and_self, eq_self, true_or, or_true, false_or, or_false, tIn, tLe, fLe, tLt, fLt, tEq, fEq, false_and]
  · by_cases h1 : x < 4
    · simp (disch := omega) only [s113_0, s113_1, s113_4, s113_5, s113_6, s113_9, s113_10, s113_13, s113_14, List.cons_append, List.nil_append, if_true, if_false, true_and, and_true, and_self, eq_self, true_or, or_true, false_or, or_false, tIn, tLe, fLe, tLt, fLt, tEq, fEq]
    · simp (disch := omega) only [s113_0, s113_1, s113_4, s113_5, s113_6, s113_9, s113_10, s113_13, s113_14, List.cons_append, List.nil_append, if_true, if_false, true_and, and_true, and_self, eq_self, true_or, or_true, false_or, or_false, tIn, tLe, fLe, tLt, fLt, tEq, fEq, and_false]
theorem c114 : CA m114 [.inl x] σ K = K [.inl (if 0 ≤ x ∧ x < 2 then 1 else 0)] σ := by
  rw [e114]
  by_cases h0 : x < 0
  · simp (disch := omega) only [s114_0, s114_1, s114_4, s114_5, s114_6, s114_9, s114_10, s114_13, s114_14, List.cons_append, List.nil_append, if_true, if_false, true_and, and_true, and_self, eq_self, true_or, or_true, false_or, or_false, tIn, tLe, fLe, tLt, fLt, tEq, fEq, false_and]
  · by_cases h1 : x < 2
    · simp (disch := omega) only [s114_0, s114_1, s114_4, s114_5, s114_6, s114_9, s114_10, s114_13, s114_14, List.cons_append, List.nil_append, if_true, if_false, true_and, and_true, and_self, eq_self, true_or, or_true, false_or, or_false, tIn, tLe, fLe, tLt, fLt, tEq, fEq]
    · simp (disch := omega) only [s114_0, s114_1, s114_4, s114_5, s114_6, s114_9, s114_10, s114_13, s114_14, List.cons_append, List.nil_append, if_true, if_false, true_and, and_true, and_self, eq_self, true_or, or_true, false_or, or_false, tIn, tLe, fLe, tLt, fLt, tEq, fEq, and_false]
theorem c115 : CA m115 [.inl x] σ K = K [.inl (if x = 0 ∨ x = 1 then 1 else 0)] σ := by
  rw [e115]
  by_cases h0 : x = 0
  · simp (disch := omega) only [s115_0, s115_1, s115_4, s115_5, s115_6, s115_9, s115_10, s115_13, s115_14, List.cons_append, List.nil_append, if_true, if_false, true_and, and_true, and_self, eq_self, true_or, or_true, false_or, or_false, tIn, tLe, fLe, tLt, fLt, tEq, fEq]
  · by_cases h1 : x = 1
    · simp (disch := omega) only [s115_0, s115_1, s115_4, s115_5, s115_6, s115_9, s115_10, s115_13, s115_14, List.cons_append, List.nil_append, if_true, if_false, true_and, and_true, and_self, eq_self, true_or, or_true, false_or, or_false, tIn, tLe, fLe, tLt, fLt, tEq, fEq]
    · simp (disch := omega) only [s115_0, s115_1, s115_4, s115_5, s115_6, s115_9, s115_10, s115_13, s115_14, List.cons_append, List.nil_append, if_true, if_false, true_and, and_true, and_self, eq_self, true_or, or_true, false_or, or_false, tIn, tLe, fLe, tLt, fLt, tEq, fEq]
theorem c116 : CA m116 [.inl x] σ K = K [.inl (if 97 ≤ x ∧ x ≤ 122 then 1 else 0)] σ := by
  rw [e116]
  by_cases h0 : x < 97
  · simp (disch := omega) only [s116_0, s116_1, s116_3, s116_6, s116_7, s116_9, s116_12, s116_13, s116_16, s116_17, List.cons_append, List.nil_append, if_true, if_false, true_and, and_true, and_self, eq_self, true_or, or_true, false_or, or_false, tIn, tLe, fLe, tLt, fLt, tEq, fEq, false_and]
  · by_cases h1 : x ≤ 122
    · simp (disch := omega) only [s116_0, s116_1, s116_3, s116_6, s116_7, s116_9, s116_12, s116_13, s116_16, s116_17, List.cons_append, List.nil_append, if_true, if_false, true_and, and_true, and_self, eq_self, true_or, or_true, false_or, or_false, tIn, tLe, fLe, tLt, fLt, tEq, fEq]
    · simp (disch := omega) only [s116_0, s116_1, s116_3, s116_6, s116_7, s116_9, s116_12, s116_13, s116_16, s116_17, List.cons_append, List.nil_append, if_true, if_false, true_and, and_true, and_self, eq_self, true_or, or_true, false_or, or_false, tIn, tLe, fLe, tLt, fLt, tEq, fEq, and_false]
theorem c117 : CA m117 [.inl x] σ K = K [.inl (if 1000 < x then 1 else 0)] σ := by
  rw [e117]
  by_cases h0 : 1000 < x
  · simp (disch := omega) only [s117_0, s117_1, s117_4, s117_7, s117_8, s117_11, s117_12, List.cons_append, List.nil_append, if_true, if_false, true_and, and_true, and_self, eq_self, true_or, or_true, false_or, or_false, tIn, tLe, fLe, tLt, fLt, tEq, fEq]
  · simp (disch := omega) only [s117_0, s117_1, s117_4, s117_7, s117_8, s117_11, s117_12, List.cons_append, List.nil_append, if_true, if_false, true_and, and_true, and_self, eq_self, true_or, or_true, false_or, or_false, tIn, tLe, fLe, tLt, fLt, tEq, fEq]
theorem c118 (h : -100000 ≤ x ∧ x ≤ 100000) : CA m118 [.inl x] σ K = K [.inl (x - 1000)] σ := by
  rw [e118]
  simp (disch := omega) only [s118_0, s118_1, s118_4, s118_5, List.cons_append, List.nil_append, if_true, if_false, true_and, and_true, and_self, eq_self, true_or, or_true, false_or, or_false, tIn, tLe, fLe, tLt, fLt, tEq, fEq]
def wnt (c : Int) : Int := if c = 66 then 3 else if c = 67 then 3 else if c = 73 then 1 else if c = 75 then 2 else if c = 83 then 3 else 0
theorem c119 : CA m119 [.inl x] σ K = K [.inl (wnt x)] σ := by
  rw [e119]
  unfold wnt
  by_cases h1 : x = 66
  · simp (disch := omega) only [s119_0, s119_1, s119_52, s119_53, s119_54, s119_55, s119_56, s119_57, s119_58, s119_59, List.cons_append, List.nil_append, if_true, if_false, true_and, and_true, and_self, eq_self, true_or, or_true, false_or, or_false, tIn, tLe, fLe, tLt, fLt, tEq, fEq]
  by_cases h2 : x = 67
  · simp (disch := omega) only [s119_0, s119_1, s119_52, s119_53, s119_54, s119_55, s119_56, s119_57, s119_58, s119_59, List.cons_append, List.nil_append, if_true, if_false, true_and, and_true, and_self, eq_self, true_or, or_true, false_or, or_false, tIn, tLe, fLe, tLt, fLt, tEq, fEq]
  by_cases h3 : x = 73
  · simp (disch := omega) only [s119_0, s119_1, s119_52, s119_53, s119_54, s119_55, s119_56, s119_57, s119_58, s119_59, List.cons_append, List.nil_append, if_true, if_false, true_and, and_true, and_self, eq_self, true_or, or_true, false_or, or_false, tIn, tLe, fLe, tLt, fLt, tEq, fEq]
  by_cases h4 : x = 75
  · simp (disch := omega) only [s119_0, s119_1, s119_52, s119_53, s119_54, s119_55, s119_56, s119_57, s119_58, s119_59, List.cons_append, List.nil_append, if_true, if_false, true_and, and_true, and_self, eq_self, true_or, or_true, false_or, or_false, tIn, tLe, fLe, tLt, fLt, tEq, fEq]
  by_cases h5 : x = 83
  · simp (disch := omega) only [s119_0, s119_1, s119_52, s119_53, s119_54, s119_55, s119_56, s119_57, s119_58, s119_59, List.cons_append, List.nil_append, if_true, if_false, true_and, and_true, and_self, eq_self, true_or, or_true, false_or, or_false, tIn, tLe, fLe, tLt, fLt, tEq, fEq]
  simp (disch := omega) only [s119_0, s119_1, s119_52, s119_53, s119_54, s119_55, s119_56, s119_57, s119_58, s119_59, List.cons_append, List.nil_append, if_true, if_false, true_and, and_true, and_self, eq_self, true_or, or_true, false_or, or_false, tIn, tLe, fLe, tLt, fLt, tEq, fEq]
theorem rs_ap {r a j : Nat} {l : List Int} (h1 : a ≠ r) (h2 : a ≠ r + 1) : (rs σ r l) a j = σ a j := by rw [rs_at h1 h2]
theorem aup_s {a j : Nat} {v : Int} : aup σ a j v a j = v := by simp [aup]
theorem aup_n1 {a j b k : Nat} {v : Int} (h : b ≠ a) : aup σ a j v b k = σ b k := by simp [aup, h]
theorem aup_n2 {a j b k : Nat} {v : Int} (h : k ≠ j) : aup σ a j v b k = σ b k := by simp [aup, h]
theorem aup_f {a j b : Nat} {v : Int} (h : b ≠ a) : aup σ a j v b = σ b := by funext k; simp [aup, h]
theorem rv_aup {a j r : Nat} {v : Int} (h1 : r ≠ a) (h2 : r + 1 ≠ a) : rv (aup σ a j v) r = rv σ r := rv_same (aup_f h1) (aup_f h2)
theorem RK_aup {a j : Nat} {v : Int} (h : RK σ) (ha : kdS a ≠ 3) : RK (aup σ a j v) := by
  intro r hr
  have := row_kd hr
  rw [aup_n1 (fun e => ha (by rw [← e]; exact this))]
  exact h r hr
theorem c111 {s : Nat} (hs : s < 4) (hk : RK σ) : CA m111 [.inr (.inl 0), .inl (s : Int)] σ K = K [.inl (if rv σ (4 + 2 * s) = [] then 1 else 0)] σ := by
  rw [e111]
  have h1 := ptS s hs
  have hr := rowS hs
  have k3 := kd3
  have l3 := ln3
  by_cases h0 : rv σ (4 + 2 * s) = []
  · simp (disch := omega) only [s111_0, s111_1, s111_4, s111_7, s111_8, s111_11, s111_12, s111_13, s111_16, s111_19, s111_20, s111_23, s111_24, List.cons_append, List.nil_append, if_true, if_false, true_and, and_true, and_self, eq_self, true_or, or_true, false_or, or_false, tIn, tLe, fLe, tLt, fLt, tEq, fEq, rs_ap, aup_s, aup_n1, aup_n2, Int.toNat_natCast, c113, h1.1, h1.2, k3, l3, hr.1, c28 hr hk, h0, List.length_nil, Int.natCast_zero]
  · have : 0 < (rv σ (4 + 2 * s)).length := List.length_pos_iff.mpr h0
    simp (disch := omega) only [s111_0, s111_1, s111_4, s111_7, s111_8, s111_11, s111_12, s111_13, s111_16, s111_19, s111_20, s111_23, s111_24, List.cons_append, List.nil_append, if_true, if_false, true_and, and_true, and_self, eq_self, true_or, or_true, false_or, or_false, tIn, tLe, fLe, tLt, fLt, tEq, fEq, rs_ap, aup_s, aup_n1, aup_n2, Int.toNat_natCast, c113, h1.1, h1.2, k3, l3, hr.1, c28 hr hk, h0]
end B1
