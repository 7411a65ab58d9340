/-! the shapes and pointers behind both constructors; the machine over them, where nothing is made and no pointer is written -/
def SH : aSh := [(9, 13), (3, 2), (20, 240), (22, 4), (3, 2), (20, 120), (3, 2), (20, 120), (3, 2), (20, 120), (3, 2), (20, 120), (22, 8), (3, 2), (20, 120), (3, 2), (20, 120), (3, 2), (20, 120), (3, 2), (20, 120), (3, 2), (20, 120), (3, 2), (20, 120), (3, 2), (20, 120), (3, 2), (20, 120), (21, 2), (1, 3), (22, 10), (3, 2), (20, 120), (3, 2), (20, 120), (3, 2), (20, 120), (3, 2), (20, 120), (3, 2), (20, 120), (3, 2), (20, 120), (3, 2), (20, 120), (3, 2), (20, 120), (3, 2), (20, 120), (3, 2), (20, 120), (20, 10), (3, 2), (20, 1032), (2, 5), (3, 2), (20, 241), (3, 2), (20, 241), (6, 2), (3, 2), (20, 120), (3, 2), (20, 120), (7, 4), (6, 2), (3, 2), (20, 1032), (3, 2), (20, 1032), (3, 2), (20, 1032), (3, 2), (20, 1032), (3, 2), (20, 1032), (0, 3), (3, 2), (20, 301), (3, 2), (20, 301), (8, 6), (3, 2), (20, 520), (3, 2), (20, 520), (3, 2), (20, 520), (3, 2), (20, 301), (3, 2), (20, 308), (6, 2), (3, 2), (20, 120), (3, 2), (20, 120), (4, 3), (6, 2), (3, 2), (20, 120), (3, 2), (20, 120), (3, 2), (20, 368), (3, 2), (20, 488), (5, 10), (3, 2), (20, 720), (3, 2), (20, 720), (3, 2), (20, 720), (3, 2), (20, 120), (3, 2), (20, 26), (3, 2), (20, 1448), (3, 2), (20, 720), (3, 2), (20, 201), (6, 2), (3, 2), (20, 120), (3, 2), (20, 120), (10, 37), (20, 6292), (21, 2), (20, 240), (20, 2200), (20, 2200), (20, 2200), (20, 242), (21, 242), (20, 4), (20, 640), (20, 640), (20, 640), (20, 640), (20, 1600), (20, 1600), (20, 1600), (21, 1600), (20, 26), (20, 120), (20, 4000), (20, 800), (20, 1600), (20, 200)]
def PTt : List (List Int) := [[1, 3, 12, 29, 30, 53, 55, 60, 65, 77, 98, 108, 0], [2, 0], [], [4, 6, 8, 10], [5, 0], [], [7, 0], [], [9, 0], [], [11, 0], [], [13, 15, 17, 19, 21, 23, 25, 27], [14, 0], [], [16, 0], [], [18, 0], [], [20, 0], [], [22, 0], [], [24, 0], [], [26, 0], [], [28, 0], [], [], [31, 52, 0], [32, 34, 36, 38, 40, 42, 44, 46, 48, 50], [33, 0], [], [35, 0], [], [37, 0], [], [39, 0], [], [41, 0], [], [43, 0], [], [45, 0], [], [47, 0], [], [49, 0], [], [51, 0], [], [], [54, 0], [], [56, 58, 0, 0, 0], [57, 0], [], [59, 0], [], [61, 63], [62, 0], [], [64, 0], [], [66, 71, 73, 75], [67, 69], [68, 0], [], [70, 0], [], [72, 0], [], [74, 0], [], [76, 0], [], [78, 80, 82], [79, 0], [], [81, 0], [], [83, 85, 87, 89, 91, 93], [84, 0], [], [86, 0], [], [88, 0], [], [90, 0], [], [92, 0], [], [94, 96], [95, 0], [], [97, 0], [], [99, 104, 106], [100, 102], [101, 0], [], [103, 0], [], [105, 0], [], [107, 0], [], [109, 111, 113, 115, 117, 119, 121, 123, 125, 0], [110, 0], [], [112, 0], [], [114, 0], [], [116, 0], [], [118, 0], [], [120, 0], [], [122, 0], [], [124, 0], [], [126, 128], [127, 0], [], [129, 0], [], [131, 0, 132, 133, 0, 0, 134, 0, 135, 0, 136, 0, 137, 138, 0, 0, 0, 139, 0, 0, 140, 141, 142, 0, 143, 144, 145, 146, 147, 0, 148, 149, 150, 151, 0, 152, 153], [], [], [], [], [], [], [], [], [], [], [], [], [], [], [], [], [], [], [], [], [], [], []]
def PT (a j : Nat) : Int := (PTt.getD a []).getD j 0
/-- references that never change: all but those in the array 31, the rows of what was -/
def isRf (a j : Nat) : Bool := match SH[a]? with
  | some q => !decide (a = 31) && ((decide (q.1 = 22) && decide (j < q.2)) || decide (fkd q.1 j = 2))
  | none => false
theorem sh31 : SH[31]? = some (22, 10) := by decide +kernel
def PTd (σ : aSg) (a j : Nat) : Int := if a = 31 then σ a j else PT a j
/-- the whole memory out of its numbers -/
def mkM (σ : aSg) : aSg := fun a j => if isRf a j = true then PT a j else σ a j
theorem mkM_n {σ : aSg} {a j : Nat} (h : isRf a j = false) : mkM σ a j = σ a j := by simp [mkM, h]
theorem mkM_r {σ : aSg} {a j : Nat} (h : isRf a j = true) : mkM σ a j = PT a j := by simp [mkM, h]
theorem isRf_o {a ci n j : Nat} (h : SH[a]? = some (ci, n)) (hc : ci ≠ 22) : isRf a j = decide (fkd ci j = 2) := by
  have h31 : ¬ a = 31 := fun e => by
    rw [e, sh31] at h
    cases h
    exact hc rfl
  simp [isRf, h, hc, h31]
theorem mkM_up {σ : aSg} {a j : Nat} {x : Int} (h : isRf a j = false) : aup (mkM σ) a j x = mkM (aup σ a j x) := by
  funext b i
  unfold aup mkM
  by_cases hb : b = a ∧ i = j
  · obtain ⟨rfl, rfl⟩ := hb
    simp [h]
  · simp [hb]
theorem mkM_upA {σ : aSg} {a : Nat} {f : Nat → Int} (h : ∀ j, isRf a j = false) : aupA (mkM σ) a f = mkM (aupA σ a f) := by
  funext b i
  unfold aupA mkM
  by_cases hb : b = a
  · subst hb
    simp [h]
  · simp [hb]
def putB (σ : aSg) (a j kd : Nat) (v : AV) : Option aSg := match v with
  | .inl x => if kd = 0 ∨ (kd = 1 ∧ (x = 0 ∨ x = 1)) then some (aup σ a j x) else none
  | _ => none
def nstep (me : aMe) (i : Instr) (st : List AV) (σ : aSg) : Option (List AV × aSg) := match i with
  | .getfield x => match lk tF me.1 x, st with
    | some (ci, j), .inr (.inl a) :: st' => if SH[a]? = some (ci, aN ci) then (if fkd ci j = 2 then (if 0 ≤ PT a j then some (.inr (.inl (PT a j).toNat) :: st', σ) else none) else some (.inl (σ a j) :: st', σ)) else none
    | _, _ => none
  | .putfield x => match lk tF me.1 x, st with
    | some (ci, j), v :: .inr (.inl a) :: st' => if SH[a]? = some (ci, aN ci) ∧ aFin ci j = false then (putB σ a j (fkd ci j) v).map (fun σ' => (st', σ')) else none
    | _, _ => none
  | .iaload => match st with
    | .inl i :: .inr (.inl a) :: st' => match SH[a]? with
      | some (20, n) => if 0 ≤ i ∧ i < n then some (.inl (σ a i.toNat) :: st', σ) else none
      | _ => none
    | _ => none
  | .baload => match st with
    | .inl i :: .inr (.inl a) :: st' => match SH[a]? with
      | some (21, n) => if 0 ≤ i ∧ i < n then some (.inl (σ a i.toNat) :: st', σ) else none
      | _ => none
    | _ => none
  | .aaload => match st with
    | .inl i :: .inr (.inl a) :: st' => match SH[a]? with
      | some (22, n) => if 0 ≤ i ∧ i < n ∧ 0 ≤ PTd σ a i.toNat then some (.inr (.inl (PTd σ a i.toNat).toNat) :: st', σ) else none
      | _ => none
    | _ => none
  | .iastore => match st with
    | .inl v :: .inl i :: .inr (.inl a) :: st' => match SH[a]? with
      | some (20, n) => if 0 ≤ i ∧ i < n then some (st', aup σ a i.toNat v) else none
      | _ => none
    | _ => none
  | .bastore => match st with
    | .inl v :: .inl i :: .inr (.inl a) :: st' => match SH[a]? with
      | some (21, n) => if 0 ≤ i ∧ i < n ∧ (v = 0 ∨ v = 1) then some (st', aup σ a i.toNat v) else none
      | _ => none
    | _ => none
  | .aastore => match st with
    | .inr (.inl v) :: .inl i :: .inr (.inl a) :: st' => match SH[a]?, SH[v]? with
      | some (22, n), some (3, _) => if a = 31 ∧ 0 ≤ i ∧ i < n then some (st', aup σ a i.toNat (v : Int)) else none
      | _, _ => none
    | _ => none
  | .arraylength => match st with
    | .inr (.inl a) :: st' => match SH[a]? with
      | some (kd, n) => if kd = 20 ∨ kd = 21 ∨ kd = 22 then some (.inl (n : Int) :: st', σ) else none
      | none => none
    | _ => none
  | .invokestatic x => match lk tPr me.1 x, st with
    | some 1, .inl b :: .inl a :: st' => if stcat st' ≤ 8 ∧ 1 ≤ me.2.2.2.2.2.1 then some (.inl (max a b) :: st', σ) else none
    | some 2, .inl b :: .inl a :: st' => if stcat st' ≤ 8 ∧ 1 ≤ me.2.2.2.2.2.1 then some (.inl (min a b) :: st', σ) else none
    | some 3, .inl n :: .inl dp :: .inr (.inl a1) :: .inl sp :: .inr (.inl a0) :: st' => match SH[a0]?, SH[a1]? with
      | some (20, n0), some (20, n1) => if stcat st' ≤ 8 ∧ 1 ≤ me.2.2.2.2.2.1 ∧ 0 ≤ sp ∧ 0 ≤ dp ∧ 0 ≤ n ∧ sp + n ≤ n0 ∧ dp + n ≤ n1 then some (st', aupA σ a1 (va_cpy (σ a0) (σ a1) sp.toNat dp.toNat n.toNat)) else none
      | _, _ => none
    | _, _ => none
  | _ => none
theorem isRf_20 {a n j : Nat} (h : SH[a]? = some (20, n)) : isRf a j = false := by rw [isRf_o h (by decide)]; simp [fkd, fK]
theorem isRf_21 {a n j : Nat} (h : SH[a]? = some (21, n)) : isRf a j = false := by rw [isRf_o h (by decide)]; simp [fkd, fK]
theorem isRf_22 {a n j : Nat} (h : SH[a]? = some (22, n)) (hj : j < n) (h31 : a ≠ 31) : isRf a j = true := by simp [isRf, h, hj, h31]
theorem isRf_31 {j : Nat} : isRf 31 j = false := by simp [isRf, sh31]
theorem mkM_d {σ : aSg} {a n j : Nat} (h : SH[a]? = some (22, n)) (hj : j < n) : mkM σ a j = PTd σ a j := by
  by_cases h31 : a = 31
  · subst h31
    rw [mkM_n isRf_31, PTd, if_pos rfl]
  · rw [mkM_r (isRf_22 h hj h31), PTd, if_neg h31]
theorem nstep_m {me : aMe} {i : Instr} {st st' : List AV} {σ σ' : aSg} (h : nstep me i st σ = some (st', σ')) : mstep me i st SH (mkM σ) = some (st', SH, mkM σ') := by
  unfold nstep at h
  split at h
  · split at h
    · rename_i x ci j a st1 hf
      split at h
      · rename_i hsh
        have hci : ci ≠ 22 := by have := (tF_of hf).choose_spec.2.2.2.2.2.1; omega
        unfold mstep
        simp only [hf]
        rw [if_pos hsh]
        split at h
        · rename_i hk
          rw [if_pos hk, mkM_r (by rw [isRf_o hsh hci]; simp [hk])]
          split at h
          · rename_i h0
            rw [if_pos h0]
            cases h
            rfl
          · cases h
        · rename_i hk
          cases h
          rw [if_neg hk, mkM_n (by rw [isRf_o hsh hci]; simp [hk])]
      · cases h
    · cases h
  · split at h
    · rename_i x ci j v a st1 hf
      split at h
      · rename_i hsh
        have hci : ci ≠ 22 := by have := (tF_of hf).choose_spec.2.2.2.2.2.1; omega
        unfold putB at h
        split at h
        · split at h
          · rename_i hk
            cases h
            unfold mstep
            simp only [hf]
            rw [if_pos ⟨hsh.1, Or.inl hsh.2⟩]
            unfold putA
            simp only
            rw [if_pos hk, mkM_up (by rw [isRf_o hsh.1 hci]; simp; omega)]
            rfl
          · cases h
        · cases h
      · cases h
    · cases h
  · split at h
    · rename_i i a st1
      split at h
      · rename_i n hsh
        split at h
        · rename_i hi
          cases h
          unfold mstep
          simp only [hsh]
          rw [if_pos hi, mkM_n (isRf_20 hsh)]
        · cases h
      · cases h
    · cases h
  · split at h
    · rename_i i a st1
      split at h
      · rename_i n hsh
        split at h
        · rename_i hi
          cases h
          unfold mstep
          simp only [hsh]
          rw [if_pos hi, mkM_n (isRf_21 hsh)]
        · cases h
      · cases h
    · cases h
  · split at h
    · rename_i i a st1
      split at h
      · rename_i n hsh
        split at h
        · rename_i hi
          cases h
          unfold mstep
          simp only [hsh]
          rw [mkM_d hsh (by omega), if_pos hi]
        · cases h
      · cases h
    · cases h
  · split at h
    · rename_i v i a st1
      split at h
      · rename_i n hsh
        split at h
        · rename_i hi
          cases h
          unfold mstep
          simp only [hsh]
          rw [if_pos hi, mkM_up (isRf_20 hsh)]
        · cases h
      · cases h
    · cases h
  · split at h
    · rename_i v i a st1
      split at h
      · rename_i n hsh
        split at h
        · rename_i hi
          cases h
          unfold mstep
          simp only [hsh]
          rw [if_pos hi, mkM_up (isRf_21 hsh)]
        · cases h
      · cases h
    · cases h
  · split at h
    · rename_i v i a st1
      split at h
      · rename_i n n2 hsh hv
        split at h
        · rename_i hi
          obtain ⟨rfl, hi⟩ := hi
          cases h
          unfold mstep
          simp only [hsh, hv]
          rw [if_pos hi, mkM_up isRf_31]
        · cases h
      · cases h
    · cases h
  · split at h
    · rename_i a st1
      split at h
      · rename_i kd n hsh
        split at h
        · rename_i hk
          cases h
          unfold mstep
          simp only [hsh]
          rw [if_pos hk]
        · cases h
      · cases h
    · cases h
  · split at h
    · rename_i x b a st1 hl
      split at h
      · rename_i hk
        cases h
        unfold mstep
        simp only [hl]
        rw [if_pos hk]
      · cases h
    · rename_i x b a st1 hl
      split at h
      · rename_i hk
        cases h
        unfold mstep
        simp only [hl]
        rw [if_pos hk]
      · cases h
    · rename_i x n dp a1 sp a0 st1 hl
      split at h
      · rename_i n0 n1 h0 h1
        split at h
        · rename_i hk
          cases h
          unfold mstep
          simp only [hl, h0, h1]
          rw [if_pos hk]
          have e0 : mkM σ a0 = σ a0 := by funext j; exact mkM_n (isRf_20 h0)
          have e1 : mkM σ a1 = σ a1 := by funext j; exact mkM_n (isRf_20 h1)
          rw [e0, e1, mkM_upA (fun j => isRf_20 h1)]
        · cases h
      · cases h
    · cases h
  · cases h
/-- the machine over numbers alone -/
def runN : Nat → aMe → Nat → List AV → List AV → aSg → Option (List AV × aSg)
  | 0, _, _, _, _, _ => none
  | n + 1, me, pc, ls, st, σ =>
    match adec me pc with
    | none => none
    | some (i, len) =>
      match pstep me.1 i ls st with
      | some (ls', st') => runN n me (pc + len) ls' st' σ
      | none => match bstep i pc len st with
        | some (pc', st') => runN n me pc' ls st' σ
        | none => match nstep me i st σ with
          | some (st', σ') => runN n me (pc + len) ls st' σ'
          | none => match mstep me i st SH (mkM σ) with
            | some _ => none
            | none => match cstep me i st SH with
              | some (k, me', args, rs) =>
                if k = kSign then (match args with
                  | [.inl x] => runN n me (pc + len) ls (.inl (signF x) :: rs) σ
                  | _ => none)
                else match runN n me' 0 (initL me'.2.2.2.1 args) [] σ with
                  | some (v, σ') => runN n me (pc + len) ls (v ++ rs) σ'
                  | none => none
              | none => match rstep me i st with
                | some v => some (v, σ)
                | none => none
theorem runN_run : ∀ (n : Nat) (me : aMe) (pc : Nat) (ls st : List AV) (σ : aSg) (v : List AV) (σ' : aSg), runN n me pc ls st σ = some (v, σ') → run n me pc ls st SH (mkM σ) = some (v, SH, mkM σ') := by
  intro n
  induction n with
  | zero => intro me pc ls st σ v σ' h; simp [runN] at h
  | succ n ih =>
    intro me pc ls st σ v σ' h
    unfold runN at h
    unfold run
    cases hd : adec me pc with
    | none => rw [hd] at h; cases h
    | some il =>
      obtain ⟨i, len⟩ := il
      rw [hd] at h
      simp only at h ⊢
      cases hp : pstep me.1 i ls st with
      | some q =>
        rw [hp] at h
        exact ih _ _ _ _ _ _ _ h
      | none =>
        rw [hp] at h
        simp only at h ⊢
        cases hb : bstep i pc len st with
        | some q =>
          rw [hb] at h
          exact ih _ _ _ _ _ _ _ h
        | none =>
          rw [hb] at h
          simp only at h ⊢
          cases hn : nstep me i st σ with
          | some q =>
            obtain ⟨st1, σ1⟩ := q
            rw [hn] at h
            rw [nstep_m hn]
            exact ih _ _ _ _ _ _ _ h
          | none =>
            rw [hn] at h
            simp only at h
            cases hm : mstep me i st SH (mkM σ) with
            | some q => rw [hm] at h; cases h
            | none =>
              rw [hm] at h
              simp only at h ⊢
              cases hc : cstep me i st SH with
              | some q =>
                obtain ⟨k, me1, as, rs⟩ := q
                rw [hc] at h
                simp only at h ⊢
                split at h
                · rename_i hk
                  rw [if_pos hk]
                  split at h
                  · exact ih _ _ _ _ _ _ _ h
                  · cases h
                · rename_i hk
                  rw [if_neg hk]
                  split at h
                  · rename_i v1 σ1 hr
                    rw [ih _ _ _ _ _ _ _ hr]
                    exact ih _ _ _ _ _ _ _ h
                  · cases h
              | none =>
                rw [hc] at h
                simp only at h ⊢
                split at h
                · rename_i v1 hr
                  cases h
                  rw [hr]
                · cases h
theorem runN_mono : ∀ (n : Nat) (me : aMe) (pc : Nat) (ls st : List AV) (σ : aSg) (r : List AV × aSg), runN n me pc ls st σ = some r → runN (n + 1) me pc ls st σ = some r := by
  intro n
  induction n with
  | zero => intro me pc ls st σ r h; simp [runN] at h
  | succ n ih =>
    intro me pc ls st σ r h
    unfold runN at h
    rw [runN]
    cases hd : adec me pc with
    | none => rw [hd] at h; cases h
    | some il =>
      obtain ⟨i, len⟩ := il
      rw [hd] at h
      simp only at h ⊢
      cases hp : pstep me.1 i ls st with
      | some q =>
        rw [hp] at h
        exact ih _ _ _ _ _ _ h
      | none =>
        rw [hp] at h
        simp only at h ⊢
        cases hb : bstep i pc len st with
        | some q =>
          rw [hb] at h
          exact ih _ _ _ _ _ _ h
        | none =>
          rw [hb] at h
          simp only at h ⊢
          cases hn : nstep me i st σ with
          | some q =>
            rw [hn] at h
            exact ih _ _ _ _ _ _ h
          | none =>
            rw [hn] at h
            simp only at h ⊢
            cases hm : mstep me i st SH (mkM σ) with
            | some q => rw [hm] at h; cases h
            | none =>
              rw [hm] at h
              simp only at h ⊢
              cases hc : cstep me i st SH with
              | some q =>
                obtain ⟨k, me1, as, rs⟩ := q
                rw [hc] at h
                simp only at h ⊢
                split at h
                · rename_i hk
                  rw [if_pos hk]
                  split at h
                  · exact ih _ _ _ _ _ _ h
                  · cases h
                · rename_i hk
                  rw [if_neg hk]
                  split at h
                  · rename_i v1 σ1 hr
                    rw [ih _ _ _ _ _ _ hr]
                    exact ih _ _ _ _ _ _ h
                  · cases h
              | none =>
                rw [hc] at h
                simp only at h ⊢
                split at h
                · rename_i v1 hr
                  cases h
                  first | rfl | rw [hr]
                · cases h
theorem runN_le {n m : Nat} (h : n ≤ m) {me : aMe} {pc : Nat} {ls st : List AV} {σ : aSg} {r : List AV × aSg} (hr : runN n me pc ls st σ = some r) : runN m me pc ls st σ = some r := by
  induction h with
  | refl => exact hr
  | step _ ih => exact runN_mono _ _ _ _ _ _ _ ih
/-- with some fuel the machine answers, and so -/
def WP (me : aMe) (pc : Nat) (ls st : List AV) (σ : aSg) (Q : List AV → aSg → Prop) : Prop := ∃ (n : Nat) (v : List AV) (σ' : aSg), runN n me pc ls st σ = some (v, σ') ∧ Q v σ'
/-- a call of a method -/
def CA (me : aMe) (as : List AV) (σ : aSg) (Q : List AV → aSg → Prop) : Prop := WP me 0 (initL me.2.2.2.1 as) [] σ Q
