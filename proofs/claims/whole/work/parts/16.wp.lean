/-! one row an instruction: what must hold ahead of it -/
section WPS
variable {me me' : aMe} {pc len pc' : Nat} {i : Instr} {ls st ls' st' rs as v : List AV} {σ σ' : aSg} {Q : List AV → aSg → Prop} {k : Nat} {x a b : Int} {r j : Nat}
theorem wp_p (hd : adec me pc = some (i, len)) (hp : pstep me.1 i ls st = some (ls', st')) : WP me pc ls st σ Q = WP me (pc + len) ls' st' σ Q := by
  apply propext
  constructor
  · rintro ⟨n, v, σ', h, hq⟩
    cases n with
    | zero => simp [runN] at h
    | succ n =>
      rw [runN] at h
      simp only [hd, hp] at h
      exact ⟨n, v, σ', h, hq⟩
  · rintro ⟨n, v, σ', h, hq⟩
    refine ⟨n + 1, v, σ', ?_, hq⟩
    rw [runN]
    simp only [hd, hp]
    exact h
theorem wp_b (hd : adec me pc = some (i, len)) (h1 : pstep me.1 i ls st = none) (hp : bstep i pc len st = some (pc', st')) : WP me pc ls st σ Q = WP me pc' ls st' σ Q := by
  apply propext
  constructor
  · rintro ⟨n, v, σ', h, hq⟩
    cases n with
    | zero => simp [runN] at h
    | succ n =>
      rw [runN] at h
      simp only [hd, h1, hp] at h
      exact ⟨n, v, σ', h, hq⟩
  · rintro ⟨n, v, σ', h, hq⟩
    refine ⟨n + 1, v, σ', ?_, hq⟩
    rw [runN]
    simp only [hd, h1, hp]
    exact h
theorem wp_n (hd : adec me pc = some (i, len)) (h1 : pstep me.1 i ls st = none) (h2 : bstep i pc len st = none) (hp : nstep me i st σ = some (st', σ')) : WP me pc ls st σ Q = WP me (pc + len) ls st' σ' Q := by
  apply propext
  constructor
  · rintro ⟨n, v, σ', h, hq⟩
    cases n with
    | zero => simp [runN] at h
    | succ n =>
      rw [runN] at h
      simp only [hd, h1, h2, hp] at h
      exact ⟨n, v, σ', h, hq⟩
  · rintro ⟨n, v, σ', h, hq⟩
    refine ⟨n + 1, v, σ', ?_, hq⟩
    rw [runN]
    simp only [hd, h1, h2, hp]
    exact h
theorem wp_s (hd : adec me pc = some (i, len)) (h1 : pstep me.1 i ls st = none) (h2 : bstep i pc len st = none) (h3 : nstep me i st σ = none) (h4 : cstep me i st SH = none) (h5 : rstep me i st = none) : ¬ WP me pc ls st σ Q := by
  rintro ⟨n, v, σ', h, hq⟩
  cases n with
  | zero => simp [runN] at h
  | succ n =>
    rw [runN] at h
    simp only [hd, h1, h2, h3, h4, h5] at h
    split at h <;> cases h
theorem wp_c (hd : adec me pc = some (i, len)) (h1 : pstep me.1 i ls st = none) (h2 : bstep i pc len st = none) (h3 : nstep me i st σ = none) (h4 : mstep me i st SH (mkM σ) = none) (hc : cstep me i st SH = some (k, me', as, rs)) (hk : ¬ k = kSign) : WP me pc ls st σ Q = CA me' as σ (fun v σ' => WP me (pc + len) ls (v ++ rs) σ' Q) := by
  apply propext
  constructor
  · rintro ⟨n, v, σ', h, hq⟩
    cases n with
    | zero => simp [runN] at h
    | succ n =>
      rw [runN] at h
      simp only [hd, h1, h2, h3, h4, hc] at h
      rw [if_neg hk] at h
      split at h
      · rename_i v1 σ1 hr
        exact ⟨n, v1, σ1, hr, n, v, σ', h, hq⟩
      · cases h
  · rintro ⟨n, v1, σ1, hr, n2, v, σ', h, hq⟩
    refine ⟨max n n2 + 1, v, σ', ?_, hq⟩
    rw [runN]
    simp only [hd, h1, h2, h3, h4, hc]
    rw [if_neg hk, runN_le (Nat.le_max_left n n2) hr]
    exact runN_le (Nat.le_max_right n n2) h
theorem wp_g (hd : adec me pc = some (i, len)) (h1 : pstep me.1 i ls st = none) (h2 : bstep i pc len st = none) (h3 : nstep me i st σ = none) (h4 : mstep me i st SH (mkM σ) = none) (hc : cstep me i st SH = some (k, me', [.inl x], rs)) (hk : k = kSign) : WP me pc ls st σ Q = WP me (pc + len) ls (.inl (signF x) :: rs) σ Q := by
  apply propext
  constructor
  · rintro ⟨n, v, σ', h, hq⟩
    cases n with
    | zero => simp [runN] at h
    | succ n =>
      rw [runN] at h
      simp only [hd, h1, h2, h3, h4, hc] at h
      rw [if_pos hk] at h
      exact ⟨n, v, σ', h, hq⟩
  · rintro ⟨n, v, σ', h, hq⟩
    refine ⟨n + 1, v, σ', ?_, hq⟩
    rw [runN]
    simp only [hd, h1, h2, h3, h4, hc]
    rw [if_pos hk]
    exact h
theorem wp_r (hd : adec me pc = some (i, len)) (h1 : pstep me.1 i ls st = none) (h2 : bstep i pc len st = none) (h3 : nstep me i st σ = none) (h4 : mstep me i st SH (mkM σ) = none) (hc : cstep me i st SH = none) (hr : rstep me i st = some v) : WP me pc ls st σ Q = Q v σ := by
  apply propext
  constructor
  · rintro ⟨n, v', σ', h, hq⟩
    cases n with
    | zero => simp [runN] at h
    | succ n =>
      rw [runN] at h
      simp only [hd, h1, h2, h3, h4, hc, hr] at h
      cases h
      exact hq
  · intro hq
    refine ⟨1, v, σ, ?_, hq⟩
    rw [runN]
    simp only [hd, h1, h2, h3, h4, hc, hr]
/-- a step with a guard -/
theorem wp_pg {G : Prop} [Decidable G] (hd : adec me pc = some (i, len)) (hp : G → pstep me.1 i ls st = some (ls', st')) (hn : ¬ G → pstep me.1 i ls st = none) (h2 : bstep i pc len st = none) (h3 : nstep me i st σ = none) (h4 : cstep me i st SH = none) (h5 : rstep me i st = none) : WP me pc ls st σ Q = (G ∧ WP me (pc + len) ls' st' σ Q) := by
  by_cases hg : G
  · rw [wp_p hd (hp hg)]
    simp [hg]
  · apply propext
    constructor
    · intro h
      exact absurd h (wp_s hd (hn hg) h2 h3 h4 h5)
    · rintro ⟨h, -⟩
      exact absurd h hg
theorem wp_ng {G : Prop} [Decidable G] (hd : adec me pc = some (i, len)) (h1 : pstep me.1 i ls st = none) (h2 : bstep i pc len st = none) (hp : G → nstep me i st σ = some (st', σ')) (hn : ¬ G → nstep me i st σ = none) (h4 : cstep me i st SH = none) (h5 : rstep me i st = none) : WP me pc ls st σ Q = (G ∧ WP me (pc + len) ls st' σ' Q) := by
  by_cases hg : G
  · rw [wp_n hd h1 h2 (hp hg)]
    simp [hg]
  · apply propext
    constructor
    · intro h
      exact absurd h (wp_s hd h1 h2 (hn hg) h4 h5)
    · rintro ⟨h, -⟩
      exact absurd h hg
-- numbers
theorem w_iconst {c : Int} (hd : adec me pc = some (.iconst c, len)) (hc : inI c) : WP me pc ls st σ Q = WP me (pc + len) ls (.inl c :: st) σ Q := wp_p hd (by simp only [pstep, pushI, if_pos hc])
theorem w_bipush {c : Int} (hd : adec me pc = some (.bipush c, len)) (hc : -128 ≤ c ∧ c ≤ 127) : WP me pc ls st σ Q = WP me (pc + len) ls (.inl c :: st) σ Q := wp_p hd (by simp only [pstep, if_pos hc])
theorem w_sipush {c : Int} (hd : adec me pc = some (.sipush c, len)) (hc : -32768 ≤ c ∧ c ≤ 32767) : WP me pc ls st σ Q = WP me (pc + len) ls (.inl c :: st) σ Q := wp_p hd (by simp only [pstep, if_pos hc])
theorem w_lconst {c : Fin 2} (hd : adec me pc = some (.lconst c, len)) : WP me pc ls st σ Q = WP me (pc + len) ls (.inr (.inr (.inl ((c : Nat) : Int))) :: st) σ Q := wp_p hd rfl
theorem w_ldc {j : Nat} {c : Int} (hd : adec me pc = some (.ldc j, len)) (hl : lk tK me.1 j = some c) (hc : inI c) : WP me pc ls st σ Q = WP me (pc + len) ls (.inl c :: st) σ Q := wp_p hd (by simp only [pstep, hl, Option.bind_some, pushI, if_pos hc])
theorem w_ldc2 {j : Nat} {c : Int} (hd : adec me pc = some (.ldc2_w j, len)) (hl : lk tKL me.1 j = some c) (hc : inL c) : WP me pc ls st σ Q = WP me (pc + len) ls (.inr (.inr (.inl c)) :: st) σ Q := wp_p hd (by simp only [pstep, hl, Option.bind_some, pushL, if_pos hc])
theorem w_ld (hd : adec me pc = some (i, len)) (hp : pstep me.1 i ls st = some (ls, st')) : WP me pc ls st σ Q = WP me (pc + len) ls st' σ Q := wp_p hd hp
theorem w_iadd (hd : adec me pc = some (.iadd, len)) : WP me pc ls (.inl b :: .inl a :: st) σ Q = (inI (a + b) ∧ WP me (pc + len) ls (.inl (a + b) :: st) σ Q) := wp_pg hd (fun h => by simp only [pstep, two, Option.bind_some, pushI, if_pos h]) (fun h => by simp only [pstep, two, Option.bind_some, pushI, if_neg h]) rfl rfl rfl rfl
theorem w_isub (hd : adec me pc = some (.isub, len)) : WP me pc ls (.inl b :: .inl a :: st) σ Q = (inI (a - b) ∧ WP me (pc + len) ls (.inl (a - b) :: st) σ Q) := wp_pg hd (fun h => by simp only [pstep, two, Option.bind_some, pushI, if_pos h]) (fun h => by simp only [pstep, two, Option.bind_some, pushI, if_neg h]) rfl rfl rfl rfl
theorem w_imul (hd : adec me pc = some (.imul, len)) : WP me pc ls (.inl b :: .inl a :: st) σ Q = (inI (a * b) ∧ WP me (pc + len) ls (.inl (a * b) :: st) σ Q) := wp_pg hd (fun h => by simp only [pstep, two, Option.bind_some, pushI, if_pos h]) (fun h => by simp only [pstep, two, Option.bind_some, pushI, if_neg h]) rfl rfl rfl rfl
theorem w_idiv (hd : adec me pc = some (.idiv, len)) : WP me pc ls (.inl b :: .inl a :: st) σ Q = ((0 ≤ a ∧ 0 < b ∧ inI (a / b)) ∧ WP me (pc + len) ls (.inl (a / b) :: st) σ Q) := wp_pg hd (fun h => by simp only [pstep, two, divA, if_pos (And.intro h.1 h.2.1), Option.bind_some, pushI, if_pos h.2.2]) (fun h => by
  simp only [pstep, two, divA]
  by_cases h1 : 0 ≤ a ∧ 0 < b
  · simp only [if_pos h1, Option.bind_some, pushI]
    rw [if_neg (fun z => h ⟨h1.1, h1.2, z⟩)]
  · simp only [if_neg h1, Option.bind_none]) rfl rfl rfl rfl
theorem w_irem (hd : adec me pc = some (.irem, len)) : WP me pc ls (.inl b :: .inl a :: st) σ Q = ((0 ≤ a ∧ 0 < b ∧ inI (a % b)) ∧ WP me (pc + len) ls (.inl (a % b) :: st) σ Q) := wp_pg hd (fun h => by simp only [pstep, two, remA, if_pos (And.intro h.1 h.2.1), Option.bind_some, pushI, if_pos h.2.2]) (fun h => by
  simp only [pstep, two, remA]
  by_cases h1 : 0 ≤ a ∧ 0 < b
  · simp only [if_pos h1, Option.bind_some, pushI]
    rw [if_neg (fun z => h ⟨h1.1, h1.2, z⟩)]
  · simp only [if_neg h1, Option.bind_none]) rfl rfl rfl rfl
theorem w_ishl (hd : adec me pc = some (.ishl, len)) : WP me pc ls (.inl b :: .inl a :: st) σ Q = (((0 ≤ a ∧ 0 ≤ b ∧ b ≤ 30) ∧ inI (a * 2 ^ b.toNat)) ∧ WP me (pc + len) ls (.inl (a * 2 ^ b.toNat) :: st) σ Q) := wp_pg hd (fun h => by simp only [pstep, two, shlA, if_pos h.1, Option.bind_some, pushI, if_pos h.2]) (fun h => by
  simp only [pstep, two, shlA]
  by_cases h1 : 0 ≤ a ∧ 0 ≤ b ∧ b ≤ 30
  · simp only [if_pos h1, Option.bind_some, pushI]
    rw [if_neg (fun z => h ⟨h1, z⟩)]
  · simp only [if_neg h1, Option.bind_none]) rfl rfl rfl rfl
theorem w_iand (hd : adec me pc = some (.iand, len)) : WP me pc ls (.inl b :: .inl a :: st) σ Q = WP me (pc + len) ls (.inl (bitA (· &&& ·) a b) :: st) σ Q := wp_p hd (by simp only [pstep, two, Option.bind_some, pushI, if_pos (bit_in _ a b)])
theorem w_ior (hd : adec me pc = some (.ior, len)) : WP me pc ls (.inl b :: .inl a :: st) σ Q = WP me (pc + len) ls (.inl (bitA (· ||| ·) a b) :: st) σ Q := wp_p hd (by simp only [pstep, two, Option.bind_some, pushI, if_pos (bit_in _ a b)])
theorem w_ixor (hd : adec me pc = some (.ixor, len)) : WP me pc ls (.inl b :: .inl a :: st) σ Q = WP me (pc + len) ls (.inl (bitA (· ^^^ ·) a b) :: st) σ Q := wp_p hd (by simp only [pstep, two, Option.bind_some, pushI, if_pos (bit_in _ a b)])
theorem w_ineg (hd : adec me pc = some (.ineg, len)) : WP me pc ls (.inl a :: st) σ Q = (inI (-a) ∧ WP me (pc + len) ls (.inl (-a) :: st) σ Q) := wp_pg hd (fun h => by simp only [pstep, pushI, if_pos h]) (fun h => by simp only [pstep, pushI, if_neg h]) rfl rfl rfl rfl
theorem w_lmul (hd : adec me pc = some (.lmul, len)) : WP me pc ls (.inr (.inr (.inl b)) :: .inr (.inr (.inl a)) :: st) σ Q = (inL (a * b) ∧ WP me (pc + len) ls (.inr (.inr (.inl (a * b))) :: st) σ Q) := wp_pg hd (fun h => by simp only [pstep, twoL, Option.bind_some, pushL, if_pos h]) (fun h => by simp only [pstep, twoL, Option.bind_some, pushL, if_neg h]) rfl rfl rfl rfl
theorem w_lrem (hd : adec me pc = some (.lrem, len)) : WP me pc ls (.inr (.inr (.inl b)) :: .inr (.inr (.inl a)) :: st) σ Q = ((0 ≤ a ∧ 0 < b ∧ inL (a % b)) ∧ WP me (pc + len) ls (.inr (.inr (.inl (a % b))) :: st) σ Q) := wp_pg hd (fun h => by simp only [pstep, twoL, remA, if_pos (And.intro h.1 h.2.1), Option.bind_some, pushL, if_pos h.2.2]) (fun h => by
  simp only [pstep, twoL, remA]
  by_cases h1 : 0 ≤ a ∧ 0 < b
  · simp only [if_pos h1, Option.bind_some, pushL]
    rw [if_neg (fun z => h ⟨h1.1, h1.2, z⟩)]
  · simp only [if_neg h1, Option.bind_none]) rfl rfl rfl rfl
theorem w_l2i (hd : adec me pc = some (.l2i, len)) : WP me pc ls (.inr (.inr (.inl a)) :: st) σ Q = (inI a ∧ WP me (pc + len) ls (.inl a :: st) σ Q) := wp_pg hd (fun h => by simp only [pstep, pushI, if_pos h]) (fun h => by simp only [pstep, pushI, if_neg h]) rfl rfl rfl rfl
-- locals
theorem w_st1 (hd : adec me pc = some (i, len)) (hp : pstep me.1 i ls (.inl x :: st) = stI ls j (.inl x :: st)) (hj : j < ls.length) (hn : okSt ls j = true) : WP me pc ls (.inl x :: st) σ Q = WP me (pc + len) (ls.set j (.inl x)) st σ Q := wp_p hd (by rw [hp, stI, if_pos ⟨hn, hj⟩])
theorem w_stL (hd : adec me pc = some (i, len)) (hp : pstep me.1 i ls (.inr (.inr (.inl x)) :: st) = stL ls j (.inr (.inr (.inl x)) :: st)) (hj : j + 1 < ls.length) (hn : okSt ls j = true) : WP me pc ls (.inr (.inr (.inl x)) :: st) σ Q = WP me (pc + len) ((ls.set j (.inr (.inr (.inl x)))).set (j + 1) vU) st σ Q := wp_p hd (by rw [hp, stL, if_pos ⟨hn, hj⟩])
theorem w_stR (hd : adec me pc = some (i, len)) (hp : pstep me.1 i ls (.inr (.inl r) :: st) = stR ls j (.inr (.inl r) :: st)) (hj : j < ls.length) (hn : okSt ls j = true) : WP me pc ls (.inr (.inl r) :: st) σ Q = WP me (pc + len) (ls.set j (.inr (.inl r))) st σ Q := wp_p hd (by rw [hp, stR, if_pos ⟨hn, hj⟩])
theorem w_iinc {c : Int} (hd : adec me pc = some (.iinc j c, len)) (hx : ls[j]? = some (.inl x)) (hn : okSt ls j = true) : WP me pc ls st σ Q = (inI (x + c) ∧ WP me (pc + len) (ls.set j (.inl (x + c))) st σ Q) := wp_pg hd (fun h => by
    simp only [pstep, hx]
    rw [if_pos h, stI, if_pos ⟨hn, (List.getElem?_eq_some_iff.mp hx).1⟩]) (fun h => by
    simp only [pstep, hx]
    rw [if_neg h]) rfl rfl rfl rfl
-- branches
theorem w_goto {off : Int} (hd : adec me pc = some (.goto off, 3)) (ht : (pc : Int) + off = (pc' : Int)) : WP me pc ls st σ Q = WP me pc' ls st σ Q := wp_b hd rfl (by
  simp only [bstep, if_true, jump]
  rw [if_pos (by omega), ht]
  rfl)
theorem w_if {c : ClassFile.Cond} {off : Int} {G : Prop} [Decidable G] (hd : adec me pc = some (.ifCond c off, 3)) (ht : (pc : Int) + off = (pc' : Int)) (hg : cmpA c x 0 = decide G) : WP me pc ls (.inl x :: st) σ Q = (if G then WP me pc' ls st σ Q else WP me (pc + 3) ls st σ Q) := by
  by_cases h : G
  · rw [if_pos h]
    refine wp_b hd rfl ?_
    simp only [bstep]
    rw [if_pos ⟨trivial, by omega⟩, hg, if_pos (by simp [h]), ht]
    rfl
  · rw [if_neg h]
    refine wp_b hd rfl ?_
    simp only [bstep]
    rw [if_pos ⟨trivial, by omega⟩, hg, if_neg (by simp [h])]
theorem w_ic {c : ClassFile.Cond} {off : Int} {G : Prop} [Decidable G] (hd : adec me pc = some (.if_icmp c off, 3)) (ht : (pc : Int) + off = (pc' : Int)) (hg : cmpA c a b = decide G) : WP me pc ls (.inl b :: .inl a :: st) σ Q = (if G then WP me pc' ls st σ Q else WP me (pc + 3) ls st σ Q) := by
  by_cases h : G
  · rw [if_pos h]
    refine wp_b hd rfl ?_
    simp only [bstep]
    rw [if_pos ⟨trivial, by omega⟩, hg, if_pos (by simp [h]), ht]
    rfl
  · rw [if_neg h]
    refine wp_b hd rfl ?_
    simp only [bstep]
    rw [if_pos ⟨trivial, by omega⟩, hg, if_neg (by simp [h])]
theorem w_ifeq {off : Int} (hd : adec me pc = some (.ifCond .eq off, 3)) (ht : (pc : Int) + off = (pc' : Int)) : WP me pc ls (.inl x :: st) σ Q = (if x = 0 then WP me pc' ls st σ Q else WP me (pc + 3) ls st σ Q) := w_if hd ht rfl
theorem w_ifne {off : Int} (hd : adec me pc = some (.ifCond .ne off, 3)) (ht : (pc : Int) + off = (pc' : Int)) : WP me pc ls (.inl x :: st) σ Q = (if x = 0 then WP me (pc + 3) ls st σ Q else WP me pc' ls st σ Q) := by
  rw [w_if (G := ¬ x = 0) hd ht (by simp [cmpA]; rfl)]
  by_cases h : x = 0 <;> simp [h]
theorem w_iflt {off : Int} (hd : adec me pc = some (.ifCond .lt off, 3)) (ht : (pc : Int) + off = (pc' : Int)) : WP me pc ls (.inl x :: st) σ Q = (if x < 0 then WP me pc' ls st σ Q else WP me (pc + 3) ls st σ Q) := w_if hd ht rfl
theorem w_ifge {off : Int} (hd : adec me pc = some (.ifCond .ge off, 3)) (ht : (pc : Int) + off = (pc' : Int)) : WP me pc ls (.inl x :: st) σ Q = (if 0 ≤ x then WP me pc' ls st σ Q else WP me (pc + 3) ls st σ Q) := w_if hd ht rfl
theorem w_ifgt {off : Int} (hd : adec me pc = some (.ifCond .gt off, 3)) (ht : (pc : Int) + off = (pc' : Int)) : WP me pc ls (.inl x :: st) σ Q = (if 0 < x then WP me pc' ls st σ Q else WP me (pc + 3) ls st σ Q) := w_if hd ht rfl
theorem w_ifle {off : Int} (hd : adec me pc = some (.ifCond .le off, 3)) (ht : (pc : Int) + off = (pc' : Int)) : WP me pc ls (.inl x :: st) σ Q = (if x ≤ 0 then WP me pc' ls st σ Q else WP me (pc + 3) ls st σ Q) := w_if hd ht rfl
theorem w_iceq {off : Int} (hd : adec me pc = some (.if_icmp .eq off, 3)) (ht : (pc : Int) + off = (pc' : Int)) : WP me pc ls (.inl b :: .inl a :: st) σ Q = (if a = b then WP me pc' ls st σ Q else WP me (pc + 3) ls st σ Q) := w_ic hd ht rfl
theorem w_icne {off : Int} (hd : adec me pc = some (.if_icmp .ne off, 3)) (ht : (pc : Int) + off = (pc' : Int)) : WP me pc ls (.inl b :: .inl a :: st) σ Q = (if a = b then WP me (pc + 3) ls st σ Q else WP me pc' ls st σ Q) := by
  rw [w_ic (G := ¬ a = b) hd ht (by simp [cmpA]; rfl)]
  by_cases h : a = b <;> simp [h]
theorem w_iclt {off : Int} (hd : adec me pc = some (.if_icmp .lt off, 3)) (ht : (pc : Int) + off = (pc' : Int)) : WP me pc ls (.inl b :: .inl a :: st) σ Q = (if a < b then WP me pc' ls st σ Q else WP me (pc + 3) ls st σ Q) := w_ic hd ht rfl
theorem w_icge {off : Int} (hd : adec me pc = some (.if_icmp .ge off, 3)) (ht : (pc : Int) + off = (pc' : Int)) : WP me pc ls (.inl b :: .inl a :: st) σ Q = (if b ≤ a then WP me pc' ls st σ Q else WP me (pc + 3) ls st σ Q) := w_ic hd ht rfl
theorem w_icgt {off : Int} (hd : adec me pc = some (.if_icmp .gt off, 3)) (ht : (pc : Int) + off = (pc' : Int)) : WP me pc ls (.inl b :: .inl a :: st) σ Q = (if b < a then WP me pc' ls st σ Q else WP me (pc + 3) ls st σ Q) := w_ic hd ht rfl
theorem w_icle {off : Int} (hd : adec me pc = some (.if_icmp .le off, 3)) (ht : (pc : Int) + off = (pc' : Int)) : WP me pc ls (.inl b :: .inl a :: st) σ Q = (if a ≤ b then WP me pc' ls st σ Q else WP me (pc + 3) ls st σ Q) := w_ic hd ht rfl
-- memory
def isO (a c : Nat) : Prop := SH[a]? = some (c, aN c)
def kdS (a : Nat) : Nat := ((SH[a]?).getD (0, 0)).1
def ln (a : Nat) : Nat := ((SH[a]?).getD (0, 0)).2
def pt (a j : Nat) : Nat := (PT a j).toNat
theorem kd_at {a kd : Nat} (h : kdS a = kd) (h0 : kd ≠ 0) : SH[a]? = some (kd, ln a) := by
  unfold kdS at h
  unfold ln
  cases hq : SH[a]? with
  | none => rw [hq] at h; exact absurd h.symm h0
  | some q =>
    rw [hq] at h
    simp only [Option.getD_some] at h ⊢
    rw [← h]
theorem kd_of {a kd n : Nat} (h : SH[a]? = some (kd, n)) : kdS a = kd ∧ ln a = n := by simp [kdS, ln, h]
theorem w_getI {f c : Nat} {n : Nat} (hd : adec me pc = some (.getfield f, len)) (hl : lk tF me.1 f = some (c, n)) (hk : ¬ fkd c n = 2) : WP me pc ls (.inr (.inl r) :: st) σ Q = (isO r c ∧ WP me (pc + len) ls (.inl (σ r n) :: st) σ Q) := by
  have : Decidable (isO r c) := by unfold isO; infer_instance
  exact wp_ng hd rfl rfl (fun h => by simp only [nstep, hl]; rw [if_pos (show SH[r]? = some (c, aN c) from h), if_neg hk]) (fun h => by simp only [nstep, hl]; rw [if_neg (show ¬ SH[r]? = some (c, aN c) from h)]) rfl rfl
theorem w_getR {f c : Nat} {n : Nat} (hd : adec me pc = some (.getfield f, len)) (hl : lk tF me.1 f = some (c, n)) (hk : fkd c n = 2) : WP me pc ls (.inr (.inl r) :: st) σ Q = ((isO r c ∧ 0 ≤ PT r n) ∧ WP me (pc + len) ls (.inr (.inl (pt r n)) :: st) σ Q) := by
  have : Decidable (isO r c) := by unfold isO; infer_instance
  exact wp_ng hd rfl rfl (fun h => by simp only [nstep, hl]; rw [if_pos (show SH[r]? = some (c, aN c) from h.1), if_pos hk, if_pos h.2]; rfl) (fun h => by
    simp only [nstep, hl]
    by_cases h1 : SH[r]? = some (c, aN c)
    · rw [if_pos h1, if_pos hk, if_neg (fun z => h ⟨h1, z⟩)]
    · rw [if_neg h1]) rfl rfl
theorem w_putI {f c : Nat} {n : Nat} (hd : adec me pc = some (.putfield f, len)) (hl : lk tF me.1 f = some (c, n)) (hf : aFin c n = false) (hk : fkd c n = 0) : WP me pc ls (.inl x :: .inr (.inl r) :: st) σ Q = (isO r c ∧ WP me (pc + len) ls st (aup σ r n x) Q) := by
  have : Decidable (isO r c) := by unfold isO; infer_instance
  exact wp_ng hd rfl rfl (fun h => by simp only [nstep, hl]; rw [if_pos ⟨h, hf⟩, putB, if_pos (Or.inl hk)]; rfl) (fun h => by simp only [nstep, hl]; rw [if_neg (fun z => h z.1)]) rfl rfl
theorem w_putZ {f c : Nat} {n : Nat} (hd : adec me pc = some (.putfield f, len)) (hl : lk tF me.1 f = some (c, n)) (hf : aFin c n = false) (hk : fkd c n = 1) : WP me pc ls (.inl x :: .inr (.inl r) :: st) σ Q = ((isO r c ∧ (x = 0 ∨ x = 1)) ∧ WP me (pc + len) ls st (aup σ r n x) Q) := by
  have : Decidable (isO r c) := by unfold isO; infer_instance
  exact wp_ng hd rfl rfl (fun h => by simp only [nstep, hl]; rw [if_pos ⟨h.1, hf⟩, putB, if_pos (Or.inr ⟨hk, h.2⟩)]; rfl) (fun h => by
    simp only [nstep, hl]
    by_cases h1 : SH[r]? = some (c, aN c)
    · rw [if_pos ⟨h1, hf⟩, putB, if_neg (fun z => ?_)]
      · rfl
      · rcases z with z | z
        · omega
        · exact h ⟨h1, z.2⟩
    · rw [if_neg (fun z => h1 z.1)]) rfl rfl
theorem w_iald (hd : adec me pc = some (.iaload, len)) : WP me pc ls (.inl x :: .inr (.inl r) :: st) σ Q = ((kdS r = 20 ∧ 0 ≤ x ∧ x < ln r) ∧ WP me (pc + len) ls (.inl (σ r x.toNat) :: st) σ Q) :=
  wp_ng hd rfl rfl (fun h => by simp only [nstep]; rw [kd_at h.1 (by decide)]; simp only; rw [if_pos h.2]) (fun h => by
    simp only [nstep]
    split
    · rename_i n hn
      rw [if_neg]
      obtain ⟨e1, e2⟩ := kd_of hn
      rw [← e2]
      exact fun z => h ⟨e1, z⟩
    · rfl) rfl rfl
theorem w_zald (hd : adec me pc = some (.baload, len)) : WP me pc ls (.inl x :: .inr (.inl r) :: st) σ Q = ((kdS r = 21 ∧ 0 ≤ x ∧ x < ln r) ∧ WP me (pc + len) ls (.inl (σ r x.toNat) :: st) σ Q) :=
  wp_ng hd rfl rfl (fun h => by simp only [nstep]; rw [kd_at h.1 (by decide)]; simp only; rw [if_pos h.2]) (fun h => by
    simp only [nstep]
    split
    · rename_i n hn
      rw [if_neg]
      obtain ⟨e1, e2⟩ := kd_of hn
      rw [← e2]
      exact fun z => h ⟨e1, z⟩
    · rfl) rfl rfl
theorem w_aald (hd : adec me pc = some (.aaload, len)) (h31 : r ≠ 31) : WP me pc ls (.inl x :: .inr (.inl r) :: st) σ Q = ((kdS r = 22 ∧ 0 ≤ x ∧ x < ln r ∧ 0 ≤ PT r x.toNat) ∧ WP me (pc + len) ls (.inr (.inl (pt r x.toNat)) :: st) σ Q) :=
  have e : PTd σ r x.toNat = PT r x.toNat := if_neg h31
  wp_ng hd rfl rfl (fun h => by simp only [nstep]; rw [kd_at h.1 (by decide)]; simp only; rw [e, if_pos h.2]; rfl) (fun h => by
    simp only [nstep]
    split
    · rename_i n hn
      rw [e, if_neg]
      obtain ⟨e1, e2⟩ := kd_of hn
      rw [← e2]
      exact fun z => h ⟨e1, z⟩
    · rfl) rfl rfl
/-- of the array 31 -/
theorem w_aaldD (hd : adec me pc = some (.aaload, len)) : WP me pc ls (.inl x :: .inr (.inl 31) :: st) σ Q = ((0 ≤ x ∧ x < 10 ∧ 0 ≤ σ 31 x.toNat) ∧ WP me (pc + len) ls (.inr (.inl (σ 31 x.toNat).toNat) :: st) σ Q) :=
  have e : PTd σ 31 x.toNat = σ 31 x.toNat := if_pos rfl
  wp_ng hd rfl rfl (fun h => by simp only [nstep]; rw [sh31]; simp only; rw [e, if_pos (show 0 ≤ x ∧ x < ((10 : Nat) : Int) ∧ 0 ≤ σ 31 x.toNat from h)]) (fun h => by
    simp only [nstep]
    rw [sh31]
    simp only
    rw [e, if_neg]
    exact h) rfl rfl
theorem w_aastD (hd : adec me pc = some (.aastore, len)) : WP me pc ls (.inr (.inl r) :: .inl x :: .inr (.inl 31) :: st) σ Q = ((kdS r = 3 ∧ 0 ≤ x ∧ x < 10) ∧ WP me (pc + len) ls st (aup σ 31 x.toNat (r : Int)) Q) :=
  wp_ng hd rfl rfl (fun h => by simp only [nstep]; rw [sh31, kd_at h.1 (by decide)]; simp only; rw [if_pos (show True ∧ 0 ≤ x ∧ x < ((10 : Nat) : Int) from ⟨trivial, h.2⟩)]) (fun h => by
    simp only [nstep]
    split
    · rename_i n n2 hn hv
      rw [sh31] at hn
      cases hn
      rw [if_neg]
      obtain ⟨e1, e2⟩ := kd_of hv
      exact fun z => h ⟨e1, z.2⟩
    · rfl) rfl rfl
theorem w_iast (hd : adec me pc = some (.iastore, len)) : WP me pc ls (.inl a :: .inl x :: .inr (.inl r) :: st) σ Q = ((kdS r = 20 ∧ 0 ≤ x ∧ x < ln r) ∧ WP me (pc + len) ls st (aup σ r x.toNat a) Q) :=
  wp_ng hd rfl rfl (fun h => by simp only [nstep]; rw [kd_at h.1 (by decide)]; simp only; rw [if_pos h.2]) (fun h => by
    simp only [nstep]
    split
    · rename_i n hn
      rw [if_neg]
      obtain ⟨e1, e2⟩ := kd_of hn
      rw [← e2]
      exact fun z => h ⟨e1, z⟩
    · rfl) rfl rfl
theorem w_zast (hd : adec me pc = some (.bastore, len)) : WP me pc ls (.inl a :: .inl x :: .inr (.inl r) :: st) σ Q = ((kdS r = 21 ∧ 0 ≤ x ∧ x < ln r ∧ (a = 0 ∨ a = 1)) ∧ WP me (pc + len) ls st (aup σ r x.toNat a) Q) :=
  wp_ng hd rfl rfl (fun h => by simp only [nstep]; rw [kd_at h.1 (by decide)]; simp only; rw [if_pos h.2]) (fun h => by
    simp only [nstep]
    split
    · rename_i n hn
      rw [if_neg]
      obtain ⟨e1, e2⟩ := kd_of hn
      rw [← e2]
      exact fun z => h ⟨e1, z⟩
    · rfl) rfl rfl
theorem w_alen (hd : adec me pc = some (.arraylength, len)) : WP me pc ls (.inr (.inl r) :: st) σ Q = ((kdS r = 20 ∨ kdS r = 21 ∨ kdS r = 22) ∧ WP me (pc + len) ls (.inl (ln r : Int) :: st) σ Q) :=
  wp_ng hd rfl rfl (fun h => by
    have h1 : SH[r]? = some (kdS r, ln r) := kd_at rfl (by omega)
    simp only [nstep]
    rw [h1]
    simp only
    rw [if_pos h]) (fun h => by
    simp only [nstep]
    split
    · rename_i kd n hn
      rw [if_neg]
      obtain ⟨e1, e2⟩ := kd_of hn
      rw [← e1]
      exact h
    · rfl) rfl rfl
theorem w_max {f : Nat} (hd : adec me pc = some (.invokestatic f, len)) (hl : lk tPr me.1 f = some 1) (hg : stcat st ≤ 8 ∧ 1 ≤ me.2.2.2.2.2.1) : WP me pc ls (.inl b :: .inl a :: st) σ Q = WP me (pc + len) ls (.inl (max a b) :: st) σ Q := wp_n hd rfl rfl (by simp only [nstep, hl]; rw [if_pos hg])
theorem w_min {f : Nat} (hd : adec me pc = some (.invokestatic f, len)) (hl : lk tPr me.1 f = some 2) (hg : stcat st ≤ 8 ∧ 1 ≤ me.2.2.2.2.2.1) : WP me pc ls (.inl b :: .inl a :: st) σ Q = WP me (pc + len) ls (.inl (min a b) :: st) σ Q := wp_n hd rfl rfl (by simp only [nstep, hl]; rw [if_pos hg])
theorem w_cpy {f : Nat} {n dp sp : Int} {a1 a0 : Nat} (hd : adec me pc = some (.invokestatic f, len)) (hl : lk tPr me.1 f = some 3) (hg : stcat st ≤ 8 ∧ 1 ≤ me.2.2.2.2.2.1) (hg2 : kdS a0 = 20 ∧ kdS a1 = 20 ∧ 0 ≤ sp ∧ 0 ≤ dp ∧ 0 ≤ n ∧ sp + n ≤ ln a0 ∧ dp + n ≤ ln a1) : WP me pc ls (.inl n :: .inl dp :: .inr (.inl a1) :: .inl sp :: .inr (.inl a0) :: st) σ Q = WP me (pc + len) ls st (aupA σ a1 (va_cpy (σ a0) (σ a1) sp.toNat dp.toNat n.toNat)) Q := wp_n hd rfl rfl (by
  simp only [nstep, hl]
  rw [kd_at hg2.1 (by decide), kd_at hg2.2.1 (by decide)]
  simp only
  rw [if_pos ⟨hg.1, hg.2, hg2.2.2⟩])
end WPS
