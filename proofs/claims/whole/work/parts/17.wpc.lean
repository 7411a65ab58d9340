/-! calls and returns, as rows -/
section WPC
variable {me me' : aMe} {pc len pc' : Nat} {i : Instr} {ls st ls' st' rs as v : List AV} {σ σ' : aSg} {Q : List AV → aSg → Prop} {k md f : Nat} {x a b : Int} {r j : Nat}
theorem cstep_some (hf : cfind me i = some (k, md)) (hm : mtab[k]? = some me') (hp : popA (me'.2.2.2.2.2.2.1 + (if me'.2.2.2.2.2.2.2 = true then 0 else 1)) st = some (as, rs)) (hg : stcat rs ≤ 8 ∧ me'.2.2.2.2.2.1 < me.2.2.2.2.2.1 ∧ (flA as).length ≤ me'.2.2.2.1) (hr : me'.2.2.2.2.2.2.2 = true ∨ rcvOk SH me'.1 as = true) : cstep me i st SH = some (k, me', as, rs) := by
  simp only [cstep, hf, hm, hp]
  rw [if_pos ⟨hg.1, hg.2.1, hr, hg.2.2⟩]
theorem cstep_none (hf : cfind me i = some (k, md)) (hm : mtab[k]? = some me') (hp : popA (me'.2.2.2.2.2.2.1 + (if me'.2.2.2.2.2.2.2 = true then 0 else 1)) st = some (as, rs)) (hr : ¬ (me'.2.2.2.2.2.2.2 = true ∨ rcvOk SH me'.1 as = true)) : cstep me i st SH = none := by
  simp only [cstep, hf, hm, hp]
  rw [if_neg (fun z => hr z.2.2.1)]
theorem w_cV (hd : adec me pc = some (.invokevirtual f, 3)) (hl : lk tV me.1 f = some k) (hm : mtab[k]? = some me') (hs : me'.2.2.2.2.2.2.2 = false) (hp : popA (me'.2.2.2.2.2.2.1 + 1) st = some (.inr (.inl r) :: as, rs)) (hg : stcat rs ≤ 8 ∧ me'.2.2.2.2.2.1 < me.2.2.2.2.2.1 ∧ (flA (.inr (.inl r) :: as)).length ≤ me'.2.2.2.1) (hk : ¬ k = kSign) : WP me pc ls st σ Q = (isO r me'.1 ∧ CA me' (.inr (.inl r) :: as) σ (fun v σ' => WP me (pc + 3) ls (v ++ rs) σ' Q)) := by
  have hf : cfind me (.invokevirtual f) = some (k, 0) := by simp only [cfind, hl, Option.map_some]
  have hp' : popA (me'.2.2.2.2.2.2.1 + (if me'.2.2.2.2.2.2.2 = true then 0 else 1)) st = some (.inr (.inl r) :: as, rs) := by rw [hs]; exact hp
  by_cases h : SH[r]? = some (me'.1, aN me'.1)
  · rw [wp_c hd rfl rfl rfl rfl (cstep_some hf hm hp' hg (Or.inr (by simp [rcvOk, h]))) hk]
    simp [isO, h]
  · apply propext
    constructor
    · intro hw
      refine absurd hw (wp_s hd rfl rfl rfl (cstep_none hf hm hp' ?_) rfl)
      rw [hs]
      simp [rcvOk, h]
    · rintro ⟨h1, -⟩
      exact absurd h1 h
theorem w_cS (hd : adec me pc = some (.invokestatic f, 3)) (hpr : lk tPr me.1 f = none) (hf : cfind me (.invokestatic f) = some (k, md)) (hm : mtab[k]? = some me') (hs : me'.2.2.2.2.2.2.2 = true) (hp : popA me'.2.2.2.2.2.2.1 st = some (as, rs)) (hg : stcat rs ≤ 8 ∧ me'.2.2.2.2.2.1 < me.2.2.2.2.2.1 ∧ (flA as).length ≤ me'.2.2.2.1) (hk : ¬ k = kSign) : WP me pc ls st σ Q = CA me' as σ (fun v σ' => WP me (pc + 3) ls (v ++ rs) σ' Q) := by
  have hp' : popA (me'.2.2.2.2.2.2.1 + (if me'.2.2.2.2.2.2.2 = true then 0 else 1)) st = some (as, rs) := by rw [hs]; exact hp
  exact wp_c hd rfl rfl (by simp only [nstep, hpr]) (by simp only [mstep, hpr]) (cstep_some hf hm hp' hg (Or.inl hs)) hk
theorem w_cG (hd : adec me pc = some (.invokestatic f, 3)) (hpr : lk tPr me.1 f = none) (hf : cfind me (.invokestatic f) = some (k, md)) (hm : mtab[k]? = some me') (hs : me'.2.2.2.2.2.2.2 = true) (hp : popA me'.2.2.2.2.2.2.1 st = some ([.inl x], rs)) (hg : stcat rs ≤ 8 ∧ me'.2.2.2.2.2.1 < me.2.2.2.2.2.1 ∧ (flA [.inl x]).length ≤ me'.2.2.2.1) (hk : k = kSign) : WP me pc ls st σ Q = WP me (pc + 3) ls (.inl (signF x) :: rs) σ Q := by
  have hp' : popA (me'.2.2.2.2.2.2.1 + (if me'.2.2.2.2.2.2.2 = true then 0 else 1)) st = some ([.inl x], rs) := by rw [hs]; exact hp
  exact wp_g hd rfl rfl (by simp only [nstep, hpr]) (by simp only [mstep, hpr]) (cstep_some hf hm hp' hg (Or.inl hs)) hk
theorem w_ri (hd : adec me pc = some (.ireturn, len)) (hr : me.2.2.2.2.1 = some .int) : WP me pc ls [.inl x] σ Q = Q [.inl x] σ := wp_r hd rfl rfl rfl rfl rfl (by simp only [rstep]; rw [if_pos (Or.inl hr)])
theorem w_rz (hd : adec me pc = some (.ireturn, len)) (hr : me.2.2.2.2.1 = some .boolean) : WP me pc ls [.inl x] σ Q = ((x = 0 ∨ x = 1) ∧ Q [.inl x] σ) := by
  by_cases h : x = 0 ∨ x = 1
  · rw [wp_r hd rfl rfl rfl rfl rfl (by simp only [rstep]; rw [if_pos (Or.inr ⟨hr, h⟩)])]
    simp only [h, true_and]
  · apply propext
    constructor
    · intro hw
      refine absurd hw (wp_s hd rfl rfl rfl rfl ?_)
      simp only [rstep]
      rw [if_neg]
      rintro (z | z)
      · rw [hr] at z; cases z
      · exact h z.2
    · rintro ⟨h1, -⟩
      exact absurd h1 h
theorem w_rl (hd : adec me pc = some (.lreturn, len)) (hr : me.2.2.2.2.1 = some .long) : WP me pc ls [.inr (.inr (.inl x))] σ Q = Q [.inr (.inr (.inl x))] σ := wp_r hd rfl rfl rfl rfl rfl (by simp only [rstep]; rw [if_pos hr])
theorem w_rv (hd : adec me pc = some (.return_, len)) (hr : me.2.2.2.2.1 = none) : WP me pc ls [] σ Q = Q [] σ := wp_r hd rfl rfl rfl rfl rfl (by simp only [rstep]; rw [if_pos hr])
theorem w_ra {n : String} (hd : adec me pc = some (.areturn, len)) (hr : me.2.2.2.2.1 = some (.object n)) : WP me pc ls [.inr (.inl r)] σ Q = Q [.inr (.inl r)] σ := wp_r hd rfl rfl rfl rfl rfl (by simp only [rstep, hr])
theorem w_sw {tgt : Nat} (hd : adec me pc = some (i, len)) (h1 : pstep me.1 i ls (.inl x :: st) = none) (hb : bstep i pc len (.inl x :: st) = some (tgt, st)) : WP me pc ls (.inl x :: st) σ Q = WP me tgt ls st σ Q := wp_b hd h1 hb
theorem CA_mono {Q' : List AV → aSg → Prop} (h : ∀ v σ', Q v σ' → Q' v σ') : CA me as σ Q → CA me as σ Q' := fun ⟨n, v, σ', h1, h2⟩ => ⟨n, v, σ', h1, h v σ' h2⟩
theorem WP_mono {Q' : List AV → aSg → Prop} (h : ∀ v σ', Q v σ' → Q' v σ') : WP me pc ls st σ Q → WP me pc ls st σ Q' := fun ⟨n, v, σ', h1, h2⟩ => ⟨n, v, σ', h1, h v σ' h2⟩
end WPC
