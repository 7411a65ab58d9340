/-! soundness, 7: what a run keeps -/
theorem cons_ok {sh : aSh} {v : AV} {t : List AV} (hv : vOk sh v) (ht : ∀ w ∈ t, vOk sh w) : ∀ w ∈ v :: t, vOk sh w := by
  intro w hw
  rcases List.mem_cons.mp hw with h | h
  · rw [h]; exact hv
  · exact ht w h
theorem all_mono {sh sh' : aSh} (h : sh.length ≤ sh'.length) {t : List AV} (ht : ∀ w ∈ t, vOk sh w) : ∀ w ∈ t, vOk sh' w := fun w hw => vOk_mono h (ht w hw)
theorem mOk_ref {sh : aSh} {σ : aSg} (hM : mOk sh σ) {a j : Nat} {q : Nat × Nat} (hq : sh[a]? = some q) (hk : q.1 = 22 ∨ fkd q.1 j = 2) (h0 : 0 ≤ σ a j) : vOk sh (.inr (.inl (σ a j).toNat)) := by
  have := hM.2.1 a q hq j hk
  show (σ a j).toNat < sh.length
  omega
set_option maxHeartbeats 2000000 in
theorem mstep_ok {me : aMe} {i : Instr} {st st' : List AV} {sh sh' : aSh} {σ σ' : aSg} (h : mstep me i st sh σ = some (st', sh', σ')) (hM : mOk sh σ) (hst : ∀ v ∈ st, vOk sh v) : mOk sh' σ' ∧ (∀ v ∈ st', vOk sh' v) ∧ ∃ ex, sh' = sh ++ ex := by
  have nx : ∃ ex, sh = sh ++ ex := ⟨[], by simp⟩
  have L0 := hM.2.2.1
  unfold mstep at h
  split at h
  · split at h
    · rename_i ci j a st1 hf
      have hs1 : ∀ w ∈ st1, vOk sh w := fun w hw => hst w (by simp [hw])
      split at h
      · rename_i hsh
        split at h
        · rename_i hk2
          split at h
          · rename_i h0
            cases h
            exact ⟨hM, cons_ok (mOk_ref hM hsh (Or.inr hk2) h0) hs1, nx⟩
          · cases h
        · cases h
          exact ⟨hM, cons_ok (show inI _ from hM.1 a j) hs1, nx⟩
      · cases h
    · cases h
  · split at h
    · rename_i ci j v a st1 hf
      have hs1 : ∀ w ∈ st1, vOk sh w := fun w hw => hst w (by simp [hw])
      split at h
      · rename_i hsh
        obtain ⟨r, hr, hj, hN, hw, hk, hci, hdecl⟩ := tF_of hf
        unfold putA at h
        split at h
        · rename_i y
          split at h
          · rename_i hc
            cases h
            refine ⟨mOk_up hM hsh.1 (hst (.inl y) (by simp)) (fun hh => ?_), hs1, nx⟩
            rcases hh with hh | hh
            · simp only at hh; omega
            · simp only at hh; omega
          · cases h
        · rename_i b
          split at h
          · cases h
            have hb1 : b < sh.length := hst (.inr (.inl b)) (by simp)
            exact ⟨mOk_up hM hsh.1 ⟨by omega, by omega⟩ (fun hh => by omega), hs1, nx⟩
          · cases h
        · cases h
      · cases h
    · cases h
  · split at h
    · rename_i i a st1
      have hs1 : ∀ w ∈ st1, vOk sh w := fun w hw => hst w (by simp [hw])
      split at h
      · split at h
        · cases h
          exact ⟨hM, cons_ok (show inI _ from hM.1 _ _) hs1, nx⟩
        · cases h
      · cases h
    · cases h
  · split at h
    · rename_i i a st1
      have hs1 : ∀ w ∈ st1, vOk sh w := fun w hw => hst w (by simp [hw])
      split at h
      · split at h
        · cases h
          exact ⟨hM, cons_ok (show inI _ from hM.1 _ _) hs1, nx⟩
        · cases h
      · cases h
    · cases h
  · split at h
    · rename_i i a st1
      have hs1 : ∀ w ∈ st1, vOk sh w := fun w hw => hst w (by simp [hw])
      split at h
      · rename_i n hsh
        split at h
        · rename_i hi
          cases h
          exact ⟨hM, cons_ok (mOk_ref hM hsh (Or.inl rfl) hi.2.2) hs1, nx⟩
        · cases h
      · cases h
    · cases h
  · split at h
    · rename_i v i a st1
      have hs1 : ∀ w ∈ st1, vOk sh w := fun w hw => hst w (by simp [hw])
      split at h
      · rename_i n hsh
        split at h
        · cases h
          exact ⟨mOk_up hM hsh (hst (.inl v) (by simp)) (fun hh => by rcases hh with hh | hh <;> simp [fkd, fK] at hh), hs1, nx⟩
        · cases h
      · cases h
    · cases h
  · split at h
    · rename_i v i a st1
      have hs1 : ∀ w ∈ st1, vOk sh w := fun w hw => hst w (by simp [hw])
      split at h
      · rename_i n hsh
        split at h
        · cases h
          exact ⟨mOk_up hM hsh (hst (.inl v) (by simp)) (fun hh => by rcases hh with hh | hh <;> simp [fkd, fK] at hh), hs1, nx⟩
        · cases h
      · cases h
    · cases h
  · split at h
    · rename_i v i a st1
      have hs1 : ∀ w ∈ st1, vOk sh w := fun w hw => hst w (by simp [hw])
      split at h
      · rename_i n n2 hsh hv
        split at h
        · cases h
          have hb1 : v < sh.length := hst (.inr (.inl v)) (by simp)
          exact ⟨mOk_up hM hsh ⟨by omega, by omega⟩ (fun hh => by omega), hs1, nx⟩
        · cases h
      · cases h
    · cases h
  · split at h
    · rename_i a st1
      have hs1 : ∀ w ∈ st1, vOk sh w := fun w hw => hst w (by simp [hw])
      split at h
      · rename_i kd n hsh
        split at h
        · cases h
          have := hM.2.2.2 _ _ hsh
          simp only at this
          exact ⟨hM, cons_ok (show inI _ from ⟨by omega, by omega⟩) hs1, nx⟩
        · cases h
      · cases h
    · cases h
  · split at h
    · rename_i ci hcl
      split at h
      · rename_i hl
        cases h
        obtain ⟨hci, -, -, -⟩ := pr_new _ (lk_mem hcl)
        dsimp only at hci
        refine ⟨mOk_push hM hl (fun j => by unfold fdf; split <;> exact ⟨by decide, by decide⟩) (fun j hj => ?_) (by
              have : ∀ c, c < 11 → aN c ≤ 100000 := by decide +kernel
              exact this ci hci), cons_ok (show sh.length < _ by simp) (all_mono (by simp) hst), _, rfl⟩
        rcases hj with hj | hj
        · simp only at hj; omega
        · simp only at hj; unfold fdf; rw [if_pos hj]; decide
      · cases h
    · cases h
  · split at h
    · split at h
      · rename_i hl
        cases h
        exact ⟨mOk_push hM hl.2.2 (fun j => ⟨by decide, by decide⟩) (fun j hj => by rcases hj with hj | hj <;> simp [fkd, fK] at hj) (by simp only; omega), cons_ok (show sh.length < _ by simp) (all_mono (by simp) (fun w hw => hst w (by simp [hw]))), _, rfl⟩
      · cases h
    · split at h
      · rename_i hl
        cases h
        exact ⟨mOk_push hM hl.2.2 (fun j => ⟨by decide, by decide⟩) (fun j hj => by rcases hj with hj | hj <;> simp [fkd, fK] at hj) (by simp only; omega), cons_ok (show sh.length < _ by simp) (all_mono (by simp) (fun w hw => hst w (by simp [hw]))), _, rfl⟩
      · cases h
    · cases h
  · split at h
    · split at h
      · rename_i hl
        cases h
        exact ⟨mOk_push hM hl.2.2 (fun j => ⟨by decide, by decide⟩) (fun j hj => by decide) (by simp only; omega), cons_ok (show sh.length < _ by simp) (all_mono (by simp) (fun w hw => hst w (by simp [hw]))), _, rfl⟩
      · cases h
    · cases h
  · split at h
    · split at h
      · cases h
        exact ⟨hM, fun w hw => hst w (by simp [hw]), nx⟩
      · cases h
    · cases h
  · split at h
    · rename_i b a st1 hcl
      have ia : inI a := hst (.inl a) (by simp)
      have ib : inI b := hst (.inl b) (by simp)
      split at h
      · cases h
        exact ⟨hM, cons_ok (show inI _ from ⟨by have := ia.1; have := ib.1; omega, by have := ia.2; have := ib.2; omega⟩) (fun w hw => hst w (by simp [hw])), nx⟩
      · cases h
    · rename_i b a st1 hcl
      have ia : inI a := hst (.inl a) (by simp)
      have ib : inI b := hst (.inl b) (by simp)
      split at h
      · cases h
        exact ⟨hM, cons_ok (show inI _ from ⟨by have := ia.1; have := ib.1; omega, by have := ia.2; have := ib.2; omega⟩) (fun w hw => hst w (by simp [hw])), nx⟩
      · cases h
    · split at h
      · rename_i n0 n1 h0 h1
        split at h
        · cases h
          exact ⟨mOk_set hM h1 (fun j => by unfold va_cpy; split; exact hM.1 _ _; exact hM.1 _ _) (fun j hh => by rcases hh with hh | hh <;> simp [fkd, fK] at hh), fun w hw => hst w (by simp [hw]), nx⟩
        · cases h
      · cases h
    · cases h
  · cases h
theorem popA_of {n : Nat} {st args rs : List AV} (h : popA n st = some (args, rs)) : st = args.reverse ++ rs ∧ args.length = n := by
  unfold popA at h
  split at h
  · rename_i hn
    cases h
    exact ⟨by simp, by simp; omega⟩
  · cases h
theorem cstep_of {me me' : aMe} {i : Instr} {st args rs : List AV} {sh : aSh} {k : Nat} (h : cstep me i st sh = some (k, me', args, rs)) : ∃ md, cfind me i = some (k, md) ∧ mtab[k]? = some me' ∧ st = args.reverse ++ rs ∧ args.length = me'.2.2.2.2.2.2.1 + (if me'.2.2.2.2.2.2.2 = true then 0 else 1) ∧ stcat rs ≤ 8 ∧ me'.2.2.2.2.2.1 < me.2.2.2.2.2.1 ∧ (me'.2.2.2.2.2.2.2 = true ∨ rcvOk sh me'.1 args = true) ∧ (flA args).length ≤ me'.2.2.2.1 := by
  unfold cstep at h
  split at h
  · rename_i k0 md hf
    split at h
    · rename_i me1 hm
      split at h
      · rename_i a0 r0 hp
        split at h
        · rename_i hc
          cases h
          obtain ⟨p1, p2⟩ := popA_of hp
          exact ⟨md, hf, hm, p1, p2, hc.1, hc.2.1, hc.2.2.1, hc.2.2.2⟩
        · cases h
      · cases h
    · cases h
  · cases h
theorem flA_ok {sh : aSh} {args : List AV} (h : ∀ v ∈ args, vOk sh v) : ∀ v ∈ flA args, vOk sh v := by
  intro v hv
  obtain ⟨w, hw, hv⟩ := List.mem_flatMap.mp hv
  split at hv
  · rcases List.mem_cons.mp hv with e | e
    · rw [e]; exact h w hw
    · rw [List.mem_singleton.mp e]; trivial
  · rw [List.mem_singleton.mp hv]; exact h w hw
theorem initL_ok {sh : aSh} {n : Nat} {args : List AV} (h : ∀ v ∈ args, vOk sh v) : ∀ v ∈ initL n args, vOk sh v := by
  intro v hv
  rcases List.mem_append.mp hv with h1 | h1
  · exact flA_ok h v h1
  · rw [(List.mem_replicate.mp h1).2]; trivial
theorem rstep_of {me : aMe} {i : Instr} {st v : List AV} (h : rstep me i st = some v) : v = st := by
  unfold rstep at h
  split at h
  · split at h
    · cases h; rfl
    · cases h
  · split at h
    · cases h; rfl
    · cases h
  · split at h
    · cases h; rfl
    · cases h
  · split at h
    · cases h; rfl
    · cases h; rfl
    · cases h
  · cases h
theorem signF_in (x : Int) : inI (signF x) := by
  unfold signF
  repeat' split
  all_goals exact ⟨by decide, by decide⟩
theorem run_ok : ∀ (n : Nat) (me : aMe) (pc : Nat) (ls st : List AV) (sh : aSh) (σ : aSg) (v : List AV) (sh' : aSh) (σ' : aSg), run n me pc ls st sh σ = some (v, sh', σ') → mOk sh σ → (∀ w ∈ ls, vOk sh w) → (∀ w ∈ st, vOk sh w) → mOk sh' σ' ∧ (∀ w ∈ v, vOk sh' w) ∧ ∃ ex, sh' = sh ++ ex := by
  intro n
  induction n with
  | zero => intro me pc ls st sh σ v sh' σ' h; simp [run] at h
  | succ n ih =>
    intro me pc ls st sh σ v sh' σ' h hM hls hst
    unfold run at h
    split at h
    · cases h
    · rename_i i len hd
      split at h
      · rename_i ls1 st1 hp
        obtain ⟨h1, h2, -⟩ := pstep_ok hp hls hst
        exact ih _ _ _ _ _ _ _ _ _ h hM h1 h2
      · split at h
        · rename_i pc1 st1 hb
          exact ih _ _ _ _ _ _ _ _ _ h hM hls (fun w hw => hst w (bstep_ok hb w hw))
        · split at h
          · rename_i st1 sh1 σ1 hm
            obtain ⟨h1, h2, ex, rfl⟩ := mstep_ok hm hM hst
            obtain ⟨g1, g2, ex2, rfl⟩ := ih _ _ _ _ _ _ _ _ _ h h1 (all_mono (by simp) hls) h2
            exact ⟨g1, g2, ex ++ ex2, by simp⟩
          · split at h
            · rename_i k me1 args rs hc
              obtain ⟨md, c1, c2, rfl, c4, c5, c6, c7, c8⟩ := cstep_of hc
              have hargs : ∀ w ∈ args, vOk sh w := fun w hw => hst w (by simp [hw])
              have hrs : ∀ w ∈ rs, vOk sh w := fun w hw => hst w (by simp [hw])
              split at h
              · split at h
                · exact ih _ _ _ _ _ _ _ _ _ h hM hls (cons_ok (signF_in _) hrs)
                · cases h
              · split at h
                · rename_i v1 sh1 σ1 hr
                  obtain ⟨h1, h2, ex, rfl⟩ := ih _ _ _ _ _ _ _ _ _ hr hM (initL_ok hargs) (fun w hw => by cases hw)
                  obtain ⟨g1, g2, ex2, rfl⟩ := ih _ _ _ _ _ _ _ _ _ h h1 (all_mono (by simp) hls) (fun w hw => by
                    rcases List.mem_append.mp hw with hw | hw
                    · exact h2 w hw
                    · exact vOk_mono (by simp) (hrs w hw))
                  exact ⟨g1, g2, ex ++ ex2, by simp⟩
                · cases h
            · split at h
              · rename_i v1 hr
                cases h
                rw [rstep_of hr]
                exact ⟨hM, hst, [], by simp⟩
              · cases h
theorem ssz_le (sh ex : aSh) : ssz sh ≤ ssz (sh ++ ex) := by simp [ssz]
theorem rstep_one {me : aMe} {i : Instr} {st v : List AV} (h : rstep me i st = some v) : v.length ≤ 1 := by
  have hv := rstep_of h
  subst hv
  unfold rstep at h
  split at h
  · simp
  · simp
  · simp
  · simp
  · cases h
theorem run_one : ∀ (n : Nat) (me : aMe) (pc : Nat) (ls st : List AV) (sh : aSh) (σ : aSg) (v : List AV) (sh' : aSh) (σ' : aSg), run n me pc ls st sh σ = some (v, sh', σ') → v.length ≤ 1 := by
  intro n
  induction n with
  | zero => intro me pc ls st sh σ v sh' σ' h; simp [run] at h
  | succ n ih =>
    intro me pc ls st sh σ v sh' σ' h
    unfold run at h
    split at h
    · cases h
    · split at h
      · exact ih _ _ _ _ _ _ _ _ _ h
      · split at h
        · exact ih _ _ _ _ _ _ _ _ _ h
        · split at h
          · exact ih _ _ _ _ _ _ _ _ _ h
          · split at h
            · split at h
              · split at h
                · exact ih _ _ _ _ _ _ _ _ _ h
                · cases h
              · split at h
                · exact ih _ _ _ _ _ _ _ _ _ h
                · cases h
            · split at h
              · rename_i v1 hr
                cases h
                exact rstep_one hr
              · cases h
