/-! soundness, 3: values stay in range; branches -/
theorem vOk_mono {sh sh' : aSh} (h : sh.length ≤ sh'.length) {v : AV} (hv : vOk sh v) : vOk sh' v := by
  rcases v with x | a | x | u
  · exact hv
  · exact Nat.lt_of_lt_of_le hv h
  · exact hv
  · trivial
theorem set_ok {sh : aSh} {ls : List AV} {j : Nat} {v : AV} (hls : ∀ w ∈ ls, vOk sh w) (hv : vOk sh v) : ∀ w ∈ ls.set j v, vOk sh w := by
  intro w hw
  rcases List.mem_or_eq_of_mem_set hw with h | h
  · exact hls w h
  · rw [h]; exact hv
theorem bit_in (f : Int32 → Int32 → Int32) (a b : Int) : inI (bitA f a b) := i32_in _
set_option maxHeartbeats 1000000 in
theorem pstep_ok {oc : Nat} {i : Instr} {ls st ls' st' : List AV} {sh : aSh} (h : pstep oc i ls st = some (ls', st')) (hls : ∀ v ∈ ls, vOk sh v) (hst : ∀ v ∈ st, vOk sh v) : (∀ v ∈ ls', vOk sh v) ∧ (∀ v ∈ st', vOk sh v) ∧ ls'.length = ls.length := by
  have cons_ok : ∀ {v : AV} {t : List AV}, vOk sh v → (∀ w ∈ t, vOk sh w) → ∀ w ∈ v :: t, vOk sh w := by
    intro v t hv ht w hw
    rcases List.mem_cons.mp hw with h | h
    · rw [h]; exact hv
    · exact ht w h
  have P1 : ∀ {x : Int} {t : List AV}, (∀ w ∈ t, vOk sh w) → pushI x ls t = some (ls', st') → (∀ v ∈ ls', vOk sh v) ∧ (∀ v ∈ st', vOk sh v) ∧ ls'.length = ls.length := by
    intro x t ht hp
    obtain ⟨h1, rfl, rfl⟩ := pushI_of hp
    exact ⟨hls, cons_ok h1 ht, rfl⟩
  have P2 : ∀ {x : Int} {t : List AV}, (∀ w ∈ t, vOk sh w) → pushL x ls t = some (ls', st') → (∀ v ∈ ls', vOk sh v) ∧ (∀ v ∈ st', vOk sh v) ∧ ls'.length = ls.length := by
    intro x t ht hp
    obtain ⟨h1, rfl, rfl⟩ := pushL_of hp
    exact ⟨hls, cons_ok h1 ht, rfl⟩
  have T1 : ∀ {f : Int → Int → Option Int}, two f ls st = some (ls', st') → (∀ v ∈ ls', vOk sh v) ∧ (∀ v ∈ st', vOk sh v) ∧ ls'.length = ls.length := by
    intro f hf
    obtain ⟨a, b, r, rest, rfl, -, hr, rfl, rfl⟩ := two_of hf
    exact ⟨hls, cons_ok hr (fun w hw => hst w (by simp [hw])), rfl⟩
  have T2 : ∀ {f : Int → Int → Option Int}, twoL f ls st = some (ls', st') → (∀ v ∈ ls', vOk sh v) ∧ (∀ v ∈ st', vOk sh v) ∧ ls'.length = ls.length := by
    intro f hf
    obtain ⟨a, b, r, rest, rfl, -, hr, rfl, rfl⟩ := twoL_of hf
    exact ⟨hls, cons_ok hr (fun w hw => hst w (by simp [hw])), rfl⟩
  have L1 : ∀ {j : Nat}, ldI ls j st = some (ls', st') → (∀ v ∈ ls', vOk sh v) ∧ (∀ v ∈ st', vOk sh v) ∧ ls'.length = ls.length := by
    intro j hj
    obtain ⟨x, h1, rfl, rfl⟩ := ldI_of hj
    exact ⟨hls, cons_ok (hls _ (List.mem_of_getElem? h1)) hst, rfl⟩
  have L2 : ∀ {j : Nat}, ldR ls j st = some (ls', st') → (∀ v ∈ ls', vOk sh v) ∧ (∀ v ∈ st', vOk sh v) ∧ ls'.length = ls.length := by
    intro j hj
    obtain ⟨x, h1, rfl, rfl⟩ := ldR_of hj
    exact ⟨hls, cons_ok (hls _ (List.mem_of_getElem? h1)) hst, rfl⟩
  have L3 : ∀ {j : Nat}, ldL ls j st = some (ls', st') → (∀ v ∈ ls', vOk sh v) ∧ (∀ v ∈ st', vOk sh v) ∧ ls'.length = ls.length := by
    intro j hj
    obtain ⟨x, h1, rfl, rfl⟩ := ldL_of hj
    exact ⟨hls, cons_ok (hls _ (List.mem_of_getElem? h1)) hst, rfl⟩
  have S1 : ∀ {j : Nat} {t : List AV}, (∀ v ∈ t, vOk sh v) → stI ls j t = some (ls', st') → (∀ v ∈ ls', vOk sh v) ∧ (∀ v ∈ st', vOk sh v) ∧ ls'.length = ls.length := by
    intro j t ht hj
    obtain ⟨x, rfl, -, -, rfl⟩ := stI_of hj
    exact ⟨set_ok hls (ht _ (by simp)), fun w hw => ht w (by simp [hw]), by simp⟩
  have S2 : ∀ {j : Nat}, stR ls j st = some (ls', st') → (∀ v ∈ ls', vOk sh v) ∧ (∀ v ∈ st', vOk sh v) ∧ ls'.length = ls.length := by
    intro j hj
    obtain ⟨x, rfl, -, -, rfl⟩ := stR_of hj
    exact ⟨set_ok hls (hst _ (by simp)), fun w hw => hst w (by simp [hw]), by simp⟩
  have S3 : ∀ {j : Nat}, stL ls j st = some (ls', st') → (∀ v ∈ ls', vOk sh v) ∧ (∀ v ∈ st', vOk sh v) ∧ ls'.length = ls.length := by
    intro j hj
    obtain ⟨x, rfl, -, -, rfl⟩ := stL_of hj
    exact ⟨set_ok (set_ok hls (hst _ (by simp))) trivial, fun w hw => hst w (by simp [hw]), by simp⟩
  unfold pstep at h
  split at h
  · exact P1 hst h
  · split at h
    · rename_i hc
      cases h
      exact ⟨hls, cons_ok (show inI _ from ⟨by omega, by omega⟩) hst, rfl⟩
    · cases h
  · split at h
    · rename_i hc
      cases h
      exact ⟨hls, cons_ok (show inI _ from ⟨by omega, by omega⟩) hst, rfl⟩
    · cases h
  · rename_i k0
    cases h
    have := k0.isLt
    exact ⟨hls, cons_ok (show inL _ from ⟨by omega, by omega⟩) hst, rfl⟩
  · cases hk : lk tK oc _ with
    | none => rw [hk] at h; cases h
    | some v =>
      rw [hk, Option.bind_some] at h
      exact P1 hst h
  · cases hk : lk tKL oc _ with
    | none => rw [hk] at h; cases h
    | some v =>
      rw [hk, Option.bind_some] at h
      exact P2 hst h
  · exact L1 h
  · exact L1 h
  · exact L2 h
  · exact L2 h
  · exact L3 h
  · exact L3 h
  · exact S1 hst h
  · exact S1 hst h
  · exact S2 h
  · exact S2 h
  · exact S3 h
  · exact S3 h
  · split at h
    · split at h
      · rename_i hc
        exact S1 (cons_ok (show vOk sh (.inl _) from hc) hst) h
      · cases h
    · cases h
  · exact T1 h
  · exact T1 h
  · exact T1 h
  · exact T1 h
  · exact T1 h
  · exact T1 h
  · exact T1 h
  · exact T1 h
  · exact T1 h
  · split at h
    · exact P1 (fun w hw => hst w (by simp [hw])) h
    · cases h
  · exact T2 h
  · exact T2 h
  · split at h
    · cases h
      refine ⟨hls, cons_ok ?_ (fun w hw => hst w (by simp [hw])), rfl⟩
      show inI (cmpL _ _)
      unfold cmpL
      split
      · exact ⟨by omega, by omega⟩
      · split <;> exact ⟨by omega, by omega⟩
    · cases h
  · split at h
    · rename_i a rest
      cases h
      have ha : inI a := hst (.inl a) (by simp)
      exact ⟨hls, cons_ok (show inL _ from ⟨by have := ha.1; omega, by have := ha.2; omega⟩) (fun w hw => hst w (by simp [hw])), rfl⟩
    · cases h
  · split at h
    · exact P1 (fun w hw => hst w (by simp [hw])) h
    · cases h
  · split at h
    · cases h
      exact ⟨hls, cons_ok (hst _ (by simp)) hst, rfl⟩
    · cases h
      exact ⟨hls, cons_ok (hst _ (by simp)) hst, rfl⟩
    · cases h
  · split at h
    · cases h
      exact ⟨hls, fun w hw => hst w (by simp [hw]), rfl⟩
    · cases h
      exact ⟨hls, fun w hw => hst w (by simp [hw]), rfl⟩
    · cases h
  · cases h
theorem jump_of {pc pc' : Nat} {off : Int} {st st' : List AV} (h : jump pc off st = some (pc', st')) : (pc : Int) + off = (pc' : Int) ∧ st' = st := by
  unfold jump at h
  split at h
  · rename_i hc
    cases h
    exact ⟨by omega, rfl⟩
  · cases h
theorem bstep_ok {i : Instr} {pc len pc' : Nat} {st st' : List AV} (h : bstep i pc len st = some (pc', st')) : ∀ v ∈ st', v ∈ st := by
  unfold bstep at h
  split at h
  · split at h
    · obtain ⟨-, rfl⟩ := jump_of h; exact fun _ h => h
    · cases h
  · split at h
    · split at h
      · split at h
        · cases h; exact fun _ h => List.mem_cons_of_mem _ h
        · cases h; exact fun _ h => List.mem_cons_of_mem _ h
      · cases h
    · cases h
  · split at h
    · split at h
      · split at h
        · cases h; exact fun _ h => List.mem_cons_of_mem _ (List.mem_cons_of_mem _ h)
        · cases h; exact fun _ h => List.mem_cons_of_mem _ (List.mem_cons_of_mem _ h)
      · cases h
    · cases h
  · split at h
    · split at h
      · obtain ⟨-, rfl⟩ := jump_of h; exact fun _ h => List.mem_cons_of_mem _ h
      · rename_i lo _ offs _ x rest _
        cases ho : offs[(x - lo).toNat]? with
        | none => rw [ho] at h; cases h
        | some off =>
          rw [ho, Option.bind_some] at h
          obtain ⟨-, rfl⟩ := jump_of h; exact fun _ h => List.mem_cons_of_mem _ h
    · cases h
  · split at h
    · split at h
      · obtain ⟨-, rfl⟩ := jump_of h; exact fun _ h => List.mem_cons_of_mem _ h
      · cases h
    · cases h
  · cases h
section BS
variable {p : Program} {l : Launch} {e : Env} {R : Room} {s : State} {m : MethodId} {args : Array Value} {below : List Frame} {meth : Method} {c : Code} {H : Heap} {locs : List Loc} {cells slots : Nat} {Q : State → Prop}
variable {me : aMe} {A : Nat → Prop} {ad : Nat → Nat} {sh : aSh} {pc len pc' : Nat} {lsC : Array Slot} {st st' : List AV}
theorem cmp_w (hx : p.tables.exec = Jvm.exec) (hb : c.code = me.2.2.1) {k : ClassFile.Cond} {off : Int} {x y : Int} (ix : inI x) (iy : inI y) {rest : List Value} (hdg : decode me.2.2.1 pc = .ok (.if_icmp k off, 3)) {tgt : Nat} (ht : (pc : Int) + off = (tgt : Int))
    (kt : cmpA k x y = true → W p l e R s m args below meth c H locs cells slots Q (F0 m tgt lsC rest)) (kf : ¬ cmpA k x y = true → W p l e R s m args below meth c H locs cells slots Q (F0 m (pc + 3) lsC rest)) : W p l e R s m args below meth c H locs cells slots Q (F0 m pc lsC (.int (Int32.ofInt y) :: .int (Int32.ofInt x) :: rest)) := by
  cases k with
  | eq => exact lv_icmp_eq hx hb hdg ht (fun q => kt (by simpa [cmpA] using (o32_eq ix iy).mp q)) (fun q => kf (fun z => q ((o32_eq ix iy).mpr (by simpa [cmpA] using z))))
  | ne => exact lv_icmp_ne hx hb hdg ht (fun q => kt (by simp only [cmpA]; simpa using fun z => q ((o32_eq ix iy).mpr z))) (fun q => kf (fun z => by
      have h1 := (o32_eq ix iy).mp q
      simp [cmpA, h1] at z))
  | lt => exact lv_icmp_lt hx hb hdg ht (fun q => kt (by simpa [cmpA] using (o32_lt ix iy).mp q)) (fun q => kf (fun z => q ((o32_lt ix iy).mpr (by simpa [cmpA] using z))))
  | ge => exact lv_icmp_ge hx hb hdg ht (fun q => kt (by simpa [cmpA] using (o32_le iy ix).mp q)) (fun q => kf (fun z => q ((o32_le iy ix).mpr (by simpa [cmpA] using z))))
  | gt => exact lv_icmp_gt hx hb hdg ht (fun q => kt (by simpa [cmpA] using (o32_lt iy ix).mp q)) (fun q => kf (fun z => q ((o32_lt iy ix).mpr (by simpa [cmpA] using z))))
  | le => exact lv_icmp_le hx hb hdg ht (fun q => kt (by simpa [cmpA] using (o32_le ix iy).mp q)) (fun q => kf (fun z => q ((o32_le ix iy).mpr (by simpa [cmpA] using z))))
theorem if_w (hx : p.tables.exec = Jvm.exec) (hb : c.code = me.2.2.1) {k : ClassFile.Cond} {off : Int} {x : Int} (ix : inI x) {rest : List Value} (hdg : decode me.2.2.1 pc = .ok (.ifCond k off, 3)) {tgt : Nat} (ht : (pc : Int) + off = (tgt : Int))
    (kt : cmpA k x 0 = true → W p l e R s m args below meth c H locs cells slots Q (F0 m tgt lsC rest)) (kf : ¬ cmpA k x 0 = true → W p l e R s m args below meth c H locs cells slots Q (F0 m (pc + 3) lsC rest)) : W p l e R s m args below meth c H locs cells slots Q (F0 m pc lsC (.int (Int32.ofInt x) :: rest)) := by
  have iy : inI 0 := ⟨by decide, by decide⟩
  have e0 : (0 : Int32) = Int32.ofInt 0 := rfl
  cases k with
  | eq => exact lv_if_eq hx hb hdg ht (fun q => kt (by simpa [cmpA] using (o32_eq ix iy).mp q)) (fun q => kf (fun z => q ((o32_eq ix iy).mpr (by simpa [cmpA] using z))))
  | ne => exact lv_if_ne hx hb hdg ht (fun q => kt (by simp only [cmpA]; simpa using fun z => q ((o32_eq ix iy).mpr z))) (fun q => kf (fun z => by
      have h1 := (o32_eq ix iy).mp q
      simp [cmpA, h1] at z))
  | lt => exact lv_if_lt hx hb hdg ht (fun q => kt (by simpa [cmpA] using (o32_lt ix iy).mp q)) (fun q => kf (fun z => q ((o32_lt ix iy).mpr (by simpa [cmpA] using z))))
  | ge => exact lv_if_ge hx hb hdg ht (fun q => kt (by simpa [cmpA] using (o32_le iy ix).mp q)) (fun q => kf (fun z => q ((o32_le iy ix).mpr (by simpa [cmpA] using z))))
  | gt => exact lv_if_gt hx hb hdg ht (fun q => kt (by simpa [cmpA] using (o32_lt iy ix).mp q)) (fun q => kf (fun z => q ((o32_lt iy ix).mpr (by simpa [cmpA] using z))))
  | le => exact lv_if_le hx hb hdg ht (fun q => kt (by simpa [cmpA] using (o32_le ix iy).mp q)) (fun q => kf (fun z => q ((o32_le ix iy).mpr (by simpa [cmpA] using z))))
theorem bstep_sound (F : Fx p s m args meth c me A R) {i : Instr} (hd : adec me pc = some (i, len)) (h : bstep i pc len st = some (pc', st')) (hst : ∀ v ∈ st, vOk sh v)
    (kk : W p l e R s m args below meth c H locs cells slots Q (F0 m pc' lsC (mp ad st'))) : W p l e R s m args below meth c H locs cells slots Q (F0 m pc lsC (mp ad st)) := by
  obtain ⟨hx, hb, hml, hown, hts, -⟩ := F
  obtain ⟨hdg, hlen⟩ := adec_of hd
  unfold bstep at h
  split at h
  · split at h
    · rename_i hl
      subst hl
      obtain ⟨ht, rfl⟩ := jump_of h
      exact lv_goto hx hb hdg ht kk
    · cases h
  · split at h
    · rename_i k0 off0 _ x rest
      split at h
      · rename_i hl
        obtain ⟨rfl, hl⟩ := hl
        have ix : inI x := hst (.inl x) (by simp)
        refine if_w hx hb ix hdg (tgt := ((pc : Int) + off0).toNat) (by omega) (fun q => ?_) (fun q => ?_)
        · rw [if_pos q] at h; cases h; exact kk
        · rw [if_neg q] at h; cases h; exact kk
      · cases h
    · cases h
  · split at h
    · rename_i k0 off0 _ y x rest
      split at h
      · rename_i hl
        obtain ⟨rfl, hl⟩ := hl
        have ix : inI x := hst (.inl x) (by simp)
        have iy : inI y := hst (.inl y) (by simp)
        refine cmp_w hx hb ix iy hdg (tgt := ((pc : Int) + off0).toNat) (by omega) (fun q => ?_) (fun q => ?_)
        · rw [if_pos q] at h; cases h; exact kk
        · rw [if_neg q] at h; cases h; exact kk
      · cases h
    · cases h
  · split at h
    · rename_i d lo hi offs _ x rest
      have ix : inI x := hst (.inl x) (by simp)
      split at h
      · rename_i hc
        obtain ⟨ht, rfl⟩ := jump_of h
        exact lv_tableOut hx hb hdg (by rw [o32 ix]; exact hc) ht kk
      · rename_i hc
        cases ho : offs[(x - lo).toNat]? with
        | none => rw [ho] at h; cases h
        | some off =>
          rw [ho, Option.bind_some] at h
          obtain ⟨ht, rfl⟩ := jump_of h
          exact lv_tableIn hx hb hdg (by rw [o32 ix]; omega) (by rw [o32 ix]; omega) (by rw [o32 ix]; exact ho) ht kk
    · cases h
  · split at h
    · rename_i d ps _ x rest
      have ix : inI x := hst (.inl x) (by simp)
      split at h
      · rename_i hp
        obtain ⟨ht, rfl⟩ := jump_of h
        exact lv_lookup hx hb hdg hp (by rw [o32 ix]) ht kk
      · cases h
    · cases h
  · cases h
end BS
