/-! soundness, 9: a run is the machine's -/
theorem lg_len (ad : Nat → Nat) (args : List AV) : (lg_sl (mp ad args)).length = (flA args).length := by
  induction args with
  | nil => rfl
  | cons a t ih =>
    have h1 : lg_sl (mp ad (a :: t)) = (if (cv ad a).category = 2 then [Slot.val (cv ad a), .second] else [Slot.val (cv ad a)]) ++ lg_sl (mp ad t) := by simp [lg_sl]
    have h2 : flA (a :: t) = (if isL a = true then [a, vU] else [a]) ++ flA t := by simp [flA]
    rw [h1, h2, List.length_append, List.length_append, ih]
    by_cases h : isL a = true
    · rw [if_pos ((cat_cv ad a).mpr h), if_pos h]; rfl
    · rw [if_neg (fun z => h ((cat_cv ad a).mp z)), if_neg h]; rfl
theorem flA_args (ad : Nat → Nat) : ∀ (args : List AV) (off j : Nat) (v : AV), (flA args)[j]? = some v → isU v = false → (off + j, cv ad v) ∈ lv_args off (mp ad args) := by
  intro args
  induction args with
  | nil => intro off j v h; simp [flA] at h
  | cons a t ih =>
    intro off j v h hu
    have h2 : flA (a :: t) = (if isL a = true then [a, vU] else [a]) ++ flA t := by simp [flA]
    rw [h2] at h
    show _ ∈ (off, cv ad a) :: lv_args (if (cv ad a).category = 2 then off + 2 else off + 1) (mp ad t)
    by_cases hL : isL a = true
    · rw [if_pos ((cat_cv ad a).mpr hL)]
      rw [if_pos hL] at h
      match j, h with
      | 0, h => cases h; exact List.mem_cons_self
      | 1, h => cases h; simp [isU] at hu
      | j + 2, h =>
        have h' : (flA t)[j]? = some v := by simpa using h
        have := ih (off + 2) j v h' hu
        rw [show off + (j + 2) = off + 2 + j by omega]
        exact List.mem_cons_of_mem _ this
    · rw [if_neg (fun z => hL ((cat_cv ad a).mp z))]
      rw [if_neg hL] at h
      match j, h with
      | 0, h => cases h; exact List.mem_cons_self
      | j + 1, h =>
        have h' : (flA t)[j]? = some v := by simpa using h
        have := ih (off + 1) j v h' hu
        rw [show off + (j + 1) = off + 1 + j by omega]
        exact List.mem_cons_of_mem _ this
theorem initL_len {n : Nat} {args : List AV} (h : (flA args).length ≤ n) : (initL n args).length = n := by simp [initL]; omega
theorem entry_LH (ad : Nat → Nat) {n : Nat} {args : List AV} (h : (flA args).length ≤ n) : LH ad ((lg_sl (mp ad args) ++ List.replicate (n - (lg_sl (mp ad args)).length) Slot.unset).toArray) n (initL n args) := by
  have hl := lv_entry (mp ad args) (n := n) (by rw [lg_len]; exact h)
  refine ⟨hl.1, hl.2.1, fun q hq => ?_⟩
  obtain ⟨v, h1, h2, h3⟩ := mem_lvOf.mp hq
  have hj : (flA args)[q.1]? = some v := by
    unfold initL at h1
    by_cases hlt : q.1 < (flA args).length
    · rw [List.getElem?_append_left hlt] at h1; exact h1
    · rw [List.getElem?_append_right (by omega), List.getElem?_replicate] at h1
      split at h1
      · cases h1; simp [isU] at h2
      · cases h1
  have := flA_args ad args 0 q.1 v hj h2
  rw [Nat.zero_add] at this
  have e : q = (q.1, cv ad v) := by rw [← h3]
  rw [e]
  exact hl.2.2 _ this
section CR
variable {p : Program} {l : Launch} {e : Env} {R : Room} {s : State} {m : MethodId} {args : Array Value} {below : List Frame} {meth : Method} {c : Code} {H : Heap} {locs : List Loc} {cells slots : Nat} {Q : State → Prop}
variable {me me' : aMe} {A : Nat → Prop} {D : va_G} {ad : Nat → Nat} {ca : Nat → ClassId} {tys : List (ClassId × FieldType)} {sh sh' : aSh} {σ σ' : aSg} {pc len : Nat} {lsC : Array Slot} {v args' rs : List AV}
theorem rcv_of {sh : aSh} {c0 : Nat} {as : List AV} (h : rcvOk sh c0 as = true) : ∃ a As, as = .inr (.inl a) :: As ∧ sh[a]? = some (c0, aN c0) := by
  unfold rcvOk at h
  split at h
  · exact ⟨_, _, rfl, by simpa using h⟩
  · cases h
theorem ws_in {me : aMe} (h : me ∈ mtab) : ∀ w ∈ (Jvm.Cond.code me.2.1 me.2.2.1 me.2.2.2.1 me.2.2.2.2.1 :: gW), w ∈ gW := by
  intro w hw
  rcases List.mem_cons.mp hw with e | e
  · rw [e]; exact code_in me h
  · exact e
set_option maxHeartbeats 2000000 in
theorem call_run (F : Fx p s m args meth c me A R) (hW : Wd D A s H locs ad ca tys sh σ) (hMet : MetA l D me' args' sh σ v sh' σ') {i : Instr} {k md : Nat} {st : List AV} (hi : adec me pc = some (i, len)) (hcf : cfind me i = some (k, md)) (hk : mtab[k]? = some me') (hst : st = args'.reverse ++ rs) (hn : args'.length = me'.2.2.2.2.2.2.1 + (if me'.2.2.2.2.2.2.2 = true then 0 else 1)) (hcat : stcat rs ≤ 8) (hlv : me'.2.2.2.2.2.1 < me.2.2.2.2.2.1) (hrc : me'.2.2.2.2.2.2.2 = true ∨ rcvOk sh me'.1 args' = true) (hsz : lsC.size = me.2.2.2.1)
    (hcl : cells + (sh'.length - sh.length) ≤ R.cells) (hsl : slots + (ssz sh' - ssz sh) ≤ R.slots) :
    len = 3 ∧ va_Run p l e R s m args below meth c H locs cells slots (sh'.length - sh.length) (ssz sh' - ssz sh) (F0 m pc lsC (mp ad st)) (mp ad rs) (QA D (va_A (wl ad ca sh σ) H.size) ad sh.length v sh' σ' (mp ad args').toArray) (va_A (wl ad ca sh σ) H.size) := by
  have hmem := List.mem_of_getElem? hk
  obtain ⟨mL, mc11, mcl, mpar, mmh, mvh, mpl⟩ := maxL_in me' hmem
  have hini := ini_in me'.1 mc11
  rw [← mcl] at hini
  have F' := F
  have hW' := hW
  obtain ⟨hx, hb, hml, hown, hts, -, -, -, -, hAmb, hRf, hRl⟩ := F
  obtain ⟨hK, hP, hD, hS, hT, hM⟩ := hW
  have hM1 := hMet ad ca tys H.size hT
  obtain ⟨hdg, hlen⟩ := adec_of hi
  have hR : (rmA me' sh sh').frames + 1 ≤ R.frames ∧ 8 + (me'.2.2.2.1 + 11) + (rmA me' sh sh').locals ≤ R.locals := by
    rw [hRf, hRl]
    refine ⟨hlv, ?_⟩
    show 8 + (me'.2.2.2.1 + 11) + 40 * me'.2.2.2.2.2.1 ≤ _
    omega
  have hroom : 2 * (F0 m pc lsC (mp ad st)).monitorRoom + ((mp ad rs).map fun v => v.category).sum ≤ 8 := lv_room (by rw [cat_sum]; exact hcat)
  have hfix : CallFix p m c me.2.2.1 me.2.2.2.1 s args gW (cnm me.1) := ⟨hx, hb, hml, hown, hts⟩
  unfold cfind at hcf
  split at hcf
  · -- invokevirtual
    rename_i x
    have : len = 3 := by simpa [ilen, eq_comm] using hlen
    refine ⟨this, ?_⟩
    subst this
    cases hl : lk tV me.1 x with
    | none => rw [hl] at hcf; cases hcf
    | some k1 =>
      rw [hl] at hcf
      cases hcf
      obtain ⟨ps, hc⟩ := kV_all _ (lk_mem hl)
      unfold kV_ck at hc
      dsimp only at hc
      rw [hk] at hc
      simp only [Bool.and_eq_true, Bool.not_eq_true'] at hc
      obtain ⟨⟨⟨c1, c2⟩, c3⟩, c4⟩ := hc
      have c1 := inP_mem c1
      have c2 := inP_mem c2
      have c3 := inP_mem c3
      rcases hrc with h | h
      · rw [c4] at h; cases h
      · obtain ⟨a, As, rfl, hsa⟩ := rcv_of h
        rw [c4] at hn
        have hn1 : (mp ad As).length = me'.2.2.2.2.2.2.1 := by simpa using hn
        obtain ⟨r, hr, hr1, hr2⟩ := acls_at mc11
        have hrecv := va_recv hK hP (ci := me'.1) (q0 := a) (q := r) hr (by rw [wl_at hsa, ce_obj (by omega)])
        rw [hr1] at hrecv
        refine va_runV (C := cnm me'.1) (As := mp ad As) (b := ad a) hfix hM1 (cwV _ hts (good_all ?_) rfl rfl rfl ⟨mcl, mmh, mvh, mpar⟩ hR) ⟨PA.blind, hrecv, fun U hU hw => PA.at F' hW' _ U hU hw⟩ rfl hn1 hsz (by rw [hst]; simp [mp, List.map_reverse, cv]) hroom hdg ⟨hcl, hsl⟩
        intro w hw
        unfold wsV at hw
        rcases List.mem_append.mp hw with hw | hw
        · simp only [List.mem_cons, List.not_mem_nil, or_false] at hw
          rcases hw with rfl | rfl | rfl | rfl
          · exact c1
          · exact c2
          · exact c3
          · rw [← mcl]; exact hini
        · exact ws_in hmem w hw
  · -- invokestatic
    rename_i x
    have : len = 3 := by simpa [ilen, eq_comm] using hlen
    refine ⟨this, ?_⟩
    subst this
    split at hcf
    · rename_i k1 hl
      cases hcf
      obtain ⟨ps, hc⟩ := kS_all _ (lk_mem hl)
      unfold kS_ck at hc
      dsimp only at hc
      rw [hk] at hc
      simp only [Bool.and_eq_true] at hc
      obtain ⟨⟨c1, c2⟩, c4⟩ := hc
      have c1 := inP_mem c1
      have c2 := inP_mem c2
      rw [c4] at hn
      have hn1 : (mp ad args').length = me'.2.2.2.2.2.2.1 := by simpa using hn
      refine va_runS (As := mp ad args') hfix hM1 (va_cwS _ hts (good_all ?_) rfl rfl rfl ⟨mmh, mvh, mpar⟩ hR) ⟨PA.blind, fun U hU hw => PA.at F' hW' _ U hU hw⟩ rfl hn1 hsz (by rw [hst]; simp [mp, List.map_reverse]) hroom hdg ⟨hcl, hsl⟩
      intro w hw
      unfold va_wsS at hw
      rcases List.mem_append.mp hw with hw | hw
      · simp only [List.mem_cons, List.not_mem_nil, or_false] at hw
        rcases hw with rfl | rfl | rfl
        · exact c1
        · exact c2
        · exact hini
      · exact ws_in hmem w hw
    · cases hl : lk tSN me.1 x with
      | none => rw [hl] at hcf; cases hcf
      | some k1 =>
        rw [hl] at hcf
        cases hcf
        obtain ⟨ps, hc⟩ := kSN_all _ (lk_mem hl)
        unfold kSN_ck at hc
        dsimp only at hc
        rw [hk] at hc
        simp only [Bool.and_eq_true] at hc
        obtain ⟨⟨c1, c2⟩, c4⟩ := hc
        have c1 := inN_mem c1
        have c2 := inP_mem c2
        rw [c4] at hn
        have hn1 : (mp ad args').length = me'.2.2.2.2.2.2.1 := by simpa using hn
        exact va_runSN (As := mp ad args') hfix hM1 ⟨va_cnB _ hts (good_all (ws_in hmem)) rfl rfl rfl (hAmb.1 _ c1) (hts _ hini) ⟨mmh, mvh, mpar⟩ hR, hts _ c2, trivial⟩ ⟨PA.blind, fun U hU hw => PA.at F' hW' _ U hU hw⟩ rfl hn1 hsz (by rw [hst]; simp [mp, List.map_reverse]) hroom hdg ⟨hcl, hsl⟩
  · -- invokespecial
    rename_i x
    have : len = 3 := by simpa [ilen, eq_comm] using hlen
    refine ⟨this, ?_⟩
    subst this
    split at hcf
    · rename_i k1 hl
      cases hcf
      obtain ⟨ps, hc⟩ := kI_all _ (lk_mem hl)
      unfold kI_ck at hc
      dsimp only at hc
      rw [hk] at hc
      simp only [Bool.and_eq_true, Bool.not_eq_true', decide_eq_true_eq] at hc
      obtain ⟨⟨⟨⟨c1, c2⟩, c3⟩, c4⟩, c5⟩ := hc
      have c1 := inP_mem c1
      have c2 := inP_mem c2
      rcases hrc with h | h
      · rw [c4] at h; cases h
      · obtain ⟨a, As, rfl, hsa⟩ := rcv_of h
        rw [c4] at hn
        have hn1 : (mp ad As).length = me'.2.2.2.2.2.2.1 := by simpa using hn
        rw [c5] at hM1
        exact va_runI (As := mp ad As) (b := ad a) hfix hM1 (cwI _ hts (good_all (by have := ws_in hmem; rw [c5] at this; exact this)) rfl rfl rfl (hts _ hini) (hts _ c1) (hts _ c2) c3 ⟨mmh, mvh, mpar⟩ hR) ⟨PA.blind, fun U hU hw => PA.at F' hW' _ U hU hw⟩ rfl hn1 hsz (by rw [hst]; simp [mp, List.map_reverse, cv]) hroom hdg ⟨hcl, hsl⟩
    · cases hl : lk tIN me.1 x with
      | none => rw [hl] at hcf; cases hcf
      | some k1 =>
        rw [hl] at hcf
        cases hcf
        obtain ⟨ps, hc⟩ := kIN_all _ (lk_mem hl)
        unfold kIN_ck at hc
        dsimp only at hc
        rw [hk] at hc
        simp only [Bool.and_eq_true, Bool.not_eq_true', decide_eq_true_eq] at hc
        obtain ⟨⟨⟨⟨c1, c2⟩, c3⟩, c4⟩, c5⟩ := hc
        have c1 := inN_mem c1
        have c2 := inP_mem c2
        rcases hrc with h | h
        · rw [c4] at h; cases h
        · obtain ⟨a, As, rfl, hsa⟩ := rcv_of h
          rw [c4] at hn
          have hn1 : (mp ad As).length = me'.2.2.2.2.2.2.1 := by simpa using hn
          rw [c5] at hM1
          exact va_runIN (As := mp ad As) (b := ad a) hfix hM1 ⟨va_cnB _ hts (good_all (by have := ws_in hmem; rw [c5] at this; exact this)) rfl rfl rfl (hAmb.1 _ c1) (hts _ hini) ⟨mmh, mvh, mpar⟩ hR, c3, hts _ c2⟩ ⟨PA.blind, fun U hU hw => PA.at F' hW' _ U hU hw⟩ rfl hn1 hsz (by rw [hst]; simp [mp, List.map_reverse, cv]) hroom hdg ⟨hcl, hsl⟩
  · cases hcf
end CR
