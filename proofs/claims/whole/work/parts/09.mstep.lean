/-! soundness, 6: a step on memory is the machine's -/
section MS
variable {p : Program} {l : Launch} {e : Env} {R : Room} {s : State} {m : MethodId} {args : Array Value} {below : List Frame} {meth : Method} {c : Code} {H : Heap} {locs : List Loc} {cells slots : Nat} {Q : State → Prop}
variable {me : aMe} {A : Nat → Prop} {D : va_G} {ad : Nat → Nat} {ca : Nat → ClassId} {tys : List (ClassId × FieldType)} {sh sh' : aSh} {σ σ' : aSg} {pc len : Nat} {lsC : Array Slot} {nL : Nat} {st st' : List AV}
/-- what goes on behind a step on memory -/
abbrev MK (p : Program) (l : Launch) (e : Env) (R : Room) (s : State) (m : MethodId) (args : Array Value) (below : List Frame) (meth : Method) (c : Code) (cells slots : Nat) (Q : State → Prop) (A : Nat → Prop) (D : va_G) (ad : Nat → Nat) (pc : Nat) (lsC : Array Slot) (sh sh' : aSh) (σ' : aSg) (st' : List AV) : Prop :=
  ∀ (H' : Heap) (locs' : List Loc) (ad' : Nat → Nat) (ca' : Nat → ClassId) (tys' : List (ClassId × FieldType)) (cells' slots' : Nat), (∀ a, a < sh.length → ad' a = ad a) → Wd D A s H' locs' ad' ca' tys' sh' σ' → cells' = cells + (sh'.length - sh.length) → slots' = slots + (ssz sh' - ssz sh) → W p l e R s m args below meth c H' locs' cells' slots' Q (F0 m pc lsC (mp ad' st'))
set_option maxHeartbeats 2000000 in
theorem put_sound (F : Fx p s m args meth c me A R) (hW : Wd D A s H locs ad ca tys sh σ) {x ci j a : Nat} {v : AV} {rest : List AV} (hdg : decode me.2.2.1 pc = .ok (.putfield x, 3)) (hf : lk tF me.1 x = some (ci, j)) (hsh : sh[a]? = some (ci, aN ci)) (hfin : aFin ci j = false ∨ (isIni me = true ∧ ci = me.1)) (hp : putA σ a j (fkd ci j) v = some σ') (hst : ∀ w ∈ v :: (.inr (.inl a) :: rest), vOk sh w)
    (kk : MK p l e R s m args below meth c cells slots Q A D ad (pc + 3) lsC sh sh σ' rest) : W p l e R s m args below meth c H locs cells slots Q (F0 m pc lsC (mp ad (v :: .inr (.inl a) :: rest))) := by
  obtain ⟨hx, hb, hml, hown, hts, hini, -⟩ := F
  obtain ⟨hK, hP, hD, hS, hT, hM⟩ := hW
  obtain ⟨r, hr, hj, hN, hw, hk, hci, hdecl⟩ := tF_of hf
  obtain ⟨hty, hnm, hci11⟩ := cls_ty ci r hr
  have hjN : j < aN ci := by rw [← hN]; exact hj
  -- the value
  obtain ⟨y, hy, hkd1, hyI, hyR, hσ⟩ : ∃ y : Int, cv ad v = fv ad (fkd ci j) y ∧ (fkd ci j = 1 → y = 0 ∨ y = 1) ∧ inI y ∧ (fkd ci j = 2 → y < sh.length) ∧ σ' = aup σ a j y := by
    unfold putA at hp
    split at hp
    · rename_i y
      split at hp
      · rename_i hc
        cases hp
        refine ⟨y, ?_, ?_, hst (.inl y) (by simp), ?_, rfl⟩
        · unfold fv cv
          rw [if_neg (by omega)]
        · intro h1; omega
        · intro h1; omega
      · cases hp
    · rename_i b
      split at hp
      · rename_i hc
        cases hp
        have hb1 : b < sh.length := hst (.inr (.inl b)) (by simp)
        have := hM.2.2.1
        refine ⟨(b : Int), ?_, by omega, ⟨by omega, by omega⟩, fun _ => by omega, rfl⟩
        unfold fv cv
        rw [if_pos hc, if_neg (by omega)]
        simp
      · cases hp
    · cases hp
  subst hσ
  have he : (wl ad ca sh σ)[a]? = some (ad a, .inr (ci, ((fK[ci]?).getD []).mapIdx (fun j kd => fv ad kd (σ a j)))) := by rw [wl_at hsh, ce_obj hci]
  have hlen : j < (((fK[ci]?).getD []).mapIdx (fun j kd => fv ad kd (σ a j))).length := by rw [List.length_mapIdx]; exact hjN
  obtain ⟨hn, hfit⟩ := kind_fit hk (hty j hj) ad hkd1
  have hset : (wl ad ca sh σ).set a (ad a, .inr (ci, (((fK[ci]?).getD []).mapIdx (fun j kd => fv ad kd (σ a j))).set j (fv ad (fkd ci j) y))) = wl ad ca sh (aup σ a j y) := by
    rw [aup_eq]
    refine wl_set hsh ?_
    rw [ce_obj hci, fields_set hjN]
  have hM' : mOk sh (aup σ a j y) := mOk_up hM hsh hyI (fun h => by
    rcases h with h | h
    · simp only at h; omega
    · exact hyR h)
  show W p l e R s m args below meth c H locs cells slots Q (F0 m pc lsC (cv ad v :: .ref (ad a) :: mp ad rest))
  rw [hy]
  have fin : ∀ (H1 : Heap) (locs1 : List Loc), va_P D acls ((wl ad ca sh σ).set a (ad a, .inr (ci, (((fK[ci]?).getD []).mapIdx (fun j kd => fv ad kd (σ a j))).set j (fv ad (fkd ci j) y)))) H1 → va_D A ((wl ad ca sh σ).set a (ad a, .inr (ci, (((fK[ci]?).getD []).mapIdx (fun j kd => fv ad kd (σ a j))).set j (fv ad (fkd ci j) y)))) → va_S A s.heap H1 locs1 → W p l e R s m args below meth c H1 locs1 cells slots Q (F0 m (pc + 3) lsC (mp ad rest)) := by
    intro H1 locs1 h1 h2 h3
    rw [hset] at h1 h2
    exact kk H1 locs1 ad ca tys cells slots (fun _ _ => rfl) ⟨hK, h1, h2, h3, hT, hM'⟩ (by omega) (by omega)
  by_cases hf2 : (r.2.1 j).2.2.2 = true
  · have hcI : isIni me = true ∧ ci = me.1 := by
      rcases hfin with h | h
      · unfold aFin at h
        rw [hr] at h
        simp only at h
        rw [hf2] at h
        cases h
      · exact h
    have hown2 : (r.2.1 j).1 = cnm me.1 := by
      rw [hdecl, ← hcI.2]
      simp only [cnm, hr]
    exact va_putF (D := D) (ci := ci) (C := r.1) (T := r.2.1) (N := r.2.2) hx hb hts (cls_lay ci hci11 r hr) (aTy ci) hty hnm hown hK hP hD hS a he hr j hj (hts _ hw) (fun _ h => h) hf2 (hini hcI.1) hown2 (hty j hj) hn hfit hlen hdg fin
  · exact va_put (D := D) (ci := ci) (C := r.1) (T := r.2.1) (N := r.2.2) hx hb hts (cls_lay ci hci11 r hr) (aTy ci) hty hnm hown hK hP hD hS a he hr j hj (hts _ hw) (fun _ h => h) (by simpa using hf2) (hty j hj) hn hfit hlen hdg fin
theorem get_sound (F : Fx p s m args meth c me A R) (hW : Wd D A s H locs ad ca tys sh σ) {x ci j a : Nat} {rest : List AV} (hdg : decode me.2.2.1 pc = .ok (.getfield x, 3)) (hf : lk tF me.1 x = some (ci, j)) (hsh : sh[a]? = some (ci, aN ci))
    (kk : W p l e R s m args below meth c H locs cells slots Q (F0 m (pc + 3) lsC (fv ad (fkd ci j) (σ a j) :: mp ad rest))) : W p l e R s m args below meth c H locs cells slots Q (F0 m pc lsC (mp ad (.inr (.inl a) :: rest))) := by
  obtain ⟨hx, hb, hml, hown, hts, hini, -⟩ := F
  obtain ⟨hK, hP, hD, hS, hT, hM⟩ := hW
  obtain ⟨r, hr, hj, hN, hw, hk, hci, hdecl⟩ := tF_of hf
  obtain ⟨hty, hnm, hci11⟩ := cls_ty ci r hr
  have hjN : j < aN ci := by rw [← hN]; exact hj
  have he : (wl ad ca sh σ)[a]? = some (ad a, .inr (ci, ((fK[ci]?).getD []).mapIdx (fun j kd => fv ad kd (σ a j)))) := by rw [wl_at hsh, ce_obj hci]
  exact va_get (D := D) (ci := ci) (C := r.1) (T := r.2.1) (N := r.2.2) hx hb hts (cls_lay ci hci11 r hr) hown hK hP a he hr j hj (hts _ hw) (fun _ h => h) (fields_at hjN) hdg kk
theorem nar01 {v : Int} (h : v = 0 ∨ v = 1) : vp_nar .boolean (Int32.ofInt v) = Int32.ofInt v := by
  rcases h with rfl | rfl <;> rfl
theorem upd_o (f : Nat → Int) (k : Nat) (x : Int) : upd (fun j => Int32.ofInt (f j)) k (Int32.ofInt x) = fun j => Int32.ofInt (if j = k then x else f j) := by
  funext j
  unfold upd
  split <;> rfl
set_option maxHeartbeats 4000000 in
theorem mstep_sound (F : Fx p s m args meth c me A R) (hW : Wd D A s H locs ad ca tys sh σ) {i : Instr} (hd : adec me pc = some (i, len)) (h : mstep me i st sh σ = some (st', sh', σ')) (hsz : lsC.size = me.2.2.2.1) (hst : ∀ v ∈ st, vOk sh v)
    (hc : cells + (sh'.length - sh.length) ≤ R.cells) (hs : slots + (ssz sh' - ssz sh) ≤ R.slots)
    (kk : MK p l e R s m args below meth c cells slots Q A D ad (pc + len) lsC sh sh' σ' st') : W p l e R s m args below meth c H locs cells slots Q (F0 m pc lsC (mp ad st)) := by
  have F0' := F
  have W0 := hW
  obtain ⟨hx, hb, hml, hown, hts, hini, hret, hlocks, hA, hAmb, hRf, hRl⟩ := F
  obtain ⟨hK, hP, hD, hS, hT, hM⟩ := hW
  obtain ⟨hdg, hlen⟩ := adec_of hd
  have same : ∀ {st1 : List AV}, sh' = sh → σ' = σ → st' = st1 → W p l e R s m args below meth c H locs cells slots Q (F0 m (pc + len) lsC (mp ad st1)) := by
    intro st1 h1 h2 h3
    subst h1 h2 h3
    exact kk H locs ad ca tys cells slots (fun _ _ => rfl) W0 (by omega) (by omega)
  unfold mstep at h
  split at h
  · -- getfield
    have : len = 3 := by simpa [ilen, eq_comm] using hlen
    subst this
    split at h
    · rename_i ci j a rest hf
      split at h
      · rename_i hsh
        refine get_sound F0' W0 hdg hf hsh ?_
        split at h
        · rename_i hk2
          split at h
          · rename_i h0
            cases h
            have e1 : fv ad (fkd ci j) (σ a j) = cv ad (.inr (.inl (σ a j).toNat)) := by
              unfold fv cv
              rw [if_pos hk2, if_neg (by omega)]
            rw [e1]
            exact same rfl rfl rfl
          · cases h
        · rename_i hk2
          cases h
          have e1 : fv ad (fkd ci j) (σ a j) = cv ad (.inl (σ a j)) := by
            unfold fv cv
            rw [if_neg hk2]
          rw [e1]
          exact same rfl rfl rfl
      · cases h
    · cases h
  · -- putfield
    have : len = 3 := by simpa [ilen, eq_comm] using hlen
    subst this
    split at h
    · rename_i ci j v a rest hf
      split at h
      · rename_i hsh
        cases hp : putA σ a j (fkd ci j) v with
        | none => rw [hp] at h; cases h
        | some σ1 =>
          rw [hp] at h
          cases h
          exact put_sound F0' W0 hdg hf hsh.1 hsh.2 hp hst kk
      · cases h
    · cases h
  · -- iaload
    have : len = 1 := by simpa [ilen, eq_comm] using hlen
    subst this
    split at h
    · rename_i i a rest
      split at h
      · rename_i n hsh
        split at h
        · rename_i hi
          cases h
          obtain ⟨v1, v2⟩ := vin hi.1 hi.2 (hM.2.2.2 _ _ hsh)
          obtain ⟨t0, ht⟩ := hT a _ .int hsh rfl
          refine va_iald hx hb hK hP a t0 (by rw [wl_at hsh, ce_int]) ht v1 hdg ?_
          rw [v2]
          exact same rfl rfl rfl
        · cases h
      · cases h
    · cases h
  · -- baload
    have : len = 1 := by simpa [ilen, eq_comm] using hlen
    subst this
    split at h
    · rename_i i a rest
      split at h
      · rename_i n hsh
        split at h
        · rename_i hi
          cases h
          obtain ⟨v1, v2⟩ := vin hi.1 hi.2 (hM.2.2.2 _ _ hsh)
          obtain ⟨t0, ht⟩ := hT a _ .boolean hsh rfl
          refine va_zald hx hb hK hP a t0 (by rw [wl_at hsh, ce_bool]) ht v1 hdg ?_
          rw [v2]
          exact same rfl rfl rfl
        · cases h
      · cases h
    · cases h
  · -- aaload
    have : len = 1 := by simpa [ilen, eq_comm] using hlen
    subst this
    split at h
    · rename_i i a rest
      split at h
      · rename_i n hsh
        split at h
        · rename_i hi
          cases h
          obtain ⟨v1, v2⟩ := vin hi.1 hi.2.1 (hM.2.2.2 _ _ hsh)
          obtain ⟨t0, ht⟩ := hT a _ _ hsh rfl
          refine va_aldq hx hb hK hP a t0 (by rw [wl_at hsh, ce_ref]) ht v1 hdg ?_
          rw [v2]
          have e1 : va_rf (rfo ad (σ a i.toNat)) = cv ad (.inr (.inl (σ a i.toNat).toNat)) := by
            unfold rfo
            rw [if_neg (by omega)]
            rfl
          rw [e1]
          exact same rfl rfl rfl
        · cases h
      · cases h
    · cases h
  · -- iastore
    have : len = 1 := by simpa [ilen, eq_comm] using hlen
    subst this
    split at h
    · rename_i v i a rest
      split at h
      · rename_i n hsh
        split at h
        · rename_i hi
          cases h
          obtain ⟨v1, v2⟩ := vin hi.1 hi.2 (hM.2.2.2 _ _ hsh)
          obtain ⟨t0, ht⟩ := hT a _ .int hsh rfl
          refine va_iast hx hb hK hP hD hS a t0 (by rw [wl_at hsh, ce_int]) ht v1 hdg (fun H1 locs1 h1 h2 h3 => ?_)
          have hset : (wl ad ca sh σ).set a (ad a, .inl (ca a, n, .inl (upd (fun j => Int32.ofInt (σ a j)) (Int32.ofInt i).toNatClampNeg (Int32.ofInt v)))) = wl ad ca sh (aup σ a i.toNat v) := by
            rw [aup_eq]
            refine wl_set hsh ?_
            rw [v2, ce_int, upd_o]
          rw [hset] at h1 h2
          exact kk H1 locs1 ad ca tys cells slots (fun _ _ => rfl) ⟨hK, h1, h2, h3, hT, mOk_up hM hsh (hst (.inl v) (by simp)) (fun hh => by rcases hh with hh | hh <;> simp [fkd, fK] at hh)⟩ (by omega) (by omega)
        · cases h
      · cases h
    · cases h
  · -- bastore
    have : len = 1 := by simpa [ilen, eq_comm] using hlen
    subst this
    split at h
    · rename_i v i a rest
      split at h
      · rename_i n hsh
        split at h
        · rename_i hi
          cases h
          obtain ⟨v1, v2⟩ := vin hi.1 hi.2.1 (hM.2.2.2 _ _ hsh)
          obtain ⟨t0, ht⟩ := hT a _ .boolean hsh rfl
          refine va_zast hx hb hK hP hD hS a t0 (by rw [wl_at hsh, ce_bool]) ht v1 hdg (fun H1 locs1 h1 h2 h3 => ?_)
          have hset : (wl ad ca sh σ).set a (ad a, .inl (ca a, n, .inl (upd (fun j => Int32.ofInt (σ a j)) (Int32.ofInt i).toNatClampNeg (vp_nar .boolean (Int32.ofInt v))))) = wl ad ca sh (aup σ a i.toNat v) := by
            rw [aup_eq]
            refine wl_set hsh ?_
            rw [v2, ce_bool, nar01 hi.2.2, upd_o]
          rw [hset] at h1 h2
          exact kk H1 locs1 ad ca tys cells slots (fun _ _ => rfl) ⟨hK, h1, h2, h3, hT, mOk_up hM hsh (hst (.inl v) (by simp)) (fun hh => by rcases hh with hh | hh <;> simp [fkd, fK] at hh)⟩ (by omega) (by omega)
        · cases h
      · cases h
    · cases h
  · -- aastore
    have : len = 1 := by simpa [ilen, eq_comm] using hlen
    subst this
    split at h
    · rename_i v i a rest
      split at h
      · rename_i n n2 hsh hv
        split at h
        · rename_i hi
          cases h
          obtain ⟨v1, v2⟩ := vin hi.1 hi.2 (hM.2.2.2 _ _ hsh)
          obtain ⟨t0, ht⟩ := hT a _ _ hsh rfl
          have hvl : v < sh.length := hst (.inr (.inl v)) (by simp)
          have := hM.2.2.1
          refine va_astq hx hb hK hP hD hS a t0 v 3 (r := (RX3, TX3, 2)) (by rw [wl_at hsh, ce_ref]) ht (by rw [wl_at hv, ce_obj (by omega)]) rfl v1 hdg (fun H1 locs1 h1 h2 h3 => ?_)
          have hset : (wl ad ca sh σ).set a (ad a, .inl (ca a, n, .inr (.inr (.inr (.inr (va_up (fun j => rfo ad (σ a j)) (Int32.ofInt i).toNatClampNeg (some (ad v)))))))) = wl ad ca sh (aup σ a i.toNat (v : Int)) := by
            rw [aup_eq]
            refine wl_set hsh ?_
            rw [v2, ce_ref]
            congr 7
            funext j
            unfold va_up
            split
            · unfold rfo
              rw [if_neg (by omega)]
              simp
            · rfl
          rw [hset] at h1 h2
          exact kk H1 locs1 ad ca tys cells slots (fun _ _ => rfl) ⟨hK, h1, h2, h3, hT, mOk_up hM hsh ⟨by omega, by omega⟩ (fun hh => by omega)⟩ (by omega) (by omega)
        · cases h
      · cases h
    · cases h
  · -- arraylength
    have : len = 1 := by simpa [ilen, eq_comm] using hlen
    subst this
    split at h
    · rename_i a rest
      split at h
      · rename_i kd n hsh
        split at h
        · rename_i hk
          cases h
          have e1 : Int32.ofNat n = Int32.ofInt (n : Int) := Int32.ofInt_eq_ofNat.symm
          rcases hk with rfl | rfl | rfl
          · obtain ⟨t0, ht⟩ := hT a _ _ hsh rfl
            exact va_alen hx hb hK hP a t0 (by rw [wl_at hsh, ce_int]) ht e1 hdg (same rfl rfl rfl)
          · obtain ⟨t0, ht⟩ := hT a _ _ hsh rfl
            exact va_alen hx hb hK hP a t0 (by rw [wl_at hsh, ce_bool]) ht e1 hdg (same rfl rfl rfl)
          · obtain ⟨t0, ht⟩ := hT a _ _ hsh rfl
            exact va_alen hx hb hK hP a t0 (by rw [wl_at hsh, ce_ref]) ht e1 hdg (same rfl rfl rfl)
        · cases h
      · cases h
    · cases h
  · -- new
    have : len = 3 := by simpa [ilen, eq_comm] using hlen
    subst this
    split at h
    · rename_i ci hcl
      split at h
      · rename_i hl
        cases h
        obtain ⟨hci, w1, w2, w3⟩ := pr_new _ (lk_mem hcl)
        dsimp only at hci w1 w2 w3
        obtain ⟨r, hr, hr1, hr2⟩ := acls_at hci
        obtain ⟨hty, hnm, -⟩ := cls_ty ci r hr
        have hz : (sh ++ [(ci, aN ci)]).length - sh.length = 1 := by simp
        have hz2 : ssz (sh ++ [(ci, aN ci)]) - ssz sh = aN ci := by rw [ssz_app]; omega
        rw [hz] at hc
        rw [hz2] at hs
        rw [← hr1] at w1 w2 w3
        rw [← hr2] at w2 hs
        have hf22 : ∀ j, (((ci, aN ci) : Nat × Nat).1 = 22 ∨ fkd ((ci, aN ci) : Nat × Nat).1 j = 2) → fdf ci j < 0 := fun j hj => by
          rcases hj with hj | hj
          · simp only at hj; omega
          · simp only at hj; unfold fdf; rw [if_pos hj]; decide
        refine va_new (D := D) (ci := ci) (C := r.1) (T := r.2.1) (N := r.2.2) (fs := ((fK[ci]?).getD []).mapIdx (fun j kd => fv ad kd (fdf ci j))) hx hb hts (cls_lay ci hci r hr) (aTy ci) hty hown (hts _ w1) (hts _ w2) (hts _ w3) hK hP hD hS hA hr (fun j hj => ?_) hc hs hdg (fun q H1 h1 h2 h3 => ?_)
        · rw [hr2] at hj
          unfold vp_V
          rw [List.getD_eq_getElem?_getD, fields_at hj, Option.getD_some, fdf_ad]
          exact fdf_ok ci hci j hj
        · have hw : wl (adn ad sh.length q) (can ca sh.length 0) (sh ++ [(ci, aN ci)]) (aupA σ sh.length (fdf ci)) = wl ad ca sh σ ++ [(q, .inr (ci, ((fK[ci]?).getD []).mapIdx (fun j kd => fv ad kd (fdf ci j))))] := by
            rw [wl_push hM hf22, ce_obj (by omega)]
          rw [← hw] at h1 h2
          have had : ∀ a, a < sh.length → adn ad sh.length q a = ad a := fun a ha => by unfold adn; rw [if_neg (by omega)]
          have key := kk H1 locs (adn ad sh.length q) (can ca sh.length 0) tys (cells + 1) (slots + r.2.2) had ⟨hK, h1, h2, h3, fun a q0 ty hq0 hty0 => ?_, mOk_push hM hl (fun j => by unfold fdf; split <;> exact ⟨by decide, by decide⟩) hf22 (by
              have : ∀ c, c < 11 → aN c ≤ 100000 := by decide +kernel
              exact this ci hci)⟩ (by rw [hz]) (by rw [hz2, hr2])
          · have e1 : mp (adn ad sh.length q) (.inr (.inl sh.length) :: st) = .ref q :: mp ad st := by
              show cv _ _ :: mp _ st = _
              rw [mp_ext had hst]
              simp [cv, adn]
            rw [e1] at key
            exact key
          · by_cases ha : a < sh.length
            · rw [List.getElem?_append_left ha] at hq0
              obtain ⟨t0, ht⟩ := hT a q0 ty hq0 hty0
              refine ⟨t0, ?_⟩
              unfold can
              rw [if_neg (by omega)]
              exact ht
            · rw [List.getElem?_append_right (by omega)] at hq0
              have hz : a - sh.length < 1 := (List.getElem?_eq_some_iff.mp hq0).1
              rw [show a - sh.length = 0 by omega] at hq0
              cases hq0
              unfold aty at hty0
              rw [if_neg (by simp only; omega), if_neg (by simp only; omega), if_neg (by simp only; omega)] at hty0
              cases hty0
      · cases h
    · cases h
  · -- newarray
    have : len = 2 := by simpa [ilen, eq_comm] using hlen
    subst this
    split at h
    · rename_i n rest
      split at h
      · rename_i hl
        cases h
        have hz : (sh ++ [(20, n.toNat)]).length - sh.length = 1 := by simp
        have hz2 : ssz (sh ++ [(20, n.toNat)]) - ssz sh = n.toNat := by rw [ssz_app]; simp only; omega
        rw [hz] at hc
        rw [hz2] at hs
        have in0 : inI n := ⟨by omega, by omega⟩
        have hf22 : ∀ j, (((20, n.toNat) : Nat × Nat).1 = 22 ∨ fkd ((20, n.toNat) : Nat × Nat).1 j = 2) → (0 : Int) < 0 := fun j hj => by
          rcases hj with hj | hj <;> simp [fkd, fK] at hj
        refine va_newa (D := D) (atype := .int) (ty := .int) (a0 := (n.toNat, .inl (fun _ => Int32.ofInt 0))) hx hb (hts _ pr_w1.2.2.2.2.2.2.2.1) rfl hK hP hD hS hA (fun cA => rfl) (fun hh => ?_) (o32_cl in0) (by show n.toNat * 4 ≤ _; omega) hc hs hdg (fun q cA H1 h0 h1 h2 h3 => ?_)
        · rw [← o32_0, o32_lt in0 ⟨by decide, by decide⟩] at hh
          omega
        · have hw : wl (adn ad sh.length q) (can ca sh.length cA) (sh ++ [(20, n.toNat)]) (aupA σ sh.length (fun _ => 0)) = wl ad ca sh σ ++ [(q, .inl (cA, n.toNat, .inl (fun _ => Int32.ofInt 0)))] := by
            rw [wl_push hM hf22, ce_int]
          rw [← hw] at h1 h2
          have had : ∀ a, a < sh.length → adn ad sh.length q a = ad a := fun a ha => by unfold adn; rw [if_neg (by omega)]
          have key := kk H1 locs (adn ad sh.length q) (can ca sh.length cA) (tys ++ [(cA, .int)]) (cells + 1) (slots + n.toNat) had ⟨h0, h1, h2, h3, fun a q0 ty hq0 hty0 => ?_, mOk_push hM hl.2.2 (fun j => ⟨by decide, by decide⟩) hf22 (by simp only; omega)⟩ (by rw [hz]) (by rw [hz2])
          · have e1 : mp (adn ad sh.length q) (.inr (.inl sh.length) :: rest) = .ref q :: mp ad rest := by
              show cv _ _ :: mp _ rest = _
              rw [mp_ext had (fun v hv => hst v (by simp [hv]))]
              simp [cv, adn]
            rw [e1] at key
            exact key
          · by_cases ha : a < sh.length
            · rw [List.getElem?_append_left ha] at hq0
              obtain ⟨t0, ht⟩ := hT a q0 ty hq0 hty0
              refine ⟨t0, ?_⟩
              rw [List.getElem?_append_left (List.getElem?_eq_some_iff.mp ht).1]
              unfold can
              rw [if_neg (by omega)]
              exact ht
            · rw [List.getElem?_append_right (by omega)] at hq0
              have hz : a - sh.length < 1 := (List.getElem?_eq_some_iff.mp hq0).1
              rw [show a - sh.length = 0 by omega] at hq0
              cases hq0
              cases hty0
              refine ⟨tys.length, ?_⟩
              unfold can
              rw [if_pos (by omega)]
              simp
      · cases h
    · rename_i n rest
      split at h
      · rename_i hl
        cases h
        have hz : (sh ++ [(21, n.toNat)]).length - sh.length = 1 := by simp
        have hz2 : ssz (sh ++ [(21, n.toNat)]) - ssz sh = n.toNat := by rw [ssz_app]; simp only; omega
        rw [hz] at hc
        rw [hz2] at hs
        have in0 : inI n := ⟨by omega, by omega⟩
        have hf22 : ∀ j, (((21, n.toNat) : Nat × Nat).1 = 22 ∨ fkd ((21, n.toNat) : Nat × Nat).1 j = 2) → (0 : Int) < 0 := fun j hj => by
          rcases hj with hj | hj <;> simp [fkd, fK] at hj
        refine va_newa (D := D) (atype := .boolean) (ty := .boolean) (a0 := (n.toNat, .inl (fun _ => Int32.ofInt 0))) hx hb (hts _ pr_w1.2.2.2.2.2.2.2.2) rfl hK hP hD hS hA (fun cA => rfl) (fun hh => ?_) (o32_cl in0) (by show n.toNat * 1 ≤ _; omega) hc hs hdg (fun q cA H1 h0 h1 h2 h3 => ?_)
        · rw [← o32_0, o32_lt in0 ⟨by decide, by decide⟩] at hh
          omega
        · have hw : wl (adn ad sh.length q) (can ca sh.length cA) (sh ++ [(21, n.toNat)]) (aupA σ sh.length (fun _ => 0)) = wl ad ca sh σ ++ [(q, .inl (cA, n.toNat, .inl (fun _ => Int32.ofInt 0)))] := by
            rw [wl_push hM hf22, ce_bool]
          rw [← hw] at h1 h2
          have had : ∀ a, a < sh.length → adn ad sh.length q a = ad a := fun a ha => by unfold adn; rw [if_neg (by omega)]
          have key := kk H1 locs (adn ad sh.length q) (can ca sh.length cA) (tys ++ [(cA, .boolean)]) (cells + 1) (slots + n.toNat) had ⟨h0, h1, h2, h3, fun a q0 ty hq0 hty0 => ?_, mOk_push hM hl.2.2 (fun j => ⟨by decide, by decide⟩) hf22 (by simp only; omega)⟩ (by rw [hz]) (by rw [hz2])
          · have e1 : mp (adn ad sh.length q) (.inr (.inl sh.length) :: rest) = .ref q :: mp ad rest := by
              show cv _ _ :: mp _ rest = _
              rw [mp_ext had (fun v hv => hst v (by simp [hv]))]
              simp [cv, adn]
            rw [e1] at key
            exact key
          · by_cases ha : a < sh.length
            · rw [List.getElem?_append_left ha] at hq0
              obtain ⟨t0, ht⟩ := hT a q0 ty hq0 hty0
              refine ⟨t0, ?_⟩
              rw [List.getElem?_append_left (List.getElem?_eq_some_iff.mp ht).1]
              unfold can
              rw [if_neg (by omega)]
              exact ht
            · rw [List.getElem?_append_right (by omega)] at hq0
              have hz : a - sh.length < 1 := (List.getElem?_eq_some_iff.mp hq0).1
              rw [show a - sh.length = 0 by omega] at hq0
              cases hq0
              cases hty0
              refine ⟨tys.length, ?_⟩
              unfold can
              rw [if_pos (by omega)]
              simp
      · cases h
    · cases h
  · -- anewarray
    have : len = 3 := by simpa [ilen, eq_comm] using hlen
    subst this
    split at h
    · rename_i n rest hcl
      split at h
      · rename_i hl
        cases h
        obtain ⟨hci, w1, w2, w3⟩ := pr_new _ (lk_mem hcl)
        have hz : (sh ++ [(22, n.toNat)]).length - sh.length = 1 := by simp
        have hz2 : ssz (sh ++ [(22, n.toNat)]) - ssz sh = n.toNat := by rw [ssz_app]; simp only; omega
        rw [hz] at hc
        rw [hz2] at hs
        have in0 : inI n := ⟨by omega, by omega⟩
        have hf22 : ∀ j : Nat, (((22, n.toNat) : Nat × Nat).1 = 22 ∨ fkd ((22, n.toNat) : Nat × Nat).1 j = 2) → (-1 : Int) < 0 := fun j hj => by decide
        refine va_newq (D := D) (C := "BinderPress$Row") hx hb hown (hts _ w1) hAmb.2.1 hK hP hD hS hA (fun hh => ?_) (o32_cl in0) (by omega) hc hs hdg (fun q cA H1 h0 h1 h2 h3 => ?_)
        · rw [← o32_0, o32_lt in0 ⟨by decide, by decide⟩] at hh
          omega
        · have hw : wl (adn ad sh.length q) (can ca sh.length cA) (sh ++ [(22, n.toNat)]) (aupA σ sh.length (fun _ => -1)) = wl ad ca sh σ ++ [(q, .inl (cA, n.toNat, .inr (.inr (.inr (.inr (fun _ => none))))))] := by
            rw [wl_push hM hf22, ce_ref]
            rfl
          rw [← hw] at h1 h2
          have had : ∀ a, a < sh.length → adn ad sh.length q a = ad a := fun a ha => by unfold adn; rw [if_neg (by omega)]
          have key := kk H1 locs (adn ad sh.length q) (can ca sh.length cA) (tys ++ [(cA, .object "BinderPress$Row")]) (cells + 1) (slots + n.toNat) had ⟨h0, h1, h2, h3, fun a q0 ty hq0 hty0 => ?_, mOk_push hM hl.2.2 (fun j => ⟨by decide, by decide⟩) hf22 (by simp only; omega)⟩ (by rw [hz]) (by rw [hz2])
          · have e1 : mp (adn ad sh.length q) (.inr (.inl sh.length) :: rest) = .ref q :: mp ad rest := by
              show cv _ _ :: mp _ rest = _
              rw [mp_ext had (fun v hv => hst v (by simp [hv]))]
              simp [cv, adn]
            rw [e1] at key
            exact key
          · by_cases ha : a < sh.length
            · rw [List.getElem?_append_left ha] at hq0
              obtain ⟨t0, ht⟩ := hT a q0 ty hq0 hty0
              refine ⟨t0, ?_⟩
              rw [List.getElem?_append_left (List.getElem?_eq_some_iff.mp ht).1]
              unfold can
              rw [if_neg (by omega)]
              exact ht
            · rw [List.getElem?_append_right (by omega)] at hq0
              have hz : a - sh.length < 1 := (List.getElem?_eq_some_iff.mp hq0).1
              rw [show a - sh.length = 0 by omega] at hq0
              cases hq0
              cases hty0
              refine ⟨tys.length, ?_⟩
              unfold can
              rw [if_pos (by omega)]
              simp
      · cases h
    · cases h
  · -- Object.<init>
    have : len = 3 := by simpa [ilen, eq_comm] using hlen
    subst this
    split at h
    · rename_i a rest hcl
      split at h
      · rename_i hl
        cases h
        have h1 := pr_obj _ (lk_mem hcl)
        refine W.objInit hx hb hown (hts _ h1) (hts _ pr_w1.2.2.2.2.2.2.1) (hts _ pr_c3) rfl (by rw [hml]; exact hsz) rfl hdg (by rw [hRf]; exact hl.2) ?_ (same rfl rfl rfl)
        show 2 * 0 + ((mp ad _).map (fun v => v.category)).sum + 12 ≤ R.locals
        rw [cat_sum, hRl]
        omega
      · cases h
    · cases h
  · -- Math.max, Math.min, System.arraycopy
    have : len = 3 := by simpa [ilen, eq_comm] using hlen
    subst this
    have hcap : cells ≤ R.cells := by omega
    have hcap2 : slots ≤ R.slots := by omega
    split at h
    · rename_i b a rest hcl
      split at h
      · rename_i hl
        cases h
        have ia : inI a := hst (.inl a) (by simp)
        have ib : inI b := hst (.inl b) (by simp)
        refine va_mmax hx hb (by rw [hml, hsz]) hown (hts _ (pr_max _ (lk_mem hcl) rfl)) (hts _ pr_w1.1) (hts _ pr_w1.2.2.1) (hts _ pr_c1) (by rw [hRf]; exact hl.2) (by rw [cat_sum, hRl]; omega) hcap hcap2 hdg ?_
        have e1 : (if Int32.ofInt a < Int32.ofInt b then Int32.ofInt b else Int32.ofInt a) = Int32.ofInt (max a b) := by
          by_cases hab : a < b
          · rw [if_pos ((o32_lt ia ib).mpr hab), Int.max_def, if_pos (by omega)]
          · rw [if_neg (fun z => hab ((o32_lt ia ib).mp z)), Int.max_def]
            by_cases hab2 : a ≤ b
            · rw [if_pos hab2, show a = b by omega]
            · rw [if_neg hab2]
        rw [e1]
        exact same rfl rfl rfl
      · cases h
    · rename_i b a rest hcl
      split at h
      · rename_i hl
        cases h
        have ia : inI a := hst (.inl a) (by simp)
        have ib : inI b := hst (.inl b) (by simp)
        refine va_mmin hx hb (by rw [hml, hsz]) hown (hts _ (pr_min _ (lk_mem hcl) rfl)) (hts _ pr_w1.2.1) (hts _ pr_w1.2.2.1) (hts _ pr_c2) (by rw [hRf]; exact hl.2) (by rw [cat_sum, hRl]; omega) hcap hcap2 hdg ?_
        have e1 : (if Int32.ofInt b < Int32.ofInt a then Int32.ofInt b else Int32.ofInt a) = Int32.ofInt (min a b) := by
          by_cases hab : b < a
          · rw [if_pos ((o32_lt ib ia).mpr hab), Int.min_def, if_neg (by omega)]
          · rw [if_neg (fun z => hab ((o32_lt ib ia).mp z)), Int.min_def, if_pos (by omega)]
        rw [e1]
        exact same rfl rfl rfl
      · cases h
    · rename_i n dp a1 sp a0 rest hcl
      split at h
      · rename_i n0 n1 h0 h1
        split at h
        · rename_i hl
          cases h
          obtain ⟨hl1, hl2, l1, l2, l3, l4, l5⟩ := hl
          have m0 := hM.2.2.2 _ _ h0
          have m1 := hM.2.2.2 _ _ h1
          simp only at m0 m1
          have isp : inI sp := ⟨by omega, by omega⟩
          have idp : inI dp := ⟨by omega, by omega⟩
          have inn : inI n := ⟨by omega, by omega⟩
          have nn : ∀ {z : Int}, inI z → 0 ≤ z → ¬ Int32.ofInt z < 0 := fun hz h0 hh => by
            rw [← o32_0, o32_lt hz ⟨by decide, by decide⟩] at hh
            omega
          obtain ⟨t0, ht0⟩ := hT a0 _ _ h0 rfl
          obtain ⟨t1, ht1⟩ := hT a1 _ _ h1 rfl
          refine va_copyi hx hb (by rw [hml, hsz]) hown (hts _ (pr_cpy _ (lk_mem hcl) rfl)) (hts _ pr_w1.2.2.2.1) (hts _ pr_w1.2.2.2.2.1) (hts _ pr_w1.2.2.2.2.2.1) hK hP hD hS a0 a1 t0 t1 (by rw [wl_at h0, ce_int]) (by rw [wl_at h1, ce_int]) ht0 ht1 rfl (nn isp l1) (nn idp l2) (nn inn l3) (by rw [o32_cl isp, o32_cl inn]; omega) (by rw [o32_cl idp, o32_cl inn]; omega) (fun _ _ => rfl) (by rw [hRf]; exact hl2) (by rw [cat_sum, hRl]; have := nfw; omega) hdg (fun H1 locs1 g1 g2 g3 => ?_)
          have hset : (wl ad ca sh σ).set a1 (ad a1, .inl (ca a1, n1, .inl (va_cpy (fun j => Int32.ofInt (σ a0 j)) (fun j => Int32.ofInt (σ a1 j)) (Int32.ofInt sp).toNatClampNeg (Int32.ofInt dp).toNatClampNeg (Int32.ofInt n).toNatClampNeg))) = wl ad ca sh (aupA σ a1 (va_cpy (σ a0) (σ a1) sp.toNat dp.toNat n.toNat)) := by
            refine wl_set h1 ?_
            rw [o32_cl isp, o32_cl idp, o32_cl inn, ce_int]
            congr 4
            funext j
            unfold va_cpy
            split <;> rfl
          rw [hset] at g1 g2
          exact kk H1 locs1 ad ca tys cells slots (fun _ _ => rfl) ⟨hK, g1, g2, g3, hT, mOk_set hM h1 (fun j => by unfold va_cpy; split; exact hM.1 _ _; exact hM.1 _ _) (fun j hh => by rcases hh with hh | hh <;> simp [fkd, fK] at hh)⟩ (by omega) (by omega)
        · cases h
      · cases h
    · cases h
  · cases h
end MS
