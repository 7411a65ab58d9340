/-! the law: its start -/
section LWS
variable {p : Program} {l : Launch} {e : Env} {s : State} {m : MethodId} {below : List Frame} {meth : Method} {c : Code} {b L : Nat} {xs : Nat → Int32} {D : va_G}
variable {A : Nat → Prop} {H : Heap} {locs : List Loc} {cells slots : Nat} {Q : State → Prop} {ad : Nat → Nat} {ca : Nat → ClassId} {tys : List (ClassId × FieldType)} {sh sh' : aSh} {σ σ' : aSg} {pc : Nat} {ls : Array Slot} {me : aMe} {r : Nat}
theorem lw_amb (C0 : lw_At p s m meth c b L xs) : Amb (fun q => s.heap.size ≤ q) s s.heap := by
  obtain ⟨hx, hb, hr, hml, hown, hts0, hX, hbl, hlocks, hgv⟩ := id C0
  have hs := flat_of_before _ hgv
  have hA : ∀ a : Nat, a < s.heap.size → ¬ (fun q : Nat => s.heap.size ≤ q) a := fun a ha => Nat.not_le.mpr ha
  refine ⟨fun w hw => ?_, va_AO.of (hts0 _ wLao), ?_⟩
  · have hm := (List.mem_filter.mp hw).1
    obtain ⟨a, i, x, h, rfl⟩ := nest_form hw
    exact va_Nw.of rfl (hts0 _ hm)
  · obtain ⟨t, ht, hT⟩ := va_Tof (tm := .static "BinderPress" "SIGNS" "[I") (ty := .int) (N := 5) (f := sgV) (A := fun q => s.heap.size ≤ q) (by decide) (hs (Cond.arrayOf (.static "BinderPress" "SIGNS" "[I") .int) (by decide +kernel)) (va_eqt (hs (Cond.eq (.length (.static "BinderPress" "SIGNS" "[I")) (.int 5)) (by decide +kernel))) (fun j hj => by
      match j, hj with
      | 0, _ => exact va_eqt (z := 73) (hs (Cond.eq (.elem (.static "BinderPress" "SIGNS" "[I") (.int 0)) (.int 73)) (by decide +kernel))
      | 1, _ => exact va_eqt (z := 75) (hs (Cond.eq (.elem (.static "BinderPress" "SIGNS" "[I") (.int 1)) (.int 75)) (by decide +kernel))
      | 2, _ => exact va_eqt (z := 83) (hs (Cond.eq (.elem (.static "BinderPress" "SIGNS" "[I") (.int 2)) (.int 83)) (by decide +kernel))
      | 3, _ => exact va_eqt (z := 66) (hs (Cond.eq (.elem (.static "BinderPress" "SIGNS" "[I") (.int 3)) (.int 66)) (by decide +kernel))
      | 4, _ => exact va_eqt (z := 67) (hs (Cond.eq (.elem (.static "BinderPress" "SIGNS" "[I") (.int 4)) (.int 67)) (by decide +kernel))
      | j + 5, hj => omega) hA
    exact ⟨t, va_Zof (hts0 _ wLls) (hts0 _ (gW_tbl (ini_in 9 (by omega)))) ht hA, hT⟩
theorem lw_new {ci idx : Nat} {rest : List Value} (C0 : lw_At p s m meth c b L xs) (hA : ∀ q, s.heap.size ≤ q → A q) (hci : ci < 11) (w1 : Jvm.Cond.classLink "BinderPressLaw" idx (cnm ci) ∈ gW) (w2 : Jvm.Cond.instantiable (cnm ci) (aN ci) ∈ gW) (hdg : decode code pc = .ok (.new idx, 3)) (hW : Wd D A s H locs ad ca tys sh σ) (hl : sh.length < 1000) (hc : cells + 1 ≤ 600000) (hs : slots + aN ci ≤ 7302250)
    (kk : ∀ (H1 : Heap) (q : Nat) (ca' : Nat → ClassId), Wd D A s H1 locs (adn ad sh.length q) ca' tys (sh ++ [(ci, aN ci)]) (aupA σ sh.length (fdf ci)) → W p l e room_1 s m #[Value.ref b] below meth c H1 locs (cells + 1) (slots + aN ci) Q (F0 m (pc + 3) ls (.ref q :: rest))) : W p l e room_1 s m #[Value.ref b] below meth c H locs cells slots Q (F0 m pc ls rest) := by
  obtain ⟨hx, hb, hr, hml, hown, hts0, hX, hbl, hlocks, hgv⟩ := id C0
  have hts : ∀ w ∈ gW, w.before #[Value.ref b] s = true := fun w hw => hts0 w (gW_tbl hw)
  obtain ⟨hK, hP, hD, hS, hT, hM⟩ := hW
  have w3 := ini_in ci hci
  obtain ⟨rr, hrr, hr1, hr2⟩ := acls_at hci
  obtain ⟨hty, hnm, -⟩ := cls_ty ci rr hrr
  rw [← hr1] at w1 w2 w3
  rw [← hr2] at w2 hs
  have hf22 : ∀ j, (((ci, aN ci) : Nat × Nat).1 = 22 ∨ fkd ((ci, aN ci) : Nat × Nat).1 j = 2) → fdf ci j < 0 := fun j hj => by
    rcases hj with hj | hj
    · simp only at hj; omega
    · simp only at hj; unfold fdf; rw [if_pos hj]; decide
  refine va_new (D := D) (ci := ci) (C := rr.1) (T := rr.2.1) (N := rr.2.2) (fs := ((fK[ci]?).getD []).mapIdx (fun j kd => fv ad kd (fdf ci j))) hx hb hts (cls_lay ci hci rr hrr) (aTy ci) hty hown (hts _ w1) (hts _ w2) (hts _ w3) hK hP hD hS hA hrr (fun j hj => ?_) hc hs hdg (fun q H1 h1 h2 h3 => ?_)
  · rw [hr2] at hj
    unfold vp_V
    rw [List.getD_eq_getElem?_getD, fields_at hj, Option.getD_some, fdf_ad]
    exact fdf_ok ci hci j hj
  · have hw : wl (adn ad sh.length q) (can ca sh.length 0) (sh ++ [(ci, aN ci)]) (aupA σ sh.length (fdf ci)) = wl ad ca sh σ ++ [(q, .inr (ci, ((fK[ci]?).getD []).mapIdx (fun j kd => fv ad kd (fdf ci j))))] := by
      rw [wl_push hM hf22, ce_obj (by omega)]
    rw [← hw] at h1 h2
    rw [hr2]
    refine kk H1 q (can ca sh.length 0) ⟨hK, h1, h2, h3, fun a q0 ty hq0 hty0 => ?_, mOk_push hM hl (fun j => by unfold fdf; split <;> exact ⟨by decide, by decide⟩) hf22 (by
      have : ∀ c, c < 11 → aN c ≤ 100000 := by decide +kernel
      exact this ci hci)⟩
    by_cases ha : a < sh.length
    · rw [List.getElem?_append_left ha] at hq0
      obtain ⟨t0, ht⟩ := hT a q0 ty hq0 hty0
      refine ⟨t0, ?_⟩
      unfold can
      rw [if_neg (by omega)]
      exact ht
    · rw [List.getElem?_append_right (by omega)] at hq0
      have hz : a - sh.length < 1 := (List.getElem?_eq_some_iff.mp hq0).1
      rw [show a - sh.length = 0 by omega] at hq0
      cases hq0
      unfold aty at hty0
      rw [if_neg (by simp only; omega), if_neg (by simp only; omega), if_neg (by simp only; omega)] at hty0
      cases hty0
theorem lw_init {n idx : Nat} {rsC : List Value} (C0 : lw_At p s m meth c b L xs) (hA : ∀ q, s.heap.size ≤ q → A q) (hAmb : Amb A s s.heap) (hW : Wd D A s H locs ad ca tys sh σ) (hrun : run n me 0 (initL me.2.2.2.1 [.inr (.inl r)]) [] sh σ = some ([], sh', σ')) (hme : me ∈ mtab) (hfl : 1 ≤ me.2.2.2.1) (hlv : me.2.2.2.2.2.1 ≤ 7) (hnm : me.2.1.name = "<init>") (hret : me.2.2.2.2.1 = none) (hn0 : me.2.2.2.2.2.2.1 = 0) (hr : r < sh.length) (w1 : Jvm.Cond.methodLink "BinderPressLaw" idx me.2.1 ∈ gW) (w2 : Jvm.Cond.instanceMethod me.2.1 ∈ gW) (hcat : (rsC.map fun v => v.category).sum ≤ 8) (hsz : ls.size = 4) (hdg : decode code pc = .ok (.invokespecial idx, 3)) (hc : cells + (sh'.length - sh.length) ≤ 600000) (hs : slots + (ssz sh' - ssz sh) ≤ 7302250)
    (kk : ∀ (H' : Heap) (locs' : List Loc) (ad' : Nat → Nat) (ca' : Nat → ClassId) (tys' : List (ClassId × FieldType)), (∀ a, a < sh.length → ad' a = ad a) → Wd D A s H' locs' ad' ca' tys' sh' σ' → W p l e room_1 s m #[Value.ref b] below meth c H' locs' (cells + (sh'.length - sh.length)) (slots + (ssz sh' - ssz sh)) Q (F0 m (pc + 3) ls rsC)) : W p l e room_1 s m #[Value.ref b] below meth c H locs cells slots Q (F0 m pc ls (.ref (ad r) :: rsC)) := by
  obtain ⟨hx, hb, hrt, hml, hown, hts0, hX, hbl, hlocks, hgv⟩ := id C0
  have hts : ∀ w ∈ gW, w.before #[Value.ref b] s = true := fun w hw => hts0 w (gW_tbl hw)
  have hasA : ∀ w ∈ ([.inr (.inl r)] : List AV), vOk sh w := fun w hw => by
    rcases List.mem_singleton.mp hw with rfl
    exact hr
  have hM := hW.2.2.2.2.2
  have hMet : MetA l D me [.inr (.inl r)] sh σ [] sh' σ' := met_entry (run_sound l D n) hme hrun hfl hasA hM
  have hM' := (run_ok _ _ _ _ _ _ _ _ _ _ hrun hM (initL_ok hasA) (fun w hw => by cases hw)).1
  obtain ⟨mL, mc11, mcl, mpar, mmh, mvh, mpl⟩ := maxL_in me hme
  have hini := ini_in me.1 mc11
  rw [← mcl] at hini
  obtain ⟨hK, hP, -, -, hT, -⟩ := id hW
  have hM1 := hMet ad ca tys H.size hT
  have hR : (rmA me sh sh').frames + 1 ≤ room_1.frames ∧ 8 + (me.2.2.2.1 + 11) + (rmA me sh sh').locals ≤ room_1.locals := by
    show me.2.2.2.2.2.1 + 1 ≤ 10 ∧ 8 + (me.2.2.2.1 + 11) + 40 * me.2.2.2.2.2.1 ≤ 360
    omega
  have hfix : CallFix p m c code 4 s #[Value.ref b] gW "BinderPressLaw" := ⟨hx, hb, hml, hown, hts⟩
  have hws := ws_in hme
  rw [hret] at hM1 hws
  have run1 := va_runI (p := p) (e := e) (below := below) (meth := meth) (locs := locs) (cells := cells) (slots := slots) (g := F0 m pc ls (.ref (ad r) :: rsC)) (rest := rsC) (R := room_1) (As := []) (b := ad r) hfix hM1 (cwI _ hts (good_all hws) rfl rfl rfl (hts _ hini) (hts _ w1) (hts _ w2) hnm ⟨mmh, mvh, mpar⟩ hR) ⟨PA.blind, fun U hU hw => PA_atL hA hAmb hW _ U hU hw⟩ rfl hn0.symm hsz rfl (lv_room hcat) hdg ⟨hc, hs⟩
  exact callL hA hW hM' run1 (fun H' locs' ad' ca' tys' g1 g2 => kk H' locs' ad' ca' tys' g1 g2)
theorem kn_all (C0 : lw_At p s m meth c b L xs) : ∃ D : va_G, va_K D acls [] s := by
  obtain ⟨hx, hb, hrt, hml, hown, hts0, hX, hbl, hlocks, hgv⟩ := id C0
  have hts : ∀ w ∈ gW, w.before #[Value.ref b] s = true := fun w hw => hts0 w (gW_tbl hw)
  have hi : ∀ k, k < 11 → Jvm.Cond.instantiable (cnm k) (aN k) ∈ gW := fun k hk => by
    match k, hk with
    | 0, _ => exact wLi0
    | 1, _ => exact wLi1
    | 2, _ => exact wLi2
    | 3, _ => exact wLi3
    | 4, _ => exact wLi4
    | 5, _ => exact wLi5
    | 6, _ => exact wLi6
    | 7, _ => exact wLi7
    | 8, _ => exact wLi8
    | 9, _ => exact wLi9
    | 10, _ => exact wLi10
    | k + 11, hk => omega
  have h : ∀ k : Nat, ∃ z : ClassId × (Nat → Nat), ∀ q : vw_C, acls[k]? = some q → u_Kn s q.1 q.2.1 q.2.2 z.1 z.2 := by
    intro k
    by_cases hk : k < 11
    · obtain ⟨rr, hrr, hr1, hr2⟩ := acls_at hk
      have w2 := hi k hk
      rw [← hr1, ← hr2] at w2
      obtain ⟨cC, iS, h0⟩ := u_known hts (cls_lay k hk rr hrr) (hts _ w2)
      refine ⟨(cC, iS), fun q hq => ?_⟩
      rw [hrr] at hq
      cases hq
      exact h0
    · refine ⟨(0, fun _ => 0), fun q hq => ?_⟩
      have : k < acls.length := (List.getElem?_eq_some_iff.mp hq).1
      have e : acls.length = 11 := rfl
      omega
  refine ⟨(fun k => (Classical.choose (h k)).1, fun k => (Classical.choose (h k)).2), fun k q hq => Classical.choose_spec (h k) q hq, fun k q hq => by simp at hq⟩
theorem sz_1 : ssz [(9, 13)] = 13 := rfl
theorem sz_2 : 1 + ((SH.take 130).length - 1) + 1 + (SH.length - 131) = 154 ∧ 13 + (ssz (SH.take 130) - 13) + 37 + (ssz SH - ssz (SH.take 130 ++ [(10, 37)])) = ssz SH ∧ (SH.take 130).length = 130 ∧ ssz (SH.take 130) ≤ ssz SH ∧ 13 ≤ ssz (SH.take 130) ∧ ssz (SH.take 130 ++ [(10, 37)]) = ssz (SH.take 130) + 37 := by decide +kernel
/-- from the entry, for every script of at most 2048 ints -/
theorem whole_start {p : Program} {e : Env} {s : State} {m : MethodId} {below : List Frame} {meth : Method} {c : Code} (l : Launch) {b L : Nat} {xs : Nat → Int32} (hL : L ≤ 2048) (C0 : lw_At p s m meth c b L xs) : W p l e room_1 s m #[Value.ref b] below meth c s.heap [] 0 0 (lw_Z below #[Value.ref b] s) (entryFrame m ([Value.ref b] : List Value).toArray 4) := by
  obtain ⟨hx, hb, hr, hml, hown, hts0, hX, hbl, hlocks, hgv⟩ := id C0
  have hA : ∀ q : Nat, s.heap.size ≤ q → (fun q : Nat => s.heap.size ≤ q) q := fun _ h => h
  have hAmb := lw_amb C0
  obtain ⟨D, hK⟩ := kn_all C0
  obtain ⟨σ1, σ2, hc1, hc2, hrf, hzr⟩ := ctor2_ok
  obtain ⟨t1, t2, t3, t4, t5, t6⟩ := sz_2
  have tz := sz_ok
  have hW0 : Wd D (fun q : Nat => s.heap.size ≤ q) s s.heap [] (fun _ => 0) (fun _ => 0) [] [] (fun _ _ => 0) := ⟨hK, fun k q h => by simp [wl] at h, ⟨fun i j p q h => by simp [wl] at h, fun k q h => by simp [wl] at h⟩, va_S.rf, fun a q ty h => by simp at h, ⟨fun a j => (⟨by decide, by decide⟩ : inI 0), fun a q h => by simp at h, by simp, fun a q h => by simp at h⟩⟩
  have hl := lv_entry ([.ref b]) (n := 4) (Nat.le_of_ble_eq_true rfl)
  rw [lg_entry_eq]
  generalize (lg_sl ([.ref b]) ++ List.replicate (4 - (lg_sl ([.ref b])).length) Slot.unset).toArray = ls at hl ⊢
  have hl : lv_has ls 4 [(0, .ref b)] := hl
  refine lw_new (ci := 9) C0 hA (by omega) wLc9 wLi9 dL_0 hW0 (by simp) (by omega) (by rw [show aN 9 = 13 from rfl]; omega) (fun H1 q ca1 hW1 => ?_)
  have hW1 : Wd D (fun q : Nat => s.heap.size ≤ q) s H1 [] (adn (fun _ => 0) 0 q) ca1 [] [(9, 13)] z0 := hW1
  have aq : adn (fun _ => 0) 0 q 0 = q := rfl
  refine lv_dup hx hb dL_3 rfl ?_
  refine lw_init (r := 0) (n := 4000) (me := m86) (sh' := SH.take 130) (σ' := σ1) (rsC := [.ref q]) (ad := adn (fun _ => 0) 0 q) C0 hA hAmb hW1 hc1 (List.mem_of_getElem? m86_at) (Nat.le_of_ble_eq_true rfl) (Nat.le_of_ble_eq_true rfl) (by decide +kernel) rfl rfl (by simp) wL86_1 wL86_2 (Nat.le_of_ble_eq_true rfl) hl.1 dL_4 (by rw [t3]; simp) (by rw [sz_1, show aN 9 = 13 from rfl]; omega) (fun H2 locs2 ad2 ca2 tys2 g2 hW2 => ?_)
  have a20 : ad2 0 = q := g2 0 (by simp)
  refine lv_astore_n (lv' := [(1, .ref q), (0, .ref b)]) hx hb dL_7 rfl hl (by decide) rfl (fun ls hl => ?_)
  refine lw_new (ci := 10) C0 hA (by omega) wLc10 wLi10 dL_8 hW2 (by rw [t3]; omega) (by rw [t3]; simp) (by rw [sz_1, show aN 9 = 13 from rfl, show aN 10 = 37 from rfl]; omega) (fun H3 q3 ca3 hW3 => ?_)
  have hW3 : Wd D (fun q : Nat => s.heap.size ≤ q) s H3 locs2 (adn ad2 130 q3) ca3 tys2 (SH.take 130 ++ [(10, 37)]) (aupA σ1 130 (fdf 10)) := by rw [t3] at hW3; exact hW3
  have aq3 : adn ad2 130 q3 130 = q3 := rfl
  have aq0 : adn ad2 130 q3 0 = q := a20
  refine lv_dup hx hb dL_11 rfl ?_
  refine lw_init (r := 130) (n := 4000) (me := m126) (sh' := SH) (σ' := σ2) (rsC := [.ref q3]) (ad := adn ad2 130 q3) C0 hA hAmb hW3 hc2 (List.mem_of_getElem? m126_at) (Nat.le_of_ble_eq_true rfl) (Nat.le_of_ble_eq_true rfl) (by decide +kernel) rfl rfl (by rw [List.length_append, t3]; simp) wL126_1 wL126_2 (Nat.le_of_ble_eq_true rfl) hl.1 dL_12 (by rw [List.length_append, t3, SH_len]; simp) (by rw [sz_1, t6, show aN 9 = 13 from rfl, show aN 10 = 37 from rfl]; omega) (fun H4 locs4 ad4 ca4 tys4 g4 hW4 => ?_)
  have b0 : ad4 0 = q := (g4 0 (by rw [List.length_append, t3]; simp)).trans aq0
  have b130 : ad4 130 = q3 := (g4 130 (by rw [List.length_append, t3]; simp)).trans aq3
  refine lv_astore_n (lv' := [(2, .ref q3), (1, .ref q), (0, .ref b)]) hx hb dL_15 rfl hl (by decide) rfl (fun ls hl => ?_)
  refine lv_iconst (v := Int32.ofInt 0) hx hb dL_16 rfl ?_
  refine lv_istore_n (lv' := [(3, .int (Int32.ofInt 0)), (2, .ref q3), (1, .ref q), (0, .ref b)]) hx hb dL_17 rfl hl (by decide) rfl (fun ls hl => ?_)
  refine W.widen (k := 154) (n := ssz SH) (by rw [List.length_append, t3, SH_len]; simp) (by rw [sz_1, t6, show aN 9 = 13 from rfl, show aN 10 = 37 from rfl]; omega) ?_
  obtain ⟨RC, RM⟩ := start_ok hzr
  exact lw_loop C0 hAmb hL 513 0 H4 locs4 ad4 ca4 tys4 σ2 S0 ls (by omega) (by omega) (by rw [mkM_id hrf]; exact hW4) RC RM (by rw [b0, b130]; exact hl)
end LWS
