/-! the law: its calls -/
section LWC
variable {p : Program} {l : Launch} {e : Env} {R : Room} {s : State} {m : MethodId} {args : Array Value} {below : List Frame} {meth : Method} {c : Code} {H : Heap} {locs : List Loc} {cells slots : Nat} {Q : State → Prop}
variable {me me' mec mer : aMe} {A : Nat → Prop} {D : va_G} {ad : Nat → Nat} {ca : Nat → ClassId} {tys : List (ClassId × FieldType)} {sh sh' : aSh} {σ σ' : aSg} {pc : Nat} {lsC ls : Array Slot} {v as : List AV} {b L I r : Nat} {xs : Nat → Int32} {S : SS}
theorem wl_freeL (hA : ∀ q, s.heap.size ≤ q → A q) (hW : Wd D A s H locs ad ca tys sh σ) : ∀ q, va_A (wl ad ca sh σ) H.size q → A q := by
  intro q h
  obtain ⟨hK, hP, hD, hS, -⟩ := hW
  rcases h with ⟨k, ee, h⟩ | h
  · exact hD.2 k (q, ee) h
  · exact hA q (Nat.le_trans hS.1 h)
theorem PA_atL (hA : ∀ q, s.heap.size ≤ q → A q) (hAmb : Amb A s s.heap) (hW : Wd D A s H locs ad ca tys sh σ) (av : List Value) (U : State) (hU : U.heap = H) (hw : s.WarmedH U.vm) : PA D av (wl ad ca sh σ) tys H.size av.toArray U := by
  have hfr := wl_freeL hA hW
  obtain ⟨hK, hP, hD, hS, -⟩ := hW
  obtain ⟨h1, h2, t, h3, h4⟩ := hAmb
  refine ⟨rfl, by rw [hU], by rw [hU]; exact hP, va_K.moved hw.alike hK, hD.weaken (fun _ _ _ _ => trivial), fun w hw' => ?_, va_AO.moved hw.alike h2, t, ?_, ?_⟩
  · obtain ⟨a', i, x, hs, rfl⟩ := nest_form hw'
    exact va_Nw.warmM hw (h1 _ hw')
  · rw [hU]
    exact va_Z.moved hw.alike ((h3.kept hS.2.1).narrow hfr)
  · rw [hU]
    exact va_T.moved hw.alike ((h4.kept hS.2.1).narrow hfr)
theorem callL (hA : ∀ q, s.heap.size ≤ q → A q) (hW : Wd D A s H locs ad ca tys sh σ) (hM' : mOk sh' σ') {mc ms : Nat} {st0 rsC : List Value} {a : Array Value}
    (hr : va_Run p l e R s m args below meth c H locs cells slots mc ms (F0 m pc lsC st0) rsC (QA D (va_A (wl ad ca sh σ) H.size) ad sh.length v sh' σ' a) (va_A (wl ad ca sh σ) H.size))
    (kk : ∀ (H' : Heap) (locs' : List Loc) (ad' : Nat → Nat) (ca' : Nat → ClassId) (tys' : List (ClassId × FieldType)), (∀ a, a < sh.length → ad' a = ad a) → Wd D A s H' locs' ad' ca' tys' sh' σ' → W p l e R s m args below meth c H' locs' (cells + mc) (slots + ms) Q (F0 m (pc + 3) lsC ((mp ad' v).head?.toList ++ rsC))) : W p l e R s m args below meth c H locs cells slots Q (F0 m pc lsC st0) := by
  have hfr := wl_freeL hA hW
  obtain ⟨hK, hP, hD, hS, -⟩ := hW
  intro T hT X
  obtain ⟨v0, st₀, t, T', L, h0, X', hL, e1, e2, ⟨⟨ad', ca', tys', hext, hv, q1, q2, q3, q4⟩, hz, hk⟩, stp⟩ := hr T hT X
  cases hv
  rw [h0] at hz hk
  have hal : s.vm.Alike t.vm := by rw [← e2]; exact X'.warmed.alike
  obtain ⟨t2, a1, b1⟩ := kk T'.heap (locs ++ L) ad' ca' tys' hext ⟨va_K.moved hal.symm q2, by rw [e1]; exact q1, q3.weaken (fun _ q _ h => hfr q.1 h), ⟨Nat.le_trans hS.1 (by rw [e1]; exact hz), fun q h1 h2 => by rw [e1, hk q (Nat.lt_of_lt_of_le h1 hS.1) (fun z => h2 (hfr q z))]; exact hS.2.1 q h1 h2, fun q hq => by
      rcases List.mem_append.mp hq with h | h
      · exact hS.2.2 q h
      · exact hfr _ (hL q h)⟩, q4, hM'⟩ T' rfl X'
  exact ⟨t2, stp t2 a1, b1⟩
theorem gW_tbl {w : Jvm.Cond} (h : w ∈ gW) : w ∈ lw_tbl := (List.mem_filter.mp h).1
/-- a method of an object -/
theorem lw_virt (C0 : lw_At p s m meth c b L xs) (hA : ∀ q, s.heap.size ≤ q → A q) (hAmb : Amb A s s.heap) (hW : Wd D A s H locs ad ca tys SH (mkM σ)) {Qf : List AV → aSg → Prop} (hC : CA me (.inr (.inl r) :: as) σ Qf) (hme : me ∈ mtab) (ho : isO r me.1) (has : ∀ w ∈ as, vOk SH w) (hn : as.length = me.2.2.2.2.2.2.1) (hfl : (flA (.inr (.inl r) :: as)).length ≤ me.2.2.2.1) (hlv : me.2.2.2.2.2.1 ≤ 7) {idx : Nat} (w1 : Jvm.Cond.methodLink "BinderPressLaw" idx me.2.1 ∈ gW) (w2 : Jvm.Cond.instanceMethod me.2.1 ∈ gW) (w3 : Jvm.Cond.selects (cnm me.1) me.2.1 me.2.1 ∈ gW) {rsC stC : List Value} (hcat : (rsC.map fun v => v.category).sum ≤ 8) (hsz : lsC.size = 4) (hdg : decode code pc = .ok (.invokevirtual idx, 3)) (hstk : stC = (mp ad as).reverse ++ .ref (ad r) :: rsC) (hcs : cells ≤ 600000 ∧ slots ≤ 7302250)
    (kk : ∀ (v : List AV) (σ' : aSg) (H' : Heap) (locs' : List Loc) (ad' : Nat → Nat) (ca' : Nat → ClassId) (tys' : List (ClassId × FieldType)), Qf v σ' → (∀ a, a < SH.length → ad' a = ad a) → Wd D A s H' locs' ad' ca' tys' SH (mkM σ') → W p l e room_1 s m #[Value.ref b] below meth c H' locs' cells slots Q (F0 m (pc + 3) lsC ((mp ad' v).head?.toList ++ rsC))) : W p l e room_1 s m #[Value.ref b] below meth c H locs cells slots Q (F0 m pc lsC stC) := by
  obtain ⟨hx, hb, hr, hml, hown, hts0, hX, hbl, hlocks, hgv⟩ := id C0
  have hts : ∀ w ∈ gW, w.before #[Value.ref b] s = true := fun w hw => hts0 w (gW_tbl hw)
  obtain ⟨n, v, σ', hrun, hq⟩ := hC
  have hrun' := runN_run _ _ _ _ _ _ _ _ hrun
  have hrl : r < SH.length := (List.getElem?_eq_some_iff.mp ho).1
  have hasA : ∀ w ∈ (.inr (.inl r) :: as : List AV), vOk SH w := fun w hw => by
    rcases List.mem_cons.mp hw with rfl | hw
    · exact hrl
    · exact has w hw
  have hM := hW.2.2.2.2.2
  have hMet : MetA l D me (.inr (.inl r) :: as) SH (mkM σ) v SH (mkM σ') := met_entry (run_sound l D n) hme hrun' hfl hasA hM
  have hM' := (run_ok _ _ _ _ _ _ _ _ _ _ hrun' hM (initL_ok hasA) (fun w hw => by cases hw)).1
  obtain ⟨mL, mc11, mcl, mpar, mmh, mvh, mpl⟩ := maxL_in me hme
  have hini := ini_in me.1 mc11
  rw [← mcl] at hini
  obtain ⟨hK, hP, -, -, hT, -⟩ := id hW
  have hM1 := hMet ad ca tys H.size hT
  have hR : (rmA me SH SH).frames + 1 ≤ room_1.frames ∧ 8 + (me.2.2.2.1 + 11) + (rmA me SH SH).locals ≤ room_1.locals := by
    show me.2.2.2.2.2.1 + 1 ≤ 10 ∧ 8 + (me.2.2.2.1 + 11) + 40 * me.2.2.2.2.2.1 ≤ 360
    omega
  have hfix : CallFix p m c code 4 s #[Value.ref b] gW "BinderPressLaw" := ⟨hx, hb, hml, hown, hts⟩
  obtain ⟨rr, hrr, hr1, hr2⟩ := acls_at mc11
  have hrecv := va_recv hK hP (ci := me.1) (q0 := r) (q := rr) hrr (by rw [wl_at ho, ce_obj (by omega)])
  rw [hr1] at hrecv
  have z1 : SH.length - SH.length = 0 := Nat.sub_self _
  have z2 : ssz SH - ssz SH = 0 := Nat.sub_self _
  have run1 := va_runV (p := p) (e := e) (below := below) (meth := meth) (locs := locs) (cells := cells) (slots := slots) (g := F0 m pc lsC stC) (rest := rsC) (R := room_1) (C := cnm me.1) (As := mp ad as) (b := ad r) hfix hM1 (cwV _ hts (good_all (by
      intro w hw
      unfold wsV at hw
      rcases List.mem_append.mp hw with hw | hw
      · simp only [List.mem_cons, List.not_mem_nil, or_false] at hw
        rcases hw with rfl | rfl | rfl | rfl
        · exact w1
        · exact w2
        · exact w3
        · rw [← mcl]; exact hini
      · exact ws_in hme w hw)) rfl rfl rfl ⟨mcl, mmh, mvh, mpar⟩ hR) ⟨PA.blind, hrecv, fun U hU hw => PA_atL hA hAmb hW _ U hU hw⟩ rfl (by rw [List.length_map]; exact hn) hsz hstk (lv_room hcat) hdg (by rw [z1, z2]; exact hcs)
  refine callL hA hW hM' run1 (fun H' locs' ad' ca' tys' g1 g2 => ?_)
  rw [z1, z2, Nat.add_zero, Nat.add_zero]
  exact kk v σ' H' locs' ad' ca' tys' hq g1 g2
/-- a number of the script -/
theorem lw_arg (C0 : lw_At p s m meth c b L xs) (hL : L ≤ 2048) (hI : I + 4 ≤ L) (hS : va_S (fun q => s.heap.size ≤ q) s.heap H locs) {lv : List (Nat × Value)} (hl : lv_has ls 4 ((3, .int (Int32.ofInt (I : Int))) :: lv)) (h0 : lv[2]? = some (0, .ref b)) {k : Nat} (hk : k ≤ 3) {rest : List Value} (d0 : decode code pc = .ok (.aload_n 0, 1)) (d1 : decode code (pc + 1) = .ok (.iload_n 3, 1)) (d2 : decode code (pc + 2) = .ok (.iconst (k : Int), 1)) (d3 : decode code (pc + 3) = .ok (.iadd, 1)) (d4 : decode code (pc + 4) = .ok (.iaload, 1)) (kk : W p l e room_1 s m #[Value.ref b] below meth c H locs cells slots Q (F0 m (pc + 5) ls (.int (Int32.ofInt (xs (I + k)).toInt) :: rest))) : W p l e room_1 s m #[Value.ref b] below meth c H locs cells slots Q (F0 m pc ls rest) := by
  obtain ⟨hx, hb, hr, hml, hown, hts0, hX, hbl, hlocks, hgv⟩ := id C0
  have hbA : ¬ (fun q : Nat => s.heap.size ≤ q) b := Nat.not_le.mpr hbl
  refine lv_aload_n (x := b) hx hb d0 rfl (lv_at hl 3 (by simpa using h0)) ?_
  refine lv_iload_n hx hb d1 rfl (lv_at hl 0 rfl) ?_
  refine lv_iconst (v := Int32.ofInt (k : Int)) hx hb d2 rfl ?_
  refine lv_iadd hx hb d3 ?_
  have e1 : Int32.ofInt (I : Int) + Int32.ofInt (k : Int) = Int32.ofInt ((I + k : Nat) : Int) := by
    rw [← Int32.ofInt_add]; congr 1
  rw [e1]
  obtain ⟨v1, v2⟩ := vin (i := ((I + k : Nat) : Int)) (n := L) (by omega) (by omega) (by omega)
  refine va_sld hx hb hX hbl hbA hS v1 d4 ?_
  rw [v2, Int.toNat_natCast]
  rw [Int32.ofInt_toInt] at kk
  exact kk
theorem row_130 : ∀ r, r < 154 → kdS r = 3 → r < 130 := by decide +kernel
theorem RK_M (h : RK σ) (hf : FrM σ σ') : RK σ' := by
  intro r hr
  have hr0 : r < 154 := by
    have := hr.1
    unfold isO at this
    exact (List.getElem?_eq_some_iff.mp this).1
  have := row_130 r hr0 (row_kd hr)
  rw [hf r this]
  exact h r hr
theorem RepC_M (h : RepC σ S) (hf : FrM σ σ') : RepC σ' S := h.keep (RK_M h.1 hf) (fun a ha => hf a (by omega))
theorem RepM_C (h : RepM σ S) (hf : FrC σ σ') : RepM σ' S := h.keep (hf 131 (by omega)) (hf 132 (by omega)) (hf 133 (by omega)) ⟨by rw [hf 130 (by omega)], by rw [hf 130 (by omega)], by rw [hf 130 (by omega)]⟩
def lw_Nx (p : Program) (l : Launch) (e : Env) (s : State) (m : MethodId) (below : List Frame) (meth : Method) (c : Code) (b : Nat) (Q : State → Prop) (D : va_G) (ad : Nat → Nat) (ls : Array Slot) : Prop := ∀ (σ' : aSg) (S' : SS) (H' : Heap) (locs' : List Loc) (ad' : Nat → Nat) (ca' : Nat → ClassId) (tys' : List (ClassId × FieldType)), Wd D (fun q => s.heap.size ≤ q) s H' locs' ad' ca' tys' SH (mkM σ') → RepC σ' S' → RepM σ' S' → ad' 0 = ad 0 → ad' 130 = ad 130 → W p l e room_1 s m #[Value.ref b] below meth c H' locs' 154 (ssz SH) Q (F0 m 718 ls [])
theorem fl_ints (a : Nat) (is : List Int) : (flA (.inr (.inl a) :: is.map .inl)).length = 1 + is.length := by
  have h : ∀ is : List Int, (flA (is.map .inl)).length = is.length := by
    intro is
    induction is with
    | nil => rfl
    | cons x is ih =>
      have : flA ((x :: is).map .inl) = .inl x :: flA (is.map .inl) := rfl
      rw [this, List.length_cons, ih, List.length_cons]
  have : flA (.inr (.inl a) :: is.map .inl) = .inr (.inl a) :: flA (is.map .inl) := rfl
  rw [this, List.length_cons, h]
  omega
theorem SH_len : SH.length = 154 := by decide +kernel
theorem sz_ok : ssz SH ≤ 7302250 := by decide +kernel
def ivs (is : List Int) : List Value := (is.map (fun x => Value.int (Int32.ofInt x))).reverse
theorem mp_ints (is : List Int) : (mp ad (is.map .inl)).reverse = ivs is := by
  unfold ivs mp
  rw [List.map_map]
  rfl
/-- a case: both are asked, and answer alike -/
theorem lw_case {f : SS → Int × SS} {is : List Int} {P P1 P2 i1 i2 : Nat} {off : Int} (C0 : lw_At p s m meth c b L xs) (hAmb : Amb (fun q => s.heap.size ≤ q) s s.heap) (hW : Wd D (fun q => s.heap.size ≤ q) s H locs ad ca tys SH (mkM σ)) (hC : RepC σ S) (hM : RepM σ S) (hl : lv_has ls 4 [(3, .int (Int32.ofInt (I : Int))), (2, .ref (ad 130)), (1, .ref (ad 0)), (0, .ref b)]) (cs : ∀ σ S, RepC σ S → CC mec (.inr (.inl 0) :: is.map .inl) σ (f S).1 (f S).2) (ms : ∀ σ S, RepM σ S → MM mer (.inr (.inl 130) :: is.map .inl) σ (f S).1 (f S).2) (m1 : mec ∈ mtab) (m2 : mer ∈ mtab) (h1 : mec.1 = 9) (h2 : mer.1 = 10) (b1 : 1 + mec.2.2.2.2.2.2.1 ≤ mec.2.2.2.1) (b2 : 1 + mer.2.2.2.2.2.2.1 ≤ mer.2.2.2.1) (v1 : mec.2.2.2.2.2.1 ≤ 7) (v2 : mer.2.2.2.2.2.1 ≤ 7) (n1 : is.length = mec.2.2.2.2.2.2.1) (n2 : is.length = mer.2.2.2.2.2.2.1) (hin : ∀ x ∈ is, inI x)
    (w1 : Jvm.Cond.methodLink "BinderPressLaw" i1 mec.2.1 ∈ gW) (w2 : Jvm.Cond.instanceMethod mec.2.1 ∈ gW) (w3 : Jvm.Cond.selects (cnm mec.1) mec.2.1 mec.2.1 ∈ gW) (w4 : Jvm.Cond.methodLink "BinderPressLaw" i2 mer.2.1 ∈ gW) (w5 : Jvm.Cond.instanceMethod mer.2.1 ∈ gW) (w6 : Jvm.Cond.selects (cnm mer.1) mer.2.1 mer.2.1 ∈ gW)
    (d0 : decode code P = .ok (.aload_n 1, 1)) (ld1 : ∀ (rest : List Value) (H : Heap) (locs : List Loc), va_S (fun q => s.heap.size ≤ q) s.heap H locs → W p l e room_1 s m #[Value.ref b] below meth c H locs 154 (ssz SH) Q (F0 m P1 ls (ivs is ++ rest)) → W p l e room_1 s m #[Value.ref b] below meth c H locs 154 (ssz SH) Q (F0 m (P + 1) ls rest)) (d1 : decode code P1 = .ok (.invokevirtual i1, 3)) (d2 : decode code (P1 + 3) = .ok (.aload_n 2, 1))
    (ld2 : ∀ (rest : List Value) (H : Heap) (locs : List Loc), va_S (fun q => s.heap.size ≤ q) s.heap H locs → W p l e room_1 s m #[Value.ref b] below meth c H locs 154 (ssz SH) Q (F0 m P2 ls (ivs is ++ rest)) → W p l e room_1 s m #[Value.ref b] below meth c H locs 154 (ssz SH) Q (F0 m (P1 + 3 + 1) ls rest)) (d3 : decode code P2 = .ok (.invokevirtual i2, 3)) (d4 : decode code (P2 + 3) = .ok (.if_icmp .eq off, 3)) (ht : ((P2 + 3 : Nat) : Int) + off = ((718 : Nat) : Int)) (next : lw_Nx p l e s m below meth c b Q D ad ls) : W p l e room_1 s m #[Value.ref b] below meth c H locs 154 (ssz SH) Q (F0 m P ls []) := by
  obtain ⟨hx, hb, hr, hml, hown, hts0, hX, hbl, hlocks, hgv⟩ := id C0
  have hA : ∀ q : Nat, s.heap.size ≤ q → (fun q : Nat => s.heap.size ≤ q) q := fun _ h => h
  have o0 : isO 0 9 := by unfold isO; decide +kernel
  have o130 : isO 130 10 := by unfold isO; decide +kernel
  have hcs : (154 : Nat) ≤ 600000 ∧ ssz SH ≤ 7302250 := ⟨by omega, sz_ok⟩
  have has : ∀ w ∈ is.map (Sum.inl : Int → AV), vOk SH w := fun w hw => by
    obtain ⟨x, x1, rfl⟩ := List.mem_map.mp hw
    exact hin x x1
  refine lv_aload_n hx hb d0 rfl (lv_at hl 2 rfl) ?_
  refine ld1 _ H locs hW.2.2.2.1 ?_
  refine lw_virt (r := 0) (as := is.map .inl) (rsC := []) C0 hA hAmb hW (cs σ S hC) m1 (by rw [h1]; exact o0) has (by rw [List.length_map]; exact n1) (by rw [fl_ints, n1]; exact b1) v1 w1 w2 w3 (by simp) hl.1 d1 (by rw [mp_ints]) hcs (fun v1' σ1 H1 locs1 ad1 ca1 tys1 q1 e1 hW1 => ?_)
  obtain ⟨rfl, R1, F1⟩ := q1
  have M1 := RepM_C hM F1
  have a0 : ad1 0 = ad 0 := e1 0 (by rw [SH_len]; omega)
  have a130 : ad1 130 = ad 130 := e1 130 (by rw [SH_len]; omega)
  refine lv_aload_n hx hb d2 rfl (lv_at hl 1 rfl) ?_
  refine ld2 _ H1 locs1 hW1.2.2.2.1 ?_
  refine lw_virt (r := 130) (as := is.map .inl) (rsC := [.int (Int32.ofInt (f S).1)]) C0 hA hAmb hW1 (ms σ1 S M1) m2 (by rw [h2]; exact o130) has (by rw [List.length_map]; exact n2) (by rw [fl_ints, n2]; exact b2) v2 w4 w5 w6 (Nat.le_of_ble_eq_true rfl) hl.1 d3 (by rw [mp_ints, a130]; rfl) hcs (fun v2' σ2 H2 locs2 ad2 ca2 tys2 q2 e2 hW2 => ?_)
  obtain ⟨rfl, R2, F2⟩ := q2
  refine lv_icmp_eq (tgt := 718) hx hb d4 ht (fun _ => ?_) (fun z => absurd rfl z)
  exact next σ2 (f S).2 H2 locs2 ad2 ca2 tys2 hW2 (RepC_M R1 F2) R2 ((e2 0 (by rw [SH_len]; omega)).trans a0) ((e2 130 (by rw [SH_len]; omega)).trans a130)
end LWC
