/-! soundness, 8: contracts, calls -/
abbrev arr_T (ca : Nat → ClassId) (tys : List (ClassId × FieldType)) (sh : aSh) : Prop := ∀ (a : Nat) (q : Nat × Nat) (ty : FieldType), sh[a]? = some q → aty q.1 = some ty → ∃ t0 : Nat, tys[t0]? = some (ca a, ty)
def PA (D : va_G) (args : List Value) (ws : va_W) (tys : List (ClassId × FieldType)) (sz : Nat) : Array Value → State → Prop := va_Pc args (fun U => U.heap.size = sz ∧ va_P D acls ws U.heap ∧ va_K D acls tys U ∧ va_D (fun _ => True) ws ∧ Amb (va_A ws sz) U U.heap)
def QA (D : va_G) (A : Nat → Prop) (ad : Nat → Nat) (n : Nat) (v : List AV) (sh' : aSh) (σ' : aSg) : Array Value → State → Outcome → State → Prop := fun _ st0 oc t =>
  (∃ (ad' : Nat → Nat) (ca' : Nat → ClassId) (tys' : List (ClassId × FieldType)), (∀ a, a < n → ad' a = ad a) ∧ oc = .returned ((mp ad' v).head?) ∧ va_P D acls (wl ad' ca' sh' σ') t.heap ∧ va_K D acls tys' t ∧ va_D A (wl ad' ca' sh' σ') ∧ arr_T ca' tys' sh') ∧ va_F A st0 t
def rmA (me : aMe) (sh sh' : aSh) : Room := { frames := me.2.2.2.2.2.1, cells := sh'.length - sh.length, slots := ssz sh' - ssz sh, locals := 40 * me.2.2.2.2.2.1 }
def MetA (l : Launch) (D : va_G) (me : aMe) (args : List AV) (sh : aSh) (σ : aSg) (v : List AV) (sh' : aSh) (σ' : aSg) : Prop :=
  ∀ (ad : Nat → Nat) (ca : Nat → ClassId) (tys : List (ClassId × FieldType)) (sz : Nat), arr_T ca tys sh → Met l me.2.1 (Jvm.Cond.code me.2.1 me.2.2.1 me.2.2.2.1 me.2.2.2.2.1 :: gW) (rmA me sh sh') (PA D (mp ad args) (wl ad ca sh σ) tys sz) (QA D (va_A (wl ad ca sh σ) sz) ad sh.length v sh' σ') (sh'.length - sh.length) (ssz sh' - ssz sh) (va_A (wl ad ca sh σ) sz)
theorem nest_form {w : Jvm.Cond} (h : w ∈ nW) : ∃ a i x hst, w = .methodLinkNest a i x hst := by
  have := (List.mem_filter.mp h).2
  unfold isNest at this
  split at this
  · exact ⟨_, _, _, _, rfl⟩
  · cases this
theorem Amb.calling {A : Nat → Prop} {U : State} {g : JFrame} {mk : MethodId} {a : Array Value} (h : Amb A U U.heap) : Amb A (U.calling g mk a) (U.calling g mk a).heap := by
  obtain ⟨h1, h2, t, h3, h4⟩ := h
  refine ⟨fun w hw => ?_, va_AO.moved (Vm.Alike.refl U.vm) h2, t, va_Z.moved (Vm.Alike.refl U.vm) h3, va_T.moved (Vm.Alike.refl U.vm) h4⟩
  obtain ⟨a', i, x, hs, rfl⟩ := nest_form hw
  exact va_Nw.same rfl (rfl : U.vm = (U.calling g mk a).vm) (h1 _ hw)
theorem PA.blind {D : va_G} {args : List Value} {ws : va_W} {tys : List (ClassId × FieldType)} {sz : Nat} : FrameBlind (PA D args ws tys sz) := by
  intro a U g mk q
  obtain ⟨q0, q1, qP, qK, qD, qA⟩ := q
  exact ⟨q0, q1, qP, va_K.moved (u := U) (U := U.calling g mk a) (Vm.Alike.refl U.vm) qK, qD, qA.calling⟩
section CA
variable {p : Program} {l : Launch} {e : Env} {R : Room} {s : State} {m : MethodId} {args : Array Value} {below : List Frame} {meth : Method} {c : Code} {H : Heap} {locs : List Loc} {cells slots : Nat} {Q : State → Prop}
variable {me me' : aMe} {A : Nat → Prop} {D : va_G} {ad : Nat → Nat} {ca : Nat → ClassId} {tys : List (ClassId × FieldType)} {sh sh' : aSh} {σ σ' : aSg} {pc : Nat} {lsC : Array Slot} {v : List AV}
/-- the world is the method's own: its cells are free -/
theorem wl_free (F : Fx p s m args meth c me A R) (hW : Wd D A s H locs ad ca tys sh σ) : ∀ q, va_A (wl ad ca sh σ) H.size q → A q := by
  intro q h
  obtain ⟨hK, hP, hD, hS, -⟩ := hW
  rcases h with ⟨k, ee, h⟩ | h
  · exact hD.2 k (q, ee) h
  · exact F.2.2.2.2.2.2.2.2.1 q (Nat.le_trans hS.1 h)
theorem PA.at (F : Fx p s m args meth c me A R) (hW : Wd D A s H locs ad ca tys sh σ) (av : List Value) (U : State) (hU : U.heap = H) (hw : s.WarmedH U.vm) : PA D av (wl ad ca sh σ) tys H.size av.toArray U := by
  have hfr := wl_free F hW
  obtain ⟨hK, hP, hD, hS, -⟩ := hW
  obtain ⟨-, -, -, -, -, -, -, -, -, ⟨h1, h2, t, h3, h4⟩, -⟩ := F
  refine ⟨rfl, by rw [hU], by rw [hU]; exact hP, va_K.moved hw.alike hK, hD.weaken (fun _ _ _ _ => trivial), fun w hw' => ?_, va_AO.moved hw.alike h2, t, ?_, ?_⟩
  · obtain ⟨a', i, x, hs, rfl⟩ := nest_form hw'
    exact va_Nw.warmM hw (h1 _ hw')
  · rw [hU]
    exact va_Z.moved hw.alike ((h3.kept hS.2.1).narrow hfr)
  · rw [hU]
    exact va_T.moved hw.alike ((h4.kept hS.2.1).narrow hfr)
theorem callA (F : Fx p s m args meth c me A R) (hW : Wd D A s H locs ad ca tys sh σ) (hM' : mOk sh' σ') {mc ms : Nat} {st0 rsC : List Value} {a : Array Value}
    (hr : va_Run p l e R s m args below meth c H locs cells slots mc ms (F0 m pc lsC st0) rsC (QA D (va_A (wl ad ca sh σ) H.size) ad sh.length v sh' σ' a) (va_A (wl ad ca sh σ) H.size))
    (kk : ∀ (H' : Heap) (locs' : List Loc) (ad' : Nat → Nat) (ca' : Nat → ClassId) (tys' : List (ClassId × FieldType)), (∀ a, a < sh.length → ad' a = ad a) → Wd D A s H' locs' ad' ca' tys' sh' σ' → W p l e R s m args below meth c H' locs' (cells + mc) (slots + ms) Q (F0 m (pc + 3) lsC ((mp ad' v).head?.toList ++ rsC))) : W p l e R s m args below meth c H locs cells slots Q (F0 m pc lsC st0) := by
  have hfr := wl_free F hW
  obtain ⟨hK, hP, hD, hS, -⟩ := hW
  intro T hT X
  obtain ⟨v0, st₀, t, T', L, h0, X', hL, e1, e2, ⟨⟨ad', ca', tys', hext, hv, q1, q2, q3, q4⟩, hz, hk⟩, stp⟩ := hr T hT X
  cases hv
  rw [h0] at hz hk
  have hal : s.vm.Alike t.vm := by rw [← e2]; exact X'.warmed.alike
  obtain ⟨t2, a1, b1⟩ := kk T'.heap (locs ++ L) ad' ca' tys' hext ⟨va_K.moved hal.symm q2, by rw [e1]; exact q1, q3.weaken (fun _ q _ h => hfr q.1 h), ⟨Nat.le_trans hS.1 (by rw [e1]; exact hz), fun q h1 h2 => by rw [e1, hk q (Nat.lt_of_lt_of_le h1 hS.1) (fun z => h2 (hfr q z))]; exact hS.2.1 q h1 h2, fun q hq => by
      rcases List.mem_append.mp hq with h | h
      · exact hS.2.2 q h
      · exact hfr _ (hL q h)⟩, q4, hM'⟩ T' rfl X'
  exact ⟨t2, stp t2 a1, b1⟩
end CA
theorem good_all {X : List Jvm.Cond} (h : ∀ w ∈ X, w ∈ gW) : GoodIn gW X := fun w hw => ⟨h w hw, good_of_word (List.mem_filter.mp (h w hw)).2⟩
set_option maxRecDepth 20000 in
theorem sg_link : Jvm.Cond.fieldLink "BinderPress" 253 "BinderPress" "SIGNS" "[I" ∈ gW := by decide +kernel
theorem ds_0 : decode cX9_signAt 0 = .ok (.iload_n 0, 1) := by decide +kernel
theorem ds_1 : decode cX9_signAt 1 = .ok (.ifCond .lt 19, 3) := by decide +kernel
theorem ds_4 : decode cX9_signAt 4 = .ok (.iload_n 0, 1) := by decide +kernel
theorem ds_5 : decode cX9_signAt 5 = .ok (.getstatic 253, 3) := by decide +kernel
theorem ds_8 : decode cX9_signAt 8 = .ok (.arraylength, 1) := by decide +kernel
theorem ds_9 : decode cX9_signAt 9 = .ok (.if_icmp .ge 11, 3) := by decide +kernel
theorem ds_12 : decode cX9_signAt 12 = .ok (.getstatic 253, 3) := by decide +kernel
theorem ds_15 : decode cX9_signAt 15 = .ok (.iload_n 0, 1) := by decide +kernel
theorem ds_16 : decode cX9_signAt 16 = .ok (.iaload, 1) := by decide +kernel
theorem ds_17 : decode cX9_signAt 17 = .ok (.goto 4, 3) := by decide +kernel
theorem ds_20 : decode cX9_signAt 20 = .ok (.iconst (-1), 1) := by decide +kernel
theorem ds_21 : decode cX9_signAt 21 = .ok (.ireturn, 1) := by decide +kernel
abbrev meSign : aMe := (9, yX9_signAt, cX9_signAt, 1, (some .int), 0, 1, true)
theorem sign_at : mtab[kSign]? = some meSign := by rfl
set_option maxHeartbeats 2000000 in
theorem met_sign (l : Launch) (D : va_G) {x : Int} (hx0 : inI x) {sh : aSh} {σ : aSg} : MetA l D meSign [.inl x] sh σ [.inl (signF x)] sh σ := by
  intro ad ca tys sz hT
  refine Met.ofW (cc := cX9_signAt) (maxL := 1) (ret := (some .int)) (by decide) rfl ?_
  intro p e s m args below meth c s₁ B hml hv
  obtain ⟨rfl, hsz, hP, hK, hD0, ⟨-, -, t, hZ, hTt⟩⟩ := hv
  have hx := B.exec
  have hb := B.bytes
  have hr := B.returns
  have hts := atoms_spec (ws := Jvm.Cond.code yX9_signAt cX9_signAt 1 (some .int) :: gW) B.pre
  have hown : s.vm.findClass "BinderPress" = some m.cls := findClass_of_methodNamed B.named
  have hlocks := B.notSynchronized
  have hlk := hts _ (List.mem_cons_of_mem _ sg_link)
  subst hsz
  have hD := hD0.self (sz := s.heap.size)
  have hS : va_S (va_A (wl ad ca sh σ) s.heap.size) s.heap s.heap [] := va_S.rf
  have hl := lv_entry ([.int (Int32.ofInt x)]) (n := 1) (Nat.le_of_ble_eq_true rfl)
  show W p l e _ s m _ below meth c s.heap [] 0 0 _ (entryFrame m ([Value.int (Int32.ofInt x)] : List Value).toArray 1)
  rw [lg_entry_eq]
  generalize (lg_sl ([.int (Int32.ofInt x)]) ++ List.replicate (1 - (lg_sl ([.int (Int32.ofInt x)])).length) Slot.unset).toArray = ls at hl ⊢
  have hl : lv_has ls 1 [(0, .int (Int32.ofInt x))] := hl
  have c0 : (ssz sh - ssz sh) = 0 := by omega
  have c1 : (sh.length - sh.length) = 0 := by omega
  have fin : ∀ y : Int32, y = Int32.ofInt (signF x) → W p l e (headSpec (Jvm.Cond.code yX9_signAt cX9_signAt 1 (some .int) :: gW) (rmA meSign sh sh)).room s m (mp ad [.inl x]).toArray below meth c s.heap [] 0 0 (MQ below (QA D (va_A (wl ad ca sh σ) s.heap.size) ad sh.length [.inl (signF x)] sh σ) (mp ad [.inl x]).toArray s (sh.length - sh.length) (ssz sh - ssz sh) (va_A (wl ad ca sh σ) s.heap.size)) (F0 m 21 ls [.int y]) := by
    intro y hy
    rw [c0, c1]
    refine W.iret (v := y) hx hb hr (fun t ht hW => ⟨⟨ad, ca, tys, fun _ _ => rfl, by rw [hy]; rfl, by rw [ht]; exact hP, va_K.moved hW.alike hK, hD, hT⟩, hS.F ht⟩) hS.2.2 ds_21
  refine lv_iload_n hx hb ds_0 rfl (lv_at hl 0 rfl) ?_
  refine lv_if_lt (tgt := 20) hx hb ds_1 (by decide) (fun q => ?_) (fun q => ?_)
  · refine lv_iconst (v := -1) hx hb ds_20 (by decide) ?_
    refine fin _ ?_
    rw [← o32_0, o32_lt hx0 ⟨by decide, by decide⟩] at q
    have : signF x = -1 := by unfold signF; simp only [show ¬ x = 0 by omega, show ¬ x = 1 by omega, show ¬ x = 2 by omega, show ¬ x = 3 by omega, show ¬ x = 4 by omega, if_false]
    rw [this]
    rfl
  · rw [← o32_0, o32_lt hx0 ⟨by decide, by decide⟩] at q
    refine lv_iload_n hx hb ds_4 rfl (lv_at hl 0 rfl) ?_
    refine va_gets hx hb hZ hS hown hlk (fun _ h => h) ds_5 ?_
    refine va_tlen hx hb hTt hS (v := 5) rfl ds_8 ?_
    refine lv_icmp_ge (tgt := 20) hx hb ds_9 (by decide) (fun q2 => ?_) (fun q2 => ?_)
    · refine lv_iconst (v := -1) hx hb ds_20 (by decide) ?_
      refine fin _ ?_
      have q3 : (5 : Int) ≤ x := (o32_le (⟨by decide, by decide⟩ : inI 5) hx0).mp q2
      have : signF x = -1 := by unfold signF; simp only [show ¬ x = 0 by omega, show ¬ x = 1 by omega, show ¬ x = 2 by omega, show ¬ x = 3 by omega, show ¬ x = 4 by omega, if_false]
      rw [this]
      rfl
    · have q3 : ¬ (5 : Int) ≤ x := fun z => q2 ((o32_le (⟨by decide, by decide⟩ : inI 5) hx0).mpr z)
      refine va_gets hx hb hZ hS hown hlk (fun _ h => h) ds_12 ?_
      refine lv_iload_n hx hb ds_15 rfl (lv_at hl 0 rfl) ?_
      obtain ⟨v1, v2⟩ := vin (i := x) (n := 5) (by omega) (by omega) (by omega)
      refine va_ti hx hb hTt hS v1 (v := .int (Int32.ofInt (signF x))) ?_ ds_16 ?_
      · rw [v2]
        show Value.int (Int32.ofInt (signF ((x.toNat : Nat) : Int))) = _
        rw [Int.toNat_of_nonneg (by omega)]
      · refine lv_goto (tgt := 21) hx hb ds_17 (by decide) ?_
        exact fin _ rfl
