/-! soundness, 10: the theorem -/
/-- what is claimed of runs of fuel n -/
def RS (l : Launch) (D : va_G) (n : Nat) : Prop := ∀ (me : aMe) (pc : Nat) (ls st : List AV) (sh : aSh) (σ : aSg) (v : List AV) (shE : aSh) (σE : aSg), run n me pc ls st sh σ = some (v, shE, σE) →
  ∀ (p : Program) (e : Env) (R : Room) (s : State) (m : MethodId) (args : Array Value) (below : List Frame) (meth : Method) (c : Code) (H : Heap) (locs : List Loc) (cells slots : Nat) (A : Nat → Prop) (ad : Nat → Nat) (ca : Nat → ClassId) (tys : List (ClassId × FieldType)) (lsC : Array Slot) (ad0 : Nat → Nat) (sh0 : aSh),
  Fx p s m args meth c me A R → Wd D A s H locs ad ca tys sh σ → LH ad lsC me.2.2.2.1 ls → ls.length = me.2.2.2.1 → (∀ w ∈ ls, vOk sh w) → (∀ w ∈ st, vOk sh w) → (∀ a, a < sh0.length → ad a = ad0 a) → (∃ ex, sh = sh0 ++ ex) → cells = sh.length - sh0.length → slots = ssz sh - ssz sh0 → R.cells = shE.length - sh0.length → R.slots = ssz shE - ssz sh0 →
  W p l e R s m args below meth c H locs cells slots (MQ below (QA D A ad0 sh0.length v shE σE) args s (shE.length - sh0.length) (ssz shE - ssz sh0) A) (F0 m pc lsC (mp ad st))
theorem met_entry {l : Launch} {D : va_G} {n : Nat} (hRS : RS l D n) {me : aMe} {as : List AV} {sh : aSh} {σ : aSg} {v : List AV} {sh' : aSh} {σ' : aSg} (hme : me ∈ mtab) (hr : run n me 0 (initL me.2.2.2.1 as) [] sh σ = some (v, sh', σ')) (hfl : (flA as).length ≤ me.2.2.2.1) (has : ∀ w ∈ as, vOk sh w) (hM : mOk sh σ) : MetA l D me as sh σ v sh' σ' := by
  intro ad ca tys sz hT
  obtain ⟨mL, mc11, mcl, mpar, mmh, mvh, mpl⟩ := maxL_in me hme
  refine Met.ofW (cc := me.2.2.1) (maxL := me.2.2.2.1) (ret := me.2.2.2.2.1) mpl rfl ?_
  intro p e s m args below meth c s₁ B hml hv
  obtain ⟨rfl, hsz, hP, hK, hD0, hAmb⟩ := hv
  have hts := atoms_spec (ws := Jvm.Cond.code me.2.1 me.2.2.1 me.2.2.2.1 me.2.2.2.2.1 :: gW) B.pre
  have hown : s.vm.findClass me.2.1.cls = some m.cls := findClass_of_methodNamed B.named
  rw [mcl] at hown
  subst hsz
  rw [lg_entry_eq]
  have hnm : meth.name = me.2.1.name := (name_of_methodNamed B.named B.method).1
  have F : Fx p s m (mp ad as).toArray meth c me (va_A (wl ad ca sh σ) s.heap.size) (headSpec (Jvm.Cond.code me.2.1 me.2.2.1 me.2.2.2.1 me.2.2.2.2.1 :: gW) (rmA me sh sh')).room :=
    ⟨B.exec, B.bytes, hml, hown, fun w hw => hts w (List.mem_cons_of_mem _ hw), fun hi => by rw [hnm]; simpa [isIni] using hi, B.returns, B.notSynchronized, fun q h => Or.inr h, hAmb, rfl, rfl⟩
  exact hRS me 0 (initL me.2.2.2.1 as) [] sh σ v sh' σ' hr p e _ s m _ below meth c s.heap [] 0 0 _ ad ca tys _ ad sh F ⟨hK, hP, hD0.self, va_S.rf, hT, hM⟩ (entry_LH ad hfl) (initL_len hfl) (initL_ok has) (fun w hw => by cases hw) (fun _ _ => rfl) ⟨[], by simp⟩ (by omega) (by omega) rfl rfl
set_option maxHeartbeats 4000000 in
theorem run_sound (l : Launch) (D : va_G) : ∀ n, RS l D n := by
  intro n
  induction n with
  | zero => intro me pc ls st sh σ v shE σE h; simp [run] at h
  | succ n ih =>
    intro me pc ls st sh σ v shE σE h p e R s m args below meth c H locs cells slots A ad ca tys lsC ad0 sh0 F hW hL hn hls hst had hpre hcell hslot hRc hRs
    have hM := hW.2.2.2.2.2
    have hext := (run_ok _ _ _ _ _ _ _ _ _ _ h hM hls hst).2.2
    unfold run at h
    split at h
    · cases h
    · rename_i i len hd
      split at h
      · rename_i ls1 st1 hp
        obtain ⟨h1, h2, h3⟩ := pstep_ok hp hls hst
        exact pstep_sound F hd hp hL hn hls hst (fun lsC' hL' => ih me _ ls1 st1 sh σ v shE σE h p e R s m args below meth c H locs cells slots A ad ca tys lsC' ad0 sh0 F hW hL' (h3.trans hn) h1 h2 had hpre hcell hslot hRc hRs)
      · split at h
        · rename_i pc1 st1 hb
          exact bstep_sound F hd hb hst (ih me pc1 ls st1 sh σ v shE σE h p e R s m args below meth c H locs cells slots A ad ca tys lsC ad0 sh0 F hW hL hn hls (fun w hw => hst w (bstep_ok hb w hw)) had hpre hcell hslot hRc hRs)
        · split at h
          · rename_i st1 sh1 σ1 hm
            obtain ⟨h1, h2, ex1, hex1⟩ := mstep_ok hm hM hst
            have hls1 : ∀ w ∈ ls, vOk sh1 w := all_mono (by rw [hex1]; simp) hls
            obtain ⟨ex2, hex2⟩ := (run_ok _ _ _ _ _ _ _ _ _ _ h h1 hls1 h2).2.2
            obtain ⟨ex0, hex0⟩ := hpre
            have e1 : sh0.length ≤ sh.length := by rw [hex0]; simp
            have e2 : sh.length ≤ sh1.length := by rw [hex1]; simp
            have e3 : sh1.length ≤ shE.length := by rw [hex2]; simp
            have f1 : ssz sh0 ≤ ssz sh := by rw [hex0]; exact ssz_le _ _
            have f2 : ssz sh ≤ ssz sh1 := by rw [hex1]; exact ssz_le _ _
            have f3 : ssz sh1 ≤ ssz shE := by rw [hex2]; exact ssz_le _ _
            refine mstep_sound F hW hd hm hL.1 hst (by omega) (by omega) (fun H' locs' ad' ca' tys' cells' slots' g1 g2 g3 g4 => ?_)
            exact ih me _ ls st1 sh1 σ1 v shE σE h p e R s m args below meth c H' locs' cells' slots' A ad' ca' tys' lsC ad0 sh0 F g2 (LH_ext g1 hls hL) hn hls1 h2 (fun a ha => by rw [g1 a (by omega)]; exact had a ha) ⟨ex0 ++ ex1, by rw [hex1, hex0]; simp⟩ (by omega) (by omega) hRc hRs
          · split at h
            · rename_i k me1 as rs hc
              obtain ⟨md, c1, c2, c3, c4, c5, c6, c7, c8⟩ := cstep_of hc
              have hargs : ∀ w ∈ as, vOk sh w := fun w hw => hst w (by rw [c3]; simp [hw])
              have hrs : ∀ w ∈ rs, vOk sh w := fun w hw => hst w (by rw [c3]; simp [hw])
              -- behind the call
              have fin : ∀ (v1 : List AV) (sh1 : aSh) (σ1 : aSg), MetA l D me1 as sh σ v1 sh1 σ1 → mOk sh1 σ1 → (∀ w ∈ v1, vOk sh1 w) → (∃ ex, sh1 = sh ++ ex) → v1.length ≤ 1 → run n me (pc + len) ls (v1 ++ rs) sh1 σ1 = some (v, shE, σE) → W p l e R s m args below meth c H locs cells slots (MQ below (QA D A ad0 sh0.length v shE σE) args s (shE.length - sh0.length) (ssz shE - ssz sh0) A) (F0 m pc lsC (mp ad st)) := by
                intro v1 sh1 σ1 hMet h1 h2 hx1 hv1 h
                obtain ⟨ex1, hex1⟩ := hx1
                have hls1 : ∀ w ∈ ls, vOk sh1 w := all_mono (by rw [hex1]; simp) hls
                have hst1 : ∀ w ∈ v1 ++ rs, vOk sh1 w := fun w hw => by
                  rcases List.mem_append.mp hw with hw | hw
                  · exact h2 w hw
                  · exact vOk_mono (by rw [hex1]; simp) (hrs w hw)
                obtain ⟨ex2, hex2⟩ := (run_ok _ _ _ _ _ _ _ _ _ _ h h1 hls1 hst1).2.2
                obtain ⟨ex0, hex0⟩ := hpre
                have e1 : sh0.length ≤ sh.length := by rw [hex0]; simp
                have e2 : sh.length ≤ sh1.length := by rw [hex1]; simp
                have e3 : sh1.length ≤ shE.length := by rw [hex2]; simp
                have f1 : ssz sh0 ≤ ssz sh := by rw [hex0]; exact ssz_le _ _
                have f2 : ssz sh ≤ ssz sh1 := by rw [hex1]; exact ssz_le _ _
                have f3 : ssz sh1 ≤ ssz shE := by rw [hex2]; exact ssz_le _ _
                obtain ⟨hl3, hrun⟩ := call_run (cells := cells) (slots := slots) (below := below) (e := e) (lsC := lsC) F hW hMet hd c1 c2 c3 c4 c5 c6 c7 hL.1 (by omega) (by omega)
                subst hl3
                refine callA F hW h1 hrun (fun H' locs' ad' ca' tys' g1 g2 => ?_)
                have e4 : (mp ad' v1).head?.toList ++ mp ad rs = mp ad' (v1 ++ rs) := by
                  rw [← mp_ext g1 hrs]
                  match v1, hv1 with
                  | [], _ => rfl
                  | [x], _ => rfl
                rw [e4]
                exact ih me _ ls (v1 ++ rs) sh1 σ1 v shE σE h p e R s m args below meth c H' locs' _ _ A ad' ca' tys' lsC ad0 sh0 F g2 (LH_ext g1 hls hL) hn hls1 hst1 (fun a ha => by rw [g1 a (by omega)]; exact had a ha) ⟨ex0 ++ ex1, by rw [hex1, hex0]; simp⟩ (by omega) (by omega) hRc hRs
              split at h
              · rename_i hks
                split at h
                · rename_i x
                  subst hks
                  cases c2.symm.trans sign_at
                  exact fin [.inl (signF x)] sh σ (met_sign l D (hargs (.inl x) (by simp))) hM (cons_ok (signF_in _) (fun w hw => by cases hw)) ⟨[], by simp⟩ (by simp) h
                · cases h
              · split at h
                · rename_i v1 sh1 σ1 hr
                  obtain ⟨h1, h2, hx1⟩ := run_ok _ _ _ _ _ _ _ _ _ _ hr hM (initL_ok hargs) (fun w hw => by cases hw)
                  refine fin v1 sh1 σ1 (met_entry ih (List.mem_of_getElem? c2) hr c8 hargs hM) h1 h2 hx1 ?_ h
                  exact run_one _ _ _ _ _ _ _ _ _ _ hr
                · cases h
            · split at h
              · rename_i v1 hr
                cases h
                obtain ⟨hx, hb, hml, hown, hts, hini, hret, hlocks, hA, hAmb, hRf, hRl⟩ := F
                obtain ⟨hK, hP, hD, hS, hT, -⟩ := hW
                obtain ⟨hdg, hlen⟩ := adec_of hd
                subst hcell hslot
                have hQ : ∀ (oc : Outcome), oc = .returned ((mp ad v).head?) → ∀ t : State, t.heap = H → s.WarmedH t.vm → QA D A ad0 sh0.length v sh σ args s oc t := fun oc hoc t ht hWm =>
                  ⟨⟨ad, ca, tys, had, hoc, by rw [ht]; exact hP, va_K.moved hWm.alike hK, hD, hT⟩, hS.F ht⟩
                have hvst := rstep_of hr
                unfold rstep at hr
                split at hr
                · split at hr
                  · rename_i h0
                    have : len = 1 := by simpa [ilen, eq_comm] using hlen
                    subst this
                    subst hvst
                    exact W.vret hx hb (hret.trans h0) (hQ _ rfl) hS.2.2 hdg
                  · cases hr
                · rename_i x
                  have : len = 1 := by simpa [ilen, eq_comm] using hlen
                  subst this
                  subst hvst
                  split at hr
                  · rename_i h0
                    rcases h0 with h0 | ⟨h0, h01⟩
                    · exact W.iret hx hb (hret.trans h0) (hQ _ rfl) hS.2.2 hdg
                    · exact W.zret hx hb (hret.trans h0) (by rcases h01 with rfl | rfl <;> rfl) (hQ _ rfl) hS.2.2 hdg
                  · cases hr
                · have : len = 1 := by simpa [ilen, eq_comm] using hlen
                  subst this
                  subst hvst
                  split at hr
                  · rename_i h0
                    exact W.lret hx hb (hret.trans h0) (hQ _ rfl) hS.2.2 hdg
                  · cases hr
                · rename_i x
                  have : len = 1 := by simpa [ilen, eq_comm] using hlen
                  subst this
                  subst hvst
                  split at hr
                  · rename_i z h0
                    exact W.aret hx hb (hret.trans h0) (Or.inl ⟨_, rfl⟩) (Or.inr ⟨_, rfl⟩) (hQ _ rfl) hS.2.2 hdg
                  · rename_i z h0
                    exact W.aret hx hb (hret.trans h0) (Or.inr ⟨_, rfl⟩) (Or.inr ⟨_, rfl⟩) (hQ _ rfl) hS.2.2 hdg
                  · cases hr
                · cases hr
              · cases h
