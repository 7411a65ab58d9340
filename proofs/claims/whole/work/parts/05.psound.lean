/-! soundness, 2: worlds, what is fixed, the steps on locals and stack, branches -/
abbrev gW : List Jvm.Cond := lw_tbl.filter goodWord
def isNest : Jvm.Cond → Bool
  | .methodLinkNest _ _ _ _ => true
  | _ => false
abbrev nW : List Jvm.Cond := lw_tbl.filter isNest
abbrev cnm (c : Nat) : String := match acls[c]? with
  | some r => r.1
  | none => ""
def fv (ad : Nat → Nat) (kd : Nat) (x : Int) : Value := if kd = 2 then (if x < 0 then .null else .ref (ad x.toNat)) else .int (Int32.ofInt x)
def rfo (ad : Nat → Nat) (x : Int) : Option Nat := if x < 0 then none else some (ad x.toNat)
def ce (ad : Nat → Nat) (cA : ClassId) (q : Nat × Nat) (f : Nat → Int) : va_E :=
  if q.1 = 20 ∨ q.1 = 21 then .inl (cA, q.2, .inl (fun j => Int32.ofInt (f j)))
  else if q.1 = 22 then .inl (cA, q.2, .inr (.inr (.inr (.inr (fun j => rfo ad (f j))))))
  else .inr (q.1, ((fK[q.1]?).getD []).mapIdx (fun j kd => fv ad kd (f j)))
def wl (ad : Nat → Nat) (ca : Nat → ClassId) (sh : aSh) (σ : aSg) : va_W := sh.mapIdx (fun a q => (ad a, ce ad (ca a) q (σ a)))
def mOk (sh : aSh) (σ : aSg) : Prop := (∀ a j, inI (σ a j)) ∧ (∀ (a : Nat) (q : Nat × Nat), sh[a]? = some q → ∀ j, (q.1 = 22 ∨ fkd q.1 j = 2) → σ a j < sh.length) ∧ sh.length ≤ 1000 ∧ ∀ (a : Nat) (q : Nat × Nat), sh[a]? = some q → q.2 ≤ 100000
def aty (kd : Nat) : Option FieldType := if kd = 20 then some .int else if kd = 21 then some .boolean else if kd = 22 then some (.object "BinderPress$Row") else none
def sgV (j : Nat) : Value := .int (Int32.ofInt (signF j))
def Amb (A : Nat → Prop) (U : State) (H : Heap) : Prop := (∀ w ∈ nW, va_Nw w U) ∧ va_AO "BinderPress$Row" U ∧ ∃ t : Nat, va_Z "BinderPress" "SIGNS" "[I" (.ref t) A U H ∧ va_T .int t 5 sgV A U H
def Fx (p : Program) (s : State) (m : MethodId) (args : Array Value) (meth : Method) (c : Code) (me : aMe) (A : Nat → Prop) (R : Room) : Prop :=
  p.tables.exec = Jvm.exec ∧ c.code = me.2.2.1 ∧ c.maxLocals = me.2.2.2.1 ∧ s.vm.findClass (cnm me.1) = some m.cls ∧ (∀ w ∈ gW, w.before args s = true) ∧ (isIni me = true → meth.name = "<init>") ∧ meth.sig.returnType = me.2.2.2.2.1 ∧ meth.locks = false ∧ (∀ q, s.heap.size ≤ q → A q) ∧ Amb A s s.heap ∧ R.frames = me.2.2.2.2.2.1 ∧ R.locals = 40 * me.2.2.2.2.2.1
def Wd (D : va_G) (A : Nat → Prop) (s : State) (H : Heap) (locs : List Loc) (ad : Nat → Nat) (ca : Nat → ClassId) (tys : List (ClassId × FieldType)) (sh : aSh) (σ : aSg) : Prop :=
  va_K D acls tys s ∧ va_P D acls (wl ad ca sh σ) H ∧ va_D A (wl ad ca sh σ) ∧ va_S A s.heap H locs ∧ (∀ (a : Nat) (q : Nat × Nat) (ty : FieldType), sh[a]? = some q → aty q.1 = some ty → ∃ t0 : Nat, tys[t0]? = some (ca a, ty)) ∧ mOk sh σ
theorem adec_of {me : aMe} {pc : Nat} {i : Instr} {len : Nat} (h : adec me pc = some (i, len)) : decode me.2.2.1 pc = .ok (i, len) ∧ (ilen i = len ∨ ilen i = 0) := by
  unfold adec at h
  split at h
  · rename_i r hr
    split at h
    · rename_i hl
      cases h
      exact ⟨hr, hl⟩
    · cases h
  · cases h
theorem lk_mem {α : Type} {t : List ((Nat × Nat) × α)} {c i : Nat} {v : α} (h : lk t c i = some v) : ((c, i), v) ∈ t := by
  unfold lk at h
  cases hf : t.find? (fun q => q.1.1 == c && q.1.2 == i) with
  | none => rw [hf] at h; cases h
  | some q =>
    rw [hf] at h
    have h1 := List.find?_some hf
    have h2 := List.mem_of_find?_eq_some hf
    simp only [Bool.and_eq_true, beq_iff_eq] at h1
    cases h
    obtain ⟨⟨a, b⟩, d⟩ := q
    obtain ⟨e1, e2⟩ := h1
    dsimp only at e1 e2
    subst e1 e2
    exact h2
section PS
variable {p : Program} {l : Launch} {e : Env} {R : Room} {s : State} {m : MethodId} {args : Array Value} {below : List Frame} {meth : Method} {c : Code} {H : Heap} {locs : List Loc} {cells slots : Nat} {Q : State → Prop}
variable {me : aMe} {A : Nat → Prop} {ad : Nat → Nat} {sh : aSh} {pc len : Nat} {lsC : Array Slot} {nL : Nat} {ls st ls' st' : List AV}
abbrev mp (ad : Nat → Nat) (st : List AV) : List Value := st.map (cv ad)
theorem kst_ok : ∀ q ∈ tK, Jvm.Cond.constant (cnm q.1.1) q.1.2 (Int32.ofInt q.2) ∈ gW := by decide +kernel
theorem kstl_ok : ∀ q ∈ tKL, Jvm.Cond.constantLong (cnm q.1.1) q.1.2 (Int64.ofInt q.2) ∈ gW := by decide +kernel
theorem ldI_of {ls : List AV} {j : Nat} (h : ldI ls j st = some (ls', st')) : ∃ x, ls[j]? = some (.inl x) ∧ ls' = ls ∧ st' = .inl x :: st := by
  unfold ldI at h
  split at h
  · rename_i x hx
    cases h
    exact ⟨x, hx, rfl, rfl⟩
  · cases h
theorem ldR_of {ls : List AV} {j : Nat} (h : ldR ls j st = some (ls', st')) : ∃ x, ls[j]? = some (.inr (.inl x)) ∧ ls' = ls ∧ st' = .inr (.inl x) :: st := by
  unfold ldR at h
  split at h
  · rename_i x hx
    cases h
    exact ⟨x, hx, rfl, rfl⟩
  · cases h
theorem ldL_of {ls : List AV} {j : Nat} (h : ldL ls j st = some (ls', st')) : ∃ x, ls[j]? = some (.inr (.inr (.inl x))) ∧ ls' = ls ∧ st' = .inr (.inr (.inl x)) :: st := by
  unfold ldL at h
  split at h
  · rename_i x hx
    cases h
    exact ⟨x, hx, rfl, rfl⟩
  · cases h
theorem stI_of {ls : List AV} {j : Nat} (h : stI ls j st = some (ls', st')) : ∃ x, st = .inl x :: st' ∧ okSt ls j = true ∧ j < ls.length ∧ ls' = ls.set j (.inl x) := by
  unfold stI at h
  split at h
  · split at h
    · rename_i hc
      cases h
      exact ⟨_, rfl, hc.1, hc.2, rfl⟩
    · cases h
  · cases h
theorem stR_of {ls : List AV} {j : Nat} (h : stR ls j st = some (ls', st')) : ∃ x, st = .inr (.inl x) :: st' ∧ okSt ls j = true ∧ j < ls.length ∧ ls' = ls.set j (.inr (.inl x)) := by
  unfold stR at h
  split at h
  · split at h
    · rename_i hc
      cases h
      exact ⟨_, rfl, hc.1, hc.2, rfl⟩
    · cases h
  · cases h
theorem stL_of {ls : List AV} {j : Nat} (h : stL ls j st = some (ls', st')) : ∃ x, st = .inr (.inr (.inl x)) :: st' ∧ okSt ls j = true ∧ j + 1 < ls.length ∧ ls' = (ls.set j (.inr (.inr (.inl x)))).set (j + 1) vU := by
  unfold stL at h
  split at h
  · split at h
    · rename_i hc
      cases h
      exact ⟨_, rfl, hc.1, hc.2, rfl⟩
    · cases h
  · cases h
theorem pushI_of {x : Int} {ls st : List AV} (h : pushI x ls st = some (ls', st')) : inI x ∧ ls' = ls ∧ st' = .inl x :: st := by
  unfold pushI at h
  split at h
  · rename_i hx
    cases h
    exact ⟨hx, rfl, rfl⟩
  · cases h
theorem pushL_of {x : Int} {ls st : List AV} (h : pushL x ls st = some (ls', st')) : inL x ∧ ls' = ls ∧ st' = .inr (.inr (.inl x)) :: st := by
  unfold pushL at h
  split at h
  · rename_i hx
    cases h
    exact ⟨hx, rfl, rfl⟩
  · cases h
theorem two_of {f : Int → Int → Option Int} {ls st : List AV} (h : two f ls st = some (ls', st')) : ∃ a b r rest, st = .inl b :: .inl a :: rest ∧ f a b = some r ∧ inI r ∧ ls' = ls ∧ st' = .inl r :: rest := by
  unfold two at h
  split at h
  · rename_i b a rest
    cases hf : f a b with
    | none => rw [hf] at h; cases h
    | some r =>
      rw [hf, Option.bind_some] at h
      obtain ⟨h1, h2, h3⟩ := pushI_of h
      exact ⟨a, b, r, rest, rfl, hf, h1, h2, h3⟩
  · cases h
theorem twoL_of {f : Int → Int → Option Int} {ls st : List AV} (h : twoL f ls st = some (ls', st')) : ∃ a b r rest, st = .inr (.inr (.inl b)) :: .inr (.inr (.inl a)) :: rest ∧ f a b = some r ∧ inL r ∧ ls' = ls ∧ st' = .inr (.inr (.inl r)) :: rest := by
  unfold twoL at h
  split at h
  · rename_i b a rest
    cases hf : f a b with
    | none => rw [hf] at h; cases h
    | some r =>
      rw [hf, Option.bind_some] at h
      obtain ⟨h1, h2, h3⟩ := pushL_of h
      exact ⟨a, b, r, rest, rfl, hf, h1, h2, h3⟩
  · cases h
theorem b8 {c : Int} (h : -128 ≤ c ∧ c ≤ 127) : (Int8.ofInt c).toInt32 = Int32.ofInt c := by
  rw [← Int32.toInt_inj]
  simp only [Int8.toInt_toInt32]
  rw [Int8.toInt_ofInt_of_le h.1 (by omega), o32 ⟨by omega, by omega⟩]
theorem b16 {c : Int} (h : -32768 ≤ c ∧ c ≤ 32767) : (Int16.ofInt c).toInt32 = Int32.ofInt c := by
  rw [← Int32.toInt_inj]
  simp only [Int16.toInt_toInt32]
  rw [Int16.toInt_ofInt_of_le h.1 (by omega), o32 ⟨by omega, by omega⟩]
theorem divA_of {a b r : Int} (h : divA a b = some r) : 0 ≤ a ∧ 0 < b ∧ r = a / b := by
  unfold divA at h
  split at h
  · rename_i hc; cases h; exact ⟨hc.1, hc.2, rfl⟩
  · cases h
theorem remA_of {a b r : Int} (h : remA a b = some r) : 0 ≤ a ∧ 0 < b ∧ r = a % b := by
  unfold remA at h
  split at h
  · rename_i hc; cases h; exact ⟨hc.1, hc.2, rfl⟩
  · cases h
theorem shlA_of {a b r : Int} (h : shlA a b = some r) : 0 ≤ a ∧ 0 ≤ b ∧ b ≤ 30 ∧ r = a * 2 ^ b.toNat := by
  unfold shlA at h
  split at h
  · rename_i hc; cases h; exact ⟨hc.1, hc.2.1, hc.2.2, rfl⟩
  · cases h
set_option maxHeartbeats 4000000 in
theorem pstep_sound (F : Fx p s m args meth c me A R) {i : Instr} (hd : adec me pc = some (i, len)) (h : pstep me.1 i ls st = some (ls', st')) (hL : LH ad lsC nL ls) (hn : ls.length = nL) (hls : ∀ v ∈ ls, vOk sh v) (hst : ∀ v ∈ st, vOk sh v)
    (kk : ∀ lsC', LH ad lsC' nL ls' → W p l e R s m args below meth c H locs cells slots Q (F0 m (pc + len) lsC' (mp ad st'))) : W p l e R s m args below meth c H locs cells slots Q (F0 m pc lsC (mp ad st)) := by
  obtain ⟨hx, hb, hml, hown, hts, -⟩ := F
  obtain ⟨hdg, hlen⟩ := adec_of hd
  unfold pstep at h
  split at h
  · -- iconst
    obtain ⟨-, rfl, rfl⟩ := pushI_of h
    have : len = 1 := by simpa [ilen, eq_comm] using hlen
    subst this
    exact lv_iconst hx hb hdg rfl (kk _ hL)
  · split at h
    · rename_i hc
      cases h
      have : len = 2 := by simpa [ilen, eq_comm] using hlen
      subst this
      exact lv_bipush hx hb hdg (b8 hc) (kk _ hL)
    · cases h
  · split at h
    · rename_i hc
      cases h
      have : len = 3 := by simpa [ilen, eq_comm] using hlen
      subst this
      exact lv_sipush hx hb hdg (b16 hc) (kk _ hL)
    · cases h
  · rename_i k0
    cases h
    have : len = 1 := by simpa [ilen, eq_comm] using hlen
    subst this
    exact lv_lconst hx hb hdg Int64.ofInt_eq_ofNat.symm (kk _ hL)
  · cases hk : lk tK me.1 _ with
    | none => rw [hk] at h; cases h
    | some v =>
      rw [hk, Option.bind_some] at h
      obtain ⟨-, rfl, rfl⟩ := pushI_of h
      have : len = 2 := by simpa [ilen, eq_comm] using hlen
      subst this
      exact lv_ldc hx hb hown (hts _ (kst_ok _ (lk_mem hk))) hdg (kk _ hL)
  · cases hk : lk tKL me.1 _ with
    | none => rw [hk] at h; cases h
    | some v =>
      rw [hk, Option.bind_some] at h
      obtain ⟨-, rfl, rfl⟩ := pushL_of h
      have : len = 3 := by simpa [ilen, eq_comm] using hlen
      subst this
      exact lv_ldc2 hx hb hown (hts _ (kstl_ok _ (lk_mem hk))) hdg (kk _ hL)
  · obtain ⟨x, hx1, rfl, rfl⟩ := ldI_of h
    have : len = 2 := by simpa [ilen, eq_comm] using hlen
    subst this
    exact lv_iload hx hb hdg (hL.at hx1 rfl) (kk _ hL)
  · obtain ⟨x, hx1, rfl, rfl⟩ := ldI_of h
    have : len = 1 := by simpa [ilen, eq_comm] using hlen
    subst this
    exact lv_iload_n hx hb hdg rfl (hL.at hx1 rfl) (kk _ hL)
  · obtain ⟨x, hx1, rfl, rfl⟩ := ldR_of h
    have : len = 2 := by simpa [ilen, eq_comm] using hlen
    subst this
    exact lv_aload hx hb hdg (hL.at hx1 rfl) (kk _ hL)
  · obtain ⟨x, hx1, rfl, rfl⟩ := ldR_of h
    have : len = 1 := by simpa [ilen, eq_comm] using hlen
    subst this
    exact lv_aload_n hx hb hdg rfl (hL.at hx1 rfl) (kk _ hL)
  · obtain ⟨x, hx1, rfl, rfl⟩ := ldL_of h
    have : len = 2 := by simpa [ilen, eq_comm] using hlen
    subst this
    exact lv_lload hx hb hdg (hL.at hx1 rfl) (kk _ hL)
  · obtain ⟨x, hx1, rfl, rfl⟩ := ldL_of h
    have : len = 1 := by simpa [ilen, eq_comm] using hlen
    subst this
    exact lv_lload_n hx hb hdg rfl (hL.at hx1 rfl) (kk _ hL)
  · obtain ⟨x, rfl, h1, h2, rfl⟩ := stI_of h
    have : len = 2 := by simpa [ilen, eq_comm] using hlen
    subst this
    exact lv_istore hx hb hdg hL (by omega) rfl (fun lsC' h' => kk _ (LH.set1 h1 h'))
  · obtain ⟨x, rfl, h1, h2, rfl⟩ := stI_of h
    have : len = 1 := by simpa [ilen, eq_comm] using hlen
    subst this
    exact lv_istore_n hx hb hdg rfl hL (by omega) rfl (fun lsC' h' => kk _ (LH.set1 h1 h'))
  · obtain ⟨x, rfl, h1, h2, rfl⟩ := stR_of h
    have : len = 2 := by simpa [ilen, eq_comm] using hlen
    subst this
    exact lv_astore hx hb hdg hL (by omega) rfl (fun lsC' h' => kk _ (LH.set1 h1 h'))
  · obtain ⟨x, rfl, h1, h2, rfl⟩ := stR_of h
    have : len = 1 := by simpa [ilen, eq_comm] using hlen
    subst this
    exact lv_astore_n hx hb hdg rfl hL (by omega) rfl (fun lsC' h' => kk _ (LH.set1 h1 h'))
  · obtain ⟨x, rfl, h1, h2, rfl⟩ := stL_of h
    have : len = 2 := by simpa [ilen, eq_comm] using hlen
    subst this
    exact lv_lstore hx hb hdg hL (by omega) rfl (fun lsC' h' => kk _ (LH.set2 h1 h'))
  · obtain ⟨x, rfl, h1, h2, rfl⟩ := stL_of h
    have : len = 1 := by simpa [ilen, eq_comm] using hlen
    subst this
    exact lv_lstore_n hx hb hdg rfl hL (by omega) rfl (fun lsC' h' => kk _ (LH.set2 h1 h'))
  · -- iinc
    split at h
    · rename_i j0 c0 _ x hx1
      split at h
      · obtain ⟨x', h0, h1, h2, rfl⟩ := stI_of h
        have h00 := List.cons.inj h0
        obtain ⟨rfl, rfl⟩ : x + c0 = x' ∧ st = st' := ⟨by simpa using h00.1, h00.2⟩
        have : len = 3 := by simpa [ilen, eq_comm] using hlen
        subst this
        obtain ⟨kx, hkx⟩ := List.getElem?_of_mem (mem_lvOf.mpr ⟨_, hx1, rfl, rfl⟩ : ((j0, cv ad (.inl x)) : Nat × Value) ∈ lvOf ad ls)
        exact lv_iinc hx hb hdg hL hkx (Int32.ofInt_add x c0).symm (by omega) rfl (fun lsC' h' => kk _ (LH.set1 h1 h'))
      · cases h
    · cases h
  · obtain ⟨a, b, r, rest, rfl, hf, hr, rfl, rfl⟩ := two_of h
    have : len = 1 := by simpa [ilen, eq_comm] using hlen
    subst this
    cases hf
    exact lv_iadd hx hb hdg (by rw [← Int32.ofInt_add]; exact kk _ hL)
  · obtain ⟨a, b, r, rest, rfl, hf, hr, rfl, rfl⟩ := two_of h
    have : len = 1 := by simpa [ilen, eq_comm] using hlen
    subst this
    cases hf
    exact lv_isub hx hb hdg (by rw [← Int32.ofInt_sub]; exact kk _ hL)
  · obtain ⟨a, b, r, rest, rfl, hf, hr, rfl, rfl⟩ := two_of h
    have : len = 1 := by simpa [ilen, eq_comm] using hlen
    subst this
    cases hf
    exact lv_imul hx hb hdg (by rw [← Int32.ofInt_mul]; exact kk _ hL)
  · obtain ⟨a, b, r, rest, rfl, hf, hr, rfl, rfl⟩ := two_of h
    have : len = 1 := by simpa [ilen, eq_comm] using hlen
    subst this
    obtain ⟨h0, h1, rfl⟩ := divA_of hf
    have ib : inI b := hst (.inl b) (by simp)
    have ia : inI a := hst (.inl a) (by simp)
    refine lv_idiv hx hb hdg (fun hz => ?_) (by rw [o32_div ia ib h0 h1]; exact kk _ hL)
    have := (o32_eq ib ⟨by decide, by decide⟩).mp (hz.trans o32_0.symm)
    omega
  · obtain ⟨a, b, r, rest, rfl, hf, hr, rfl, rfl⟩ := two_of h
    have : len = 1 := by simpa [ilen, eq_comm] using hlen
    subst this
    obtain ⟨h0, h1, rfl⟩ := remA_of hf
    have ib : inI b := hst (.inl b) (by simp)
    have ia : inI a := hst (.inl a) (by simp)
    refine lv_irem hx hb hdg (fun hz => ?_) (by rw [o32_rem ia ib h0 h1]; exact kk _ hL)
    have := (o32_eq ib ⟨by decide, by decide⟩).mp (hz.trans o32_0.symm)
    omega
  · obtain ⟨a, b, r, rest, rfl, hf, hr, rfl, rfl⟩ := two_of h
    have : len = 1 := by simpa [ilen, eq_comm] using hlen
    subst this
    obtain ⟨h0, h1, h2, rfl⟩ := shlA_of hf
    exact lv_ishl hx hb hdg (by rw [o32_shl h0 h1 h2 hr]; exact kk _ hL)
  · obtain ⟨a, b, r, rest, rfl, hf, hr, rfl, rfl⟩ := two_of h
    have : len = 1 := by simpa [ilen, eq_comm] using hlen
    subst this
    cases hf
    exact lv_iand hx hb hdg (by rw [← o32_back (Int32.ofInt a &&& Int32.ofInt b)]; exact kk _ hL)
  · obtain ⟨a, b, r, rest, rfl, hf, hr, rfl, rfl⟩ := two_of h
    have : len = 1 := by simpa [ilen, eq_comm] using hlen
    subst this
    cases hf
    exact lv_ior hx hb hdg (by rw [← o32_back (Int32.ofInt a ||| Int32.ofInt b)]; exact kk _ hL)
  · obtain ⟨a, b, r, rest, rfl, hf, hr, rfl, rfl⟩ := two_of h
    have : len = 1 := by simpa [ilen, eq_comm] using hlen
    subst this
    cases hf
    exact lv_ixor hx hb hdg (by rw [← o32_back (Int32.ofInt a ^^^ Int32.ofInt b)]; exact kk _ hL)
  · split at h
    · rename_i a rest
      obtain ⟨h1, rfl, rfl⟩ := pushI_of h
      have : len = 1 := by simpa [ilen, eq_comm] using hlen
      subst this
      exact lv_ineg hx hb hdg (by rw [← Int32.ofInt_neg]; exact kk _ hL)
    · cases h
  · obtain ⟨a, b, r, rest, rfl, hf, hr, rfl, rfl⟩ := twoL_of h
    have : len = 1 := by simpa [ilen, eq_comm] using hlen
    subst this
    cases hf
    exact lv_lmul hx hb hdg (by rw [← Int64.ofInt_mul]; exact kk _ hL)
  · obtain ⟨a, b, r, rest, rfl, hf, hr, rfl, rfl⟩ := twoL_of h
    have : len = 1 := by simpa [ilen, eq_comm] using hlen
    subst this
    obtain ⟨h0, h1, rfl⟩ := remA_of hf
    have ib : inL b := hst (.inr (.inr (.inl b))) (by simp)
    have ia : inL a := hst (.inr (.inr (.inl a))) (by simp)
    refine lv_lrem hx hb hdg (fun hz => ?_) (by rw [o64_rem ia ib h0 h1]; exact kk _ hL)
    have := (o64_eq ib (⟨by decide, by decide⟩ : inL 0)).mp (hz.trans (rfl : (0 : Int64) = Int64.ofInt 0))
    omega
  · split at h
    · rename_i b a rest
      cases h
      have : len = 1 := by simpa [ilen, eq_comm] using hlen
      subst this
      have ib : inL b := hst (.inr (.inr (.inl b))) (by simp)
      have ia : inL a := hst (.inr (.inr (.inl a))) (by simp)
      refine W.lcmp hx hb hdg ?_
      have e1 : lg_cmp (Int64.ofInt a) (Int64.ofInt b) = Int32.ofInt (cmpL a b) := by
        have q1 := o64_lt ib ia
        have q2 := o64_eq ia ib
        unfold lg_cmp cmpL
        by_cases h1 : a < b
        · have n1 : ¬ (Int64.ofInt a > Int64.ofInt b) := fun z => by have := q1.mp z; omega
          have n2 : ¬ (Int64.ofInt a = Int64.ofInt b) := fun z => by have := q2.mp z; omega
          rw [if_pos h1, if_neg n1, if_neg n2]
          rfl
        · by_cases h2 : a = b
          · have n1 : ¬ (Int64.ofInt a > Int64.ofInt b) := fun z => by have := q1.mp z; omega
            rw [if_neg h1, if_pos h2, if_neg n1, if_pos (q2.mpr h2)]
            rfl
          · have n1 : Int64.ofInt a > Int64.ofInt b := q1.mpr (by omega)
            rw [if_neg h1, if_neg h2, if_pos n1]
            rfl
      rw [e1]
      exact kk _ hL
    · cases h
  · split at h
    · rename_i a rest
      cases h
      have : len = 1 := by simpa [ilen, eq_comm] using hlen
      subst this
      have ia : inI a := hst (.inl a) (by simp)
      exact lv_i2l hx hb hdg (Int32.toInt64_ofInt (by exact ia.1) (by exact ia.2)) (kk _ hL)
    · cases h
  · split at h
    · rename_i a rest
      obtain ⟨h1, rfl, rfl⟩ := pushI_of h
      have : len = 1 := by simpa [ilen, eq_comm] using hlen
      subst this
      exact lv_l2i hx hb hdg Int64.toInt32_ofInt (kk _ hL)
    · cases h
  · have : len = 1 := by simpa [ilen, eq_comm] using hlen
    subst this
    split at h
    · cases h
      exact lv_dup hx hb hdg rfl (kk _ hL)
    · cases h
      exact lv_dup hx hb hdg rfl (kk _ hL)
    · cases h
  · have : len = 1 := by simpa [ilen, eq_comm] using hlen
    subst this
    split at h
    · cases h
      exact lv_pop hx hb hdg rfl (kk _ hL)
    · cases h
      exact lv_pop hx hb hdg rfl (kk _ hL)
    · cases h
  · cases h
end PS
