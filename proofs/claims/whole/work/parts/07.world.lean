/-! soundness, 4: worlds of the abstract memory -/
theorem wl_at {ad : Nat → Nat} {ca : Nat → ClassId} {sh : aSh} {σ : aSg} {a : Nat} {q : Nat × Nat} (h : sh[a]? = some q) : (wl ad ca sh σ)[a]? = some (ad a, ce ad (ca a) q (σ a)) := by
  simp [wl, List.getElem?_mapIdx, h]
theorem wl_len (ad : Nat → Nat) (ca : Nat → ClassId) (sh : aSh) (σ : aSg) : (wl ad ca sh σ).length = sh.length := by simp [wl]
theorem aupA_at (σ : aSg) (a : Nat) (f : Nat → Int) : aupA σ a f a = f := by funext i; simp [aupA]
theorem aupA_ne (σ : aSg) {a b : Nat} (f : Nat → Int) (h : b ≠ a) : aupA σ a f b = σ b := by funext i; simp [aupA, h]
theorem wl_set {ad : Nat → Nat} {ca : Nat → ClassId} {sh : aSh} {σ : aSg} {a : Nat} {q : Nat × Nat} {x : va_E} {f : Nat → Int} (h : sh[a]? = some q) (hx : x = ce ad (ca a) q f) : (wl ad ca sh σ).set a (ad a, x) = wl ad ca sh (aupA σ a f) := by
  subst hx
  apply List.ext_getElem?
  intro i
  by_cases hi : i = a
  · subst hi
    have hl : i < (wl ad ca sh σ).length := by rw [wl_len]; exact (List.getElem?_eq_some_iff.mp h).1
    rw [List.getElem?_set_self hl, wl_at h, aupA_at]
  · rw [List.getElem?_set_ne (Ne.symm hi)]
    simp only [wl, List.getElem?_mapIdx]
    cases sh[i]? with
    | none => rfl
    | some r => simp [aupA_ne σ f hi]
theorem aup_eq (σ : aSg) (a j : Nat) (v : Int) : aup σ a j v = aupA σ a (fun i => if i = j then v else σ a i) := by
  funext b i
  unfold aup aupA
  by_cases hb : b = a
  · subst hb
    by_cases hi : i = j
    · simp [hi]
    · simp [hi]
  · simp [hb]
theorem ce_obj {ad : Nat → Nat} {cA : ClassId} {ci n : Nat} {f : Nat → Int} (h : ci < 20) : ce ad cA (ci, n) f = .inr (ci, ((fK[ci]?).getD []).mapIdx (fun j kd => fv ad kd (f j))) := by
  unfold ce
  rw [if_neg (by simp only; omega), if_neg (by simp only; omega)]
theorem ce_int {ad : Nat → Nat} {cA : ClassId} {n : Nat} {f : Nat → Int} : ce ad cA (20, n) f = .inl (cA, n, .inl (fun j => Int32.ofInt (f j))) := by
  unfold ce
  rw [if_pos (Or.inl rfl)]
theorem ce_bool {ad : Nat → Nat} {cA : ClassId} {n : Nat} {f : Nat → Int} : ce ad cA (21, n) f = .inl (cA, n, .inl (fun j => Int32.ofInt (f j))) := by
  unfold ce
  rw [if_pos (Or.inr rfl)]
theorem ce_ref {ad : Nat → Nat} {cA : ClassId} {n : Nat} {f : Nat → Int} : ce ad cA (22, n) f = .inl (cA, n, .inr (.inr (.inr (.inr (fun j => rfo ad (f j)))))) := by
  unfold ce
  rw [if_neg (by simp), if_pos rfl]
theorem fields_at {ad : Nat → Nat} {ci j : Nat} {f : Nat → Int} (hj : j < aN ci) : (((fK[ci]?).getD []).mapIdx (fun j kd => fv ad kd (f j)))[j]? = some (fv ad (fkd ci j) (f j)) := by
  have hj' : j < ((fK[ci]?).getD []).length := hj
  simp [List.getElem?_mapIdx, fkd, List.getElem?_eq_getElem hj', List.getD_eq_getElem?_getD]
theorem fields_set {ad : Nat → Nat} {ci j : Nat} {f : Nat → Int} {x : Int} (hj : j < aN ci) : (((fK[ci]?).getD []).mapIdx (fun j kd => fv ad kd (f j))).set j (fv ad (fkd ci j) x) = ((fK[ci]?).getD []).mapIdx (fun i kd => fv ad kd (if i = j then x else f i)) := by
  have hj' : j < ((fK[ci]?).getD []).length := hj
  apply List.ext_getElem?
  intro i
  by_cases hi : i = j
  · subst hi
    rw [List.getElem?_set_self (by simpa using hj')]
    simp [List.getElem?_mapIdx, fkd, List.getElem?_eq_getElem hj', List.getD_eq_getElem?_getD]
  · rw [List.getElem?_set_ne (Ne.symm hi)]
    simp [List.getElem?_mapIdx, hi]
def kindOk (kd : Nat) (d : String) : Bool := match parseFieldDescriptor d with
  | some .int => decide (kd = 0)
  | some .boolean => decide (kd = 1)
  | some (.object _) => decide (kd = 2)
  | some (.array _) => decide (kd = 2)
  | _ => false
def tFchk (q : (Nat × Nat) × (Nat × Nat)) : Bool := decide (q.2.1 < 20) && match acls[q.2.1]? with
  | some r => decide (q.2.2 < r.2.2) && decide (r.2.2 = aN q.2.1) && decide (Jvm.Cond.fieldLink (cnm q.1.1) q.1.2 (r.2.1 q.2.2).1 (r.2.1 q.2.2).2.1 (r.2.1 q.2.2).2.2.1 ∈ gW) && kindOk (fkd q.2.1 q.2.2) (r.2.1 q.2.2).2.2.1 && decide ((r.2.1 q.2.2).1 = r.1)
  | none => false
set_option maxRecDepth 20000 in
theorem tF_chk : ∀ q ∈ tF, tFchk q = true := by decide +kernel
set_option maxRecDepth 20000 in
theorem cls_lay : ∀ ci, ci < 11 → ∀ r, acls[ci]? = some r → ∀ w ∈ u_ws r.1 r.2.1 r.2.2, w ∈ gW := by
  have h0 : ∀ w ∈ u_ws RX0 TX0 3, w ∈ gW := by decide +kernel
  have h1 : ∀ w ∈ u_ws RX1 TX1 3, w ∈ gW := by decide +kernel
  have h2 : ∀ w ∈ u_ws RX2 TX2 5, w ∈ gW := by decide +kernel
  have h3 : ∀ w ∈ u_ws RX3 TX3 2, w ∈ gW := by decide +kernel
  have h4 : ∀ w ∈ u_ws RX4 TX4 3, w ∈ gW := by decide +kernel
  have h5 : ∀ w ∈ u_ws RX5 TX5 10, w ∈ gW := by decide +kernel
  have h6 : ∀ w ∈ u_ws RX6 TX6 2, w ∈ gW := by decide +kernel
  have h7 : ∀ w ∈ u_ws RX7 TX7 4, w ∈ gW := by decide +kernel
  have h8 : ∀ w ∈ u_ws RX8 TX8 6, w ∈ gW := by decide +kernel
  have h9 : ∀ w ∈ u_ws RX9 TX9 13, w ∈ gW := by decide +kernel
  have h10 : ∀ w ∈ u_ws RX10 TX10 37, w ∈ gW := by decide +kernel
  intro ci hci r hr
  match ci, hci, hr with
  | 0, _, hr => cases hr; exact h0
  | 1, _, hr => cases hr; exact h1
  | 2, _, hr => cases hr; exact h2
  | 3, _, hr => cases hr; exact h3
  | 4, _, hr => cases hr; exact h4
  | 5, _, hr => cases hr; exact h5
  | 6, _, hr => cases hr; exact h6
  | 7, _, hr => cases hr; exact h7
  | 8, _, hr => cases hr; exact h8
  | 9, _, hr => cases hr; exact h9
  | 10, _, hr => cases hr; exact h10
  | n + 11, h, _ => omega
theorem cls_ty : ∀ ci r, acls[ci]? = some r → (∀ k, k < r.2.2 → parseFieldDescriptor (r.2.1 k).2.2.1 = some (aTy ci k)) ∧ (∀ a, a < r.2.2 → ∀ b, b < r.2.2 → a ≠ b → (r.2.1 a).2.1 ≠ (r.2.1 b).2.1) ∧ ci < 11 := by
  intro ci r hr
  match ci, hr with
  | 0, hr => cases hr; exact ⟨tyX0_ok, nmX0, by omega⟩
  | 1, hr => cases hr; exact ⟨tyX1_ok, nmX1, by omega⟩
  | 2, hr => cases hr; exact ⟨tyX2_ok, nmX2, by omega⟩
  | 3, hr => cases hr; exact ⟨tyX3_ok, nmX3, by omega⟩
  | 4, hr => cases hr; exact ⟨tyX4_ok, nmX4, by omega⟩
  | 5, hr => cases hr; exact ⟨tyX5_ok, nmX5, by omega⟩
  | 6, hr => cases hr; exact ⟨tyX6_ok, nmX6, by omega⟩
  | 7, hr => cases hr; exact ⟨tyX7_ok, nmX7, by omega⟩
  | 8, hr => cases hr; exact ⟨tyX8_ok, nmX8, by omega⟩
  | 9, hr => cases hr; exact ⟨tyX9_ok, nmX9, by omega⟩
  | 10, hr => cases hr; exact ⟨tyX10_ok, nmX10, by omega⟩
  | n + 11, hr => simp [acls] at hr
theorem tF_of {oc x ci j : Nat} (h : lk tF oc x = some (ci, j)) : ∃ r : vw_C, acls[ci]? = some r ∧ j < r.2.2 ∧ r.2.2 = aN ci ∧ Jvm.Cond.fieldLink (cnm oc) x (r.2.1 j).1 (r.2.1 j).2.1 (r.2.1 j).2.2.1 ∈ gW ∧ kindOk (fkd ci j) (r.2.1 j).2.2.1 = true ∧ ci < 20 ∧ (r.2.1 j).1 = r.1 := by
  have h1 := tF_chk _ (lk_mem h)
  unfold tFchk at h1
  dsimp only at h1
  cases hr : acls[ci]? with
  | none => rw [hr] at h1; simp at h1
  | some r =>
    rw [hr] at h1
    simp only [Bool.and_eq_true, decide_eq_true_eq] at h1
    exact ⟨r, rfl, h1.2.1.1.1.1, h1.2.1.1.1.2, h1.2.1.1.2, h1.2.1.2, h1.1, h1.2.2⟩
theorem inI_sm {x : Int} (h0 : -1 ≤ x) (h1 : x ≤ 100000) : inI x := ⟨by omega, by omega⟩
theorem mOk_set {sh : aSh} {σ : aSg} (h : mOk sh σ) {a : Nat} {q : Nat × Nat} (hq : sh[a]? = some q) {f : Nat → Int} (h1 : ∀ j, inI (f j)) (h2 : ∀ j, (q.1 = 22 ∨ fkd q.1 j = 2) → f j < sh.length) : mOk sh (aupA σ a f) := by
  refine ⟨fun b j => ?_, fun b r hr j hj => ?_, h.2.2.1, h.2.2.2⟩
  · unfold aupA
    split
    · exact h1 j
    · exact h.1 b j
  · unfold aupA
    split
    · rename_i hb
      subst hb
      cases hq.symm.trans hr
      exact h2 j hj
    · exact h.2.1 b r hr j hj
theorem mOk_up {sh : aSh} {σ : aSg} (h : mOk sh σ) {a j : Nat} {q : Nat × Nat} (hq : sh[a]? = some q) {x : Int} (h1 : inI x) (h2 : (q.1 = 22 ∨ fkd q.1 j = 2) → x < sh.length) : mOk sh (aup σ a j x) := by
  rw [aup_eq]
  refine mOk_set h hq (fun i => ?_) (fun i hi => ?_)
  · split
    · exact h1
    · exact h.1 a i
  · split
    · rename_i he; subst he; exact h2 hi
    · exact h.2.1 a q hq i hi
/-- the addresses, one more -/
def adn (ad : Nat → Nat) (n q : Nat) : Nat → Nat := fun a => if a = n then q else ad a
def can (ca : Nat → ClassId) (n : Nat) (q : ClassId) : Nat → ClassId := fun a => if a = n then q else ca a
theorem fkd_out {q1 j : Nat} (h : q1 = 20 ∨ q1 = 21) : fkd q1 j ≠ 2 := by
  rcases h with rfl | rfl <;> simp [fkd, fK]
theorem ce_ext {ad ad' : Nat → Nat} {cA : ClassId} {q : Nat × Nat} {f : Nat → Int} {n : Nat} (hf : ∀ j, (q.1 = 22 ∨ fkd q.1 j = 2) → f j < n) (h : ∀ a, a < n → ad' a = ad a) : ce ad' cA q f = ce ad cA q f := by
  unfold ce
  split
  · rfl
  · split
    · rename_i h22
      have : (fun j => rfo ad' (f j)) = (fun j => rfo ad (f j)) := by
        funext j
        unfold rfo
        split
        · rfl
        · have := hf j (Or.inl h22)
          rw [h _ (by omega)]
      rw [this]
    · congr 2
      apply List.ext_getElem?
      intro i
      simp only [List.getElem?_mapIdx]
      cases hk : ((fK[q.1]?).getD [])[i]? with
      | none => rfl
      | some kd =>
        simp only [Option.map_some, Option.some.injEq]
        unfold fv
        split
        · rename_i h2
          split
          · rfl
          · have := hf i (Or.inr (by simp [fkd, List.getD_eq_getElem?_getD, hk, h2]))
            rw [h _ (by omega)]
        · rfl
theorem wl_ext {ad ad' : Nat → Nat} {ca : Nat → ClassId} {sh : aSh} {σ : aSg} (hm : mOk sh σ) (h : ∀ a, a < sh.length → ad' a = ad a) {ca' : Nat → ClassId} (hc : ∀ a, a < sh.length → ca' a = ca a) : wl ad' ca' sh σ = wl ad ca sh σ := by
  apply List.ext_getElem?
  intro i
  simp only [wl, List.getElem?_mapIdx]
  cases hq : sh[i]? with
  | none => rfl
  | some q =>
    have hl := (List.getElem?_eq_some_iff.mp hq).1
    simp only [Option.map_some, Option.some.injEq, Prod.mk.injEq]
    rw [h i hl, hc i hl]
    exact ⟨rfl, ce_ext (hm.2.1 i q hq) h⟩
theorem wl_app {ad : Nat → Nat} {ca : Nat → ClassId} {sh : aSh} {q : Nat × Nat} {σ : aSg} {f : Nat → Int} : wl ad ca (sh ++ [q]) (aupA σ sh.length f) = wl ad ca sh σ ++ [(ad sh.length, ce ad (ca sh.length) q f)] := by
  apply List.ext_getElem?
  intro i
  simp only [wl, List.mapIdx_append, List.mapIdx_cons, List.mapIdx_nil]
  by_cases hi : i < sh.length
  · rw [List.getElem?_append_left (by simpa using hi), List.getElem?_append_left (by simpa using hi)]
    simp only [List.getElem?_mapIdx]
    cases sh[i]? with
    | none => rfl
    | some r =>
      have : i ≠ sh.length := by omega
      simp [aupA_ne σ f this]
  · rw [List.getElem?_append_right (by simpa using hi), List.getElem?_append_right (by simpa using hi)]
    simp [aupA_at]
theorem wl_push {ad : Nat → Nat} {ca : Nat → ClassId} {sh : aSh} {q : Nat × Nat} {σ : aSg} {f : Nat → Int} {qa : Nat} {cA : ClassId} (hm : mOk sh σ) (hf : ∀ j, (q.1 = 22 ∨ fkd q.1 j = 2) → f j < 0) : wl (adn ad sh.length qa) (can ca sh.length cA) (sh ++ [q]) (aupA σ sh.length f) = wl ad ca sh σ ++ [(qa, ce ad cA q f)] := by
  have h1 : ∀ a, a < sh.length → adn ad sh.length qa a = ad a := fun a ha => by unfold adn; rw [if_neg (by omega)]
  have h2 : ∀ a, a < sh.length → can ca sh.length cA a = ca a := fun a ha => by unfold can; rw [if_neg (by omega)]
  rw [wl_app, wl_ext hm h1 h2]
  congr 2
  simp only [adn, can, if_true, Prod.mk.injEq, true_and]
  exact ce_ext (n := 0) (fun j hj => by have := hf j hj; omega) (fun a ha => by omega)
theorem mOk_push {sh : aSh} {σ : aSg} (h : mOk sh σ) {q : Nat × Nat} {f : Nat → Int} (hl : sh.length < 1000) (h1 : ∀ j, inI (f j)) (h2 : ∀ j, (q.1 = 22 ∨ fkd q.1 j = 2) → f j < 0) (h3 : q.2 ≤ 100000) : mOk (sh ++ [q]) (aupA σ sh.length f) := by
  have key : ∀ (a : Nat) (r : Nat × Nat), (sh ++ [q])[a]? = some r → (a < sh.length ∧ sh[a]? = some r) ∨ (a = sh.length ∧ r = q) := by
    intro a r hr
    by_cases ha : a < sh.length
    · rw [List.getElem?_append_left ha] at hr
      exact Or.inl ⟨ha, hr⟩
    · rw [List.getElem?_append_right (by omega)] at hr
      have hz : a - sh.length < 1 := (List.getElem?_eq_some_iff.mp hr).1
      rw [show a - sh.length = 0 by omega] at hr
      cases hr
      exact Or.inr ⟨by omega, rfl⟩
  refine ⟨fun a j => ?_, fun a r hr j hj => ?_, by simp; omega, fun a r hr => ?_⟩
  · unfold aupA
    split
    · exact h1 j
    · exact h.1 a j
  · simp only [List.length_append, List.length_cons, List.length_nil]
    rcases key a r hr with ⟨ha, hr⟩ | ⟨ha, rfl⟩
    · have := h.2.1 a r hr j hj
      unfold aupA
      rw [if_neg (by omega)]
      omega
    · have := h2 j hj
      unfold aupA
      rw [if_pos ha]
      omega
  · rcases key a r hr with ⟨ha, hr⟩ | ⟨ha, rfl⟩
    · exact h.2.2.2 a r hr
    · exact h3
theorem cv_ext {ad ad' : Nat → Nat} {sh : aSh} (h : ∀ a, a < sh.length → ad' a = ad a) {v : AV} (hv : vOk sh v) : cv ad' v = cv ad v := by
  rcases v with x | a | x | u
  · rfl
  · simp only [cv]; rw [h a hv]
  · rfl
  · rfl
theorem mp_ext {ad ad' : Nat → Nat} {sh : aSh} (h : ∀ a, a < sh.length → ad' a = ad a) {st : List AV} (hv : ∀ v ∈ st, vOk sh v) : mp ad' st = mp ad st := List.map_congr_left (fun v hv' => cv_ext h (hv v hv'))
theorem LH_ext {ad ad' : Nat → Nat} {sh : aSh} (h : ∀ a, a < sh.length → ad' a = ad a) {lsC : Array Slot} {nL : Nat} {ls : List AV} (hv : ∀ v ∈ ls, vOk sh v) (hL : LH ad lsC nL ls) : LH ad' lsC nL ls := by
  refine ⟨hL.1, hL.2.1, fun q hq => ?_⟩
  obtain ⟨v, h1, h2, h3⟩ := mem_lvOf.mp hq
  exact hL.2.2 q (mem_lvOf.mpr ⟨v, h1, h2, by rw [h3]; exact cv_ext h (hv v (List.mem_of_getElem? h1))⟩)
theorem vin {i : Int} {n : Nat} (h0 : 0 ≤ i) (h1 : i < n) (hn : n ≤ 100000) : vp_in (Int32.ofInt i) n ∧ (Int32.ofInt i).toNatClampNeg = i.toNat := by
  have hi : inI i := ⟨by omega, by omega⟩
  refine ⟨fun h => ?_, o32_cl hi⟩
  rcases h with h | h
  · rw [← o32_0, o32_lt hi ⟨by decide, by decide⟩] at h
    omega
  · rw [o32_cl hi] at h
    omega
