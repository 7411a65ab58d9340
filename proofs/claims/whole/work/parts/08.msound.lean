/-! soundness, 5: steps on memory -/
def ssz (sh : aSh) : Nat := (sh.map (fun q => q.2)).sum
theorem ssz_app (sh : aSh) (q : Nat × Nat) : ssz (sh ++ [q]) = ssz sh + q.2 := by simp [ssz]
theorem cat_a (ad : Nat → Nat) (v : AV) : (cv ad v).category = acat v := by
  rcases v with x | a | x | u <;> simp [cv, Value.category, acat, isL]
theorem cat_sum (ad : Nat → Nat) (st : List AV) : ((mp ad st).map (fun v => v.category)).sum = stcat st := by
  induction st with
  | nil => rfl
  | cons v t ih =>
    simp only [List.map_cons, List.sum_cons, stcat] at ih ⊢
    rw [cat_a, ih]
theorem kind_fit {kd : Nat} {d : String} {ty : FieldType} (hk : kindOk kd d = true) (hd : parseFieldDescriptor d = some ty) (ad : Nat → Nat) {x : Int} (h1 : kd = 1 → x = 0 ∨ x = 1) : narrow ty (fv ad kd x) = fv ad kd x ∧ fits ty (fv ad kd x) = true := by
  unfold kindOk at hk
  rw [hd] at hk
  cases ty <;> simp at hk
  all_goals
    subst hk
    first
      | exact ⟨rfl, rfl⟩
      | (rcases h1 rfl with rfl | rfl <;> exact ⟨rfl, rfl⟩)
      | (simp only [fv, if_true]
         split <;> exact ⟨rfl, rfl⟩)
theorem pr_max : ∀ q ∈ tPr, q.2 = 1 → Jvm.Cond.methodLink (cnm q.1.1) q.1.2 Lib.Math.max.name ∈ gW := by decide +kernel
theorem pr_min : ∀ q ∈ tPr, q.2 = 2 → Jvm.Cond.methodLink (cnm q.1.1) q.1.2 Lib.Math.min.name ∈ gW := by decide +kernel
theorem pr_cpy : ∀ q ∈ tPr, q.2 = 3 → Jvm.Cond.methodLink (cnm q.1.1) q.1.2 arraycopyName ∈ gW := by decide +kernel
theorem pr_obj : ∀ q ∈ tO, Jvm.Cond.methodLink (cnm q.1.1) q.1.2 Lib.objectInit ∈ gW := by decide +kernel
theorem pr_new : ∀ q ∈ tC, q.2 < 11 ∧ Jvm.Cond.classLink (cnm q.1.1) q.1.2 (cnm q.2) ∈ gW ∧ Jvm.Cond.instantiable (cnm q.2) (aN q.2) ∈ gW ∧ Jvm.Cond.initialized (cnm q.2) ∈ gW := by decide +kernel
theorem pr_w1 : Jvm.Cond.static Lib.Math.max.name ∈ gW ∧ Jvm.Cond.static Lib.Math.min.name ∈ gW ∧ Jvm.Cond.initialized "java/lang/Math" ∈ gW ∧ Jvm.Cond.native arraycopyName ∈ gW ∧ Jvm.Cond.static arraycopyName ∈ gW ∧ Jvm.Cond.initialized "java/lang/System" ∈ gW ∧ Jvm.Cond.instanceMethod Lib.objectInit ∈ gW ∧ Jvm.Cond.arrayClass .int ∈ gW ∧ Jvm.Cond.arrayClass .boolean ∈ gW := by decide +kernel
theorem pr_c1 : Jvm.Cond.code Lib.Math.max.name Lib.Math.max.code 2 (some .int) ∈ gW := by decide +kernel
theorem pr_c2 : Jvm.Cond.code Lib.Math.min.name Lib.Math.min.code 2 (some .int) ∈ gW := by decide +kernel
theorem pr_c3 : Jvm.Cond.code Lib.objectInit ⟨#[0xb1]⟩ 1 none ∈ gW := by decide +kernel
theorem acls_at {ci : Nat} (h : ci < 11) : ∃ r : vw_C, acls[ci]? = some r ∧ r.1 = cnm ci ∧ r.2.2 = aN ci := by
  match ci, h with
  | 0, _ => exact ⟨_, rfl, rfl, rfl⟩
  | 1, _ => exact ⟨_, rfl, rfl, rfl⟩
  | 2, _ => exact ⟨_, rfl, rfl, rfl⟩
  | 3, _ => exact ⟨_, rfl, rfl, rfl⟩
  | 4, _ => exact ⟨_, rfl, rfl, rfl⟩
  | 5, _ => exact ⟨_, rfl, rfl, rfl⟩
  | 6, _ => exact ⟨_, rfl, rfl, rfl⟩
  | 7, _ => exact ⟨_, rfl, rfl, rfl⟩
  | 8, _ => exact ⟨_, rfl, rfl, rfl⟩
  | 9, _ => exact ⟨_, rfl, rfl, rfl⟩
  | 10, _ => exact ⟨_, rfl, rfl, rfl⟩
  | n + 11, h => omega
set_option maxRecDepth 4000 in
theorem fdf_ok : ∀ ci, ci < 11 → ∀ j, j < aN ci → defaultValue (aTy ci j) = fv (fun a => a) (fkd ci j) (fdf ci j) := by decide +kernel
theorem fdf_ad (ad : Nat → Nat) (ci j : Nat) : fv ad (fkd ci j) (fdf ci j) = fv (fun a => a) (fkd ci j) (fdf ci j) := by
  unfold fv fdf
  split
  · simp
  · rfl
theorem nfw : nativeFrameWords "java/lang/System" "arraycopy" 5 + 11 ≤ 32 := by decide +kernel
