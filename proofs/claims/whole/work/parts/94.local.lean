/-! kinds: place by place -/
def lcl (β : Nat → Ty) (γ : Int → Ty) (T : List Int) (τ : Nat → Ty) (q : Nat) : Prop :=
  if T.getD q 0 = 1 then τ (q + 1) = .op (τ (te T (q + 1))) (τ q)
  else if 1000 < T.getD q 0 then τ q = .op (β q) (τ (q + 1))
  else if 97 ≤ T.getD q 0 ∧ T.getD q 0 ≤ 122 then τ q = nmK β γ T q (T.getD q 0)
  else sgK (T.getD q 0) (τ q)
section LCL
variable {β : Nat → Ty} {γ : Int → Ty} {T : List Int} {p q : Nat} {c : Int}
theorem gD_of (h : T[p]? = some c) : T.getD p 0 = c := by rw [List.getD_eq_getElem?_getD, h]; rfl
theorem arT0 (h : arT c = 0) : ¬ c = 1 ∧ ¬ 1000 < c := by
  unfold arT at h
  by_cases g : c = 1
  · rw [if_pos g] at h; omega
  · rw [if_neg g] at h
    by_cases g2 : 1000 < c
    · rw [if_pos g2] at h; omega
    · exact ⟨g, g2⟩
theorem arT1 (h : arT c = 1) : ¬ c = 1 ∧ 1000 < c := by
  unfold arT at h
  by_cases g : c = 1
  · rw [if_pos g] at h; omega
  · rw [if_neg g] at h
    by_cases g2 : 1000 < c
    · exact ⟨g, g2⟩
    · rw [if_neg g2] at h; omega
theorem lcl_dv {τ : Nat → Ty} : ∀ (t : Tm), wt t → ∀ p, AtT T p t → (∀ q, p ≤ q → q < p + (fl t).length → lcl β γ T τ q) → dv β γ T t p (τ p) := by
  intro t ht
  revert t
  refine fun t ht => ?_
  induction t with
  | num c =>
    intro p hA hq
    obtain ⟨e1, e2⟩ := At_num hA
    have := hq p (Nat.le_refl _) (by simp [fl])
    unfold lcl at this
    rw [gD_of e1, if_neg (arT0 e2).1, if_neg (arT0 e2).2] at this
    exact this
  | add a b iha ihb =>
    intro p hA hq
    obtain ⟨e1, e2, e3, e4⟩ := At_add hA
    have l1 : (fl (.add a b)).length = 1 + (fl a).length + (fl b).length := by simp [fl]; omega
    have := hq p (Nat.le_refl _) (by omega)
    unfold lcl at this
    rw [gD_of e1, if_pos rfl] at this
    refine ⟨τ (te T (p + 1)), ?_, ihb ht.2 _ e3 (fun q h1 h2 => hq q (by omega) (by omega))⟩
    rw [← this]
    exact iha ht.1 _ e2 (fun q h1 h2 => hq q (by omega) (by omega))
  | mulL c a iha =>
    intro p hA hq
    obtain ⟨e1, e2, e3⟩ := At_mul hA
    have l1 : (fl (.mulL c a)).length = 1 + (fl a).length := by simp [fl]; omega
    have := hq p (Nat.le_refl _) (by omega)
    unfold lcl at this
    rw [gD_of e1, if_neg (arT1 e2).1, if_pos (arT1 e2).2] at this
    exact ⟨τ (p + 1), this, iha ht.2 _ e3 (fun q h1 h2 => hq q (by omega) (by omega))⟩
  | _ => exact absurd ht (fun z => z)
theorem dv_lcl : ∀ (t : Tm), wt t → ∀ p τ0, AtT T p t → dv β γ T t p τ0 → ∃ τ : Nat → Ty, τ p = τ0 ∧ ∀ τ' : Nat → Ty, (∀ q, p ≤ q → q < p + (fl t).length → τ' q = τ q) → ∀ q, p ≤ q → q < p + (fl t).length → lcl β γ T τ' q := by
  intro t ht
  induction t with
  | num c =>
    intro p τ0 hA hd
    obtain ⟨e1, e2⟩ := At_num hA
    have l1 : (fl (.num c)).length = 1 := rfl
    refine ⟨fun _ => τ0, rfl, fun τ' h q h1 h2 => ?_⟩
    obtain rfl : q = p := by omega
    unfold lcl
    rw [gD_of e1, if_neg (arT0 e2).1, if_neg (arT0 e2).2, h q h1 h2]
    exact hd
  | add a b iha ihb =>
    intro p τ0 hA hd
    obtain ⟨e1, e2, e3, e4⟩ := At_add hA
    have l1 : (fl (.add a b)).length = 1 + (fl a).length + (fl b).length := by simp [fl]; omega
    have pa := fl_pos ht.1
    have pb := fl_pos ht.2
    obtain ⟨k, d1, d2⟩ := hd
    obtain ⟨τa, a1, a2⟩ := iha ht.1 _ _ e2 d1
    obtain ⟨τb, b1, b2⟩ := ihb ht.2 _ _ e3 d2
    refine ⟨fun q => if q = p then τ0 else if q < te T (p + 1) then τa q else τb q, if_pos rfl, fun τ' h q h1 h2 => ?_⟩
    have ha : ∀ q, p + 1 ≤ q → q < p + 1 + (fl a).length → τ' q = τa q := fun q q1 q2 => by
      rw [h q (by omega) (by omega)]
      simp only [if_neg (show ¬ q = p by omega), if_pos (show q < te T (p + 1) by omega)]
    have hb : ∀ q, te T (p + 1) ≤ q → q < te T (p + 1) + (fl b).length → τ' q = τb q := fun q q1 q2 => by
      rw [h q (by omega) (by omega)]
      simp only [if_neg (show ¬ q = p by omega), if_neg (show ¬ q < te T (p + 1) by omega)]
    by_cases g : q = p
    · subst g
      unfold lcl
      rw [gD_of e1, if_pos rfl, ha _ (by omega) (by omega), hb _ (by omega) (by omega), h q (by omega) (by omega), a1, b1]
      simp
    · by_cases g2 : q < te T (p + 1)
      · exact a2 τ' ha q (by omega) (by omega)
      · exact b2 τ' hb q (by omega) (by omega)
  | mulL c a iha =>
    intro p τ0 hA hd
    obtain ⟨e1, e2, e3⟩ := At_mul hA
    have l1 : (fl (.mulL c a)).length = 1 + (fl a).length := by simp [fl]; omega
    have pa := fl_pos ht.2
    obtain ⟨l, d1, d2⟩ := hd
    obtain ⟨τa, a1, a2⟩ := iha ht.2 _ _ e3 d2
    refine ⟨fun q => if q = p then τ0 else τa q, if_pos rfl, fun τ' h q h1 h2 => ?_⟩
    have ha : ∀ q, p + 1 ≤ q → q < p + 1 + (fl a).length → τ' q = τa q := fun q q1 q2 => by
      rw [h q (by omega) (by omega)]
      simp only [if_neg (show ¬ q = p by omega)]
    by_cases g : q = p
    · subst g
      unfold lcl
      rw [gD_of e1, if_neg (arT1 e2).1, if_pos (arT1 e2).2, ha (q + 1) (by omega) (by omega), h q (by omega) (by omega), a1]
      simpa using d1
    · exact a2 τ' ha q (by omega) (by omega)
  | _ => exact absurd ht (fun z => z)
/-- dv of the whole is lcl at each place -/
theorem dv_iff (hT : isT T) (τ0 : Ty) : dv β γ T (trA T 0) 0 τ0 ↔ ∃ τ : Nat → Ty, τ 0 = τ0 ∧ ∀ q, q < T.length → lcl β γ T τ q := by
  obtain ⟨t, hA⟩ := At_ex hT (isT_pos hT)
  rw [trA_eq hA]
  have e1 := At_te hA
  rw [te_all hT] at e1
  constructor
  · intro h
    obtain ⟨τ, h1, h2⟩ := dv_lcl t hA.1 0 τ0 hA h
    exact ⟨τ, h1, fun q hq => h2 τ (fun _ _ _ => rfl) q (by omega) (by omega)⟩
  · rintro ⟨τ, h1, h2⟩
    rw [← h1]
    exact lcl_dv t hA.1 0 hA (fun q h3 h4 => h2 q (by omega))
end LCL
