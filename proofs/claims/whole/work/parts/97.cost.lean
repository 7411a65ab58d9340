/-! Sorter: how many kinds a term takes -/
def csS : List Int → Nat
  | [] => 0
  | c :: l => cst c + csS l
theorem csS_app : ∀ (l r : List Int), csS (l ++ r) = csS l + csS r := by
  intro l r
  induction l with
  | nil => simp [csS]
  | cons c l ih => simp only [List.cons_append, csS, ih]; omega
theorem nmc_app (l r : List Int) : nmc (l ++ r) = nmc l + nmc r := List.countP_append
theorem nmc_cons (c : Int) (l : List Int) : nmc (c :: l) = nmc l + if isNB c = true then 1 else 0 := by
  unfold nmc; rw [List.countP_cons]
theorem cost_t : ∀ t : Tm, wt t → 2 * (nmc (fl t) + csS (fl t)) ≤ 11 * (fl t).length + 7 := by
  intro t ht
  induction t with
  | num c =>
    have h := arT0 (c := c) ht
    simp only [fl, nmc_cons, csS, List.length_cons, List.length_nil]
    unfold cst
    rw [if_neg h.1, if_neg h.2]
    have n0 : nmc [] = 0 := rfl
    by_cases g : 97 ≤ c ∧ c ≤ 122
    · rw [if_pos g]
      by_cases z : isNB c = true
      · rw [if_pos z]; omega
      · rw [if_neg z]; omega
    · rw [if_neg g]
      have z : ¬ isNB c = true := by unfold isNB; simp only [decide_eq_true_eq]; omega
      rw [if_neg z]; omega
  | add a b iha ihb =>
    have h1 := iha ht.1
    have h2 := ihb ht.2
    have c1 : cst 1 = 2 := rfl
    have z : isNB 1 = false := rfl
    simp only [fl, nmc_cons, nmc_app, csS, csS_app, List.length_cons, List.length_append, c1, z]
    simp only [Bool.false_eq_true, if_false]
    omega
  | mulL c a iha =>
    have h1 := iha ht.2
    have h := arT1 (c := c) ht.1
    have c1 : cst c = 1 := by unfold cst; rw [if_neg h.1, if_pos h.2]
    simp only [fl, nmc_cons, csS, List.length_cons, c1]
    by_cases z : isNB c = true
    · rw [if_pos z]; omega
    · rw [if_neg z]; omega
  | _ => exact absurd ht (fun z => z)
theorem cost_T {T : List Int} (hT : isT T) (hl : T.length ≤ 120) : nmc T + csS T ≤ 663 := by
  obtain ⟨t, hA⟩ := At_ex hT (isT_pos hT)
  have e1 := At_te hA
  rw [te_all hT] at e1
  obtain ⟨h1, r, e2⟩ := hA
  have e3 := congrArg List.length e2
  rw [List.length_append, List.length_drop] at e3
  have r0 : r = [] := List.eq_nil_of_length_eq_zero (by omega)
  rw [r0, List.append_nil, List.drop_zero] at e2
  have := cost_t t h1
  rw [← e2] at this
  omega
theorem csS_drop {T : List Int} {p : Nat} (h : p < T.length) : csS (T.drop p) = cst (T.getD p 0) + csS (T.drop (p + 1)) := by
  rw [List.drop_eq_getElem_cons h]
  have hg : T.getD p 0 = T[p] := by rw [List.getD_eq_getElem?_getD, List.getElem?_eq_getElem h]; rfl
  rw [hg]; rfl
theorem csS_le {T : List Int} {p : Nat} : csS (T.drop p) ≤ csS T := by
  have := csS_app (T.take p) (T.drop p)
  rw [List.take_append_drop] at this
  omega
