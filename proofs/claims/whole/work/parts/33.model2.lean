/-! the reference: made, keepPast, lay -/
def mdM (σ : aSg) (l : List Int) : Prop := σ 130 9 = (l.length : Int) ∧ ∀ (k : Nat) (c : Int), l[k]? = some c → σ 135 k = tau c
section MB
variable {σ : aSg} {K : List AV → aSg → Prop} {x y z i : Int} {S : SS}
theorem aup_same {a j : Nat} {v : Int} (h : σ a j = v) : aup σ a j v = σ := by
  funext b i
  unfold aup
  split
  · rename_i e; rw [e.1, e.2, h]
  · rfl
theorem c134 {n : Nat} (hn : σ 130 9 = n) (h : n < 2200) : CA m134 [.inr (.inl 130), .inl x] σ K = K [] (aup (aup σ 135 n x) 130 9 ((n + 1 : Nat) : Int)) := by
  rw [e134]
  have l0 := ln135
  simp (disch := omega) only [s134_0, s134_1, s134_4, s134_5, s134_8, s134_9, s134_10, s134_11, s134_12, s134_15, s134_16, s134_17, s134_20, List.cons_append, List.nil_append, if_true, if_false, true_and, and_true, and_self, eq_self, true_or, or_true, false_or, or_false, tIn, tLe, fLe, tLt, fLt, tEq, fEq, rs_ap, aup_s, aup_n1, aup_n2, Int.toNat_natCast, kd135, ln135, hn]
  rfl
theorem c139 {l : List Int} (h : mdM σ l) (hl : l.length ≤ 2200) (Q : List AV → aSg → Prop) (hq : ∀ σ', tmM σ' l → (∀ a, a ≠ 134 → a ≠ 130 → σ' a = σ a) → (∀ j, j ≠ 7 → σ' 130 j = σ 130 j) → Q [] σ') : CA m139 [.inr (.inl 130)] σ Q := by
  rw [e139]
  obtain ⟨h1, h2⟩ := h
  have l0 := ln135
  have l1 := ln134
  simp (disch := omega) only [s139_0, s139_1, s139_2, s139_5, s139_8, s139_9, s139_11, s139_12, s139_15, s139_18, s139_19, s139_22, s139_23, s139_24, s139_27, s139_28, s139_29, s139_30, s139_33, s139_36, List.cons_append, List.nil_append, if_true, if_false, true_and, and_true, and_self, eq_self, true_or, or_true, false_or, or_false, tIn, tLe, fLe, tLt, fLt, tEq, fEq, rs_ap, aup_s, aup_n1, aup_n2, Int.toNat_natCast, isL, h1]
  have lp : ∀ (n k : Nat) (σ1 : aSg), l.length - k = n → k ≤ l.length → σ1 130 7 = (l.length : Int) → (∀ j c, j < k → l[j]? = some c → σ1 134 j = tau c) → (∀ a, a ≠ 134 → a ≠ 130 → σ1 a = σ a) → (∀ j, j ≠ 7 → σ1 130 j = σ 130 j) → WP m139 10 [.inr (.inl 130), .inl (k : Int)] [] σ1 Q := by
    intro n
    induction n with
    | zero =>
      intro k σ1 hn hk g1 g2 g3 g4
      have g9 : σ1 130 9 = (l.length : Int) := by rw [g4 9 (by omega)]; exact h1
      rw [s139_10]
      simp (disch := omega) only [s139_0, s139_1, s139_2, s139_5, s139_8, s139_9, s139_11, s139_12, s139_15, s139_18, s139_19, s139_22, s139_23, s139_24, s139_27, s139_28, s139_29, s139_30, s139_33, s139_36, List.cons_append, List.nil_append, if_true, if_false, true_and, and_true, and_self, eq_self, true_or, or_true, false_or, or_false, tIn, tLe, fLe, tLt, fLt, tEq, fEq, rs_ap, aup_s, aup_n1, aup_n2, Int.toNat_natCast, g9]
      exact hq σ1 ⟨g1, fun j c hc => g2 j c (by have := (List.getElem?_eq_some_iff.mp hc).1; omega) hc⟩ g3 g4
    | succ n ih =>
      intro k σ1 hn hk g1 g2 g3 g4
      have g9 : σ1 130 9 = (l.length : Int) := by rw [g4 9 (by omega)]; exact h1
      have hkl : k < l.length := by omega
      have e2 : σ1 135 k = tau l[k] := by rw [g3 135 (by omega) (by omega)]; exact h2 k _ (List.getElem?_eq_getElem hkl)
      rw [s139_10]
      simp (disch := omega) only [s139_0, s139_1, s139_2, s139_5, s139_8, s139_9, s139_11, s139_12, s139_15, s139_18, s139_19, s139_22, s139_23, s139_24, s139_27, s139_28, s139_29, s139_30, s139_33, s139_36, List.cons_append, List.nil_append, if_true, if_false, true_and, and_true, and_self, eq_self, true_or, or_true, false_or, or_false, tIn, tLe, fLe, tLt, fLt, tEq, fEq, g9, kd135, ln135, kd134, ln134, e2, Int.toNat_natCast]
      refine ih (k + 1) _ (by omega) (by omega) (by rw [aup_n1 (by omega)]; exact g1) (fun j c hj hc => ?_) (fun a ha hb => by rw [aup_f ha]; exact g3 a ha hb) (fun j hj => by rw [aup_n1 (by omega)]; exact g4 j hj)
      by_cases e : j = k
      · subst e
        rw [aup_s]
        rw [List.getElem?_eq_getElem hkl] at hc
        cases hc
        rfl
      · rw [aup_n2 e]
        exact g2 j c (by omega) hc
  exact lp l.length 0 _ rfl (by omega) aup_s (fun j c hj => by omega) (fun a _ hb => aup_f hb) (fun j hj => aup_n2 hj)
theorem c137a {u : Nat} (hu : σ 130 1 = u) (h : u < 10) : CA m137 [.inr (.inl 130)] σ K = K [] (aup (aupA σ 131 (va_cpy (σ 131) (σ 131) 0 (484 + 484 * u) 484)) 130 1 ((u + 1 : Nat) : Int)) := by
  refine CA_eq ?_
  rw [e137]
  simp (disch := omega) only [s137_0, s137_1, s137_3, s137_6, s137_9, s137_10, s137_13, s137_15, s137_18, s137_19, s137_22, s137_25, s137_26, s137_27, s137_28, s137_31, s137_34, s137_35, s137_36, s137_37, s137_38, s137_41, s137_44, s137_45, s137_46, s137_49, s137_50, s137_53, s137_55, s137_58, s137_59, s137_62, s137_63, s137_64, s137_67, s137_68, s137_69, s137_72, s137_75, s137_76, s137_79, s137_80, s137_81, s137_84, s137_85, s137_86, s137_89, s137_90, s137_91, s137_94, List.cons_append, List.nil_append, if_true, if_false, true_and, and_true, and_self, eq_self, true_or, or_true, false_or, or_false, tIn, tLe, fLe, tLt, fLt, tEq, fEq, rs_ap, aup_s, aup_n1, aup_n2, Int.toNat_natCast, isL]
  rw [s137_2]
  have c1 := c135 (σ := σ) (K := fun v σ2 => WP m137 84 [.inr (.inl 130), .inl 0] (v ++ []) σ2 (fun v σ' => v = [] ∧ σ' = aup (aupA σ 131 (va_cpy (σ 131) (σ 131) 0 (484 + 484 * u) 484)) 130 1 ((u + 1 : Nat) : Int))) (f := 0) (t := 484 + 484 * u) (by omega) (by omega) (by omega)
  simp (disch := omega) only [s137_0, s137_1, s137_3, s137_6, s137_9, s137_10, s137_13, s137_15, s137_18, s137_19, s137_22, s137_25, s137_26, s137_27, s137_28, s137_31, s137_34, s137_35, s137_36, s137_37, s137_38, s137_41, s137_44, s137_45, s137_46, s137_49, s137_50, s137_53, s137_55, s137_58, s137_59, s137_62, s137_63, s137_64, s137_67, s137_68, s137_69, s137_72, s137_75, s137_76, s137_79, s137_80, s137_81, s137_84, s137_85, s137_86, s137_89, s137_90, s137_91, s137_94, List.cons_append, List.nil_append, if_true, if_false, true_and, and_true, and_self, eq_self, true_or, or_true, false_or, or_false, tIn, tLe, fLe, tLt, fLt, tEq, fEq, rs_ap, aup_s, aup_n1, aup_n2, Int.toNat_natCast, hu, Int.sub_zero, aup_same hu]
  rw [show (484 : Int) + 484 * (u : Int) = ((484 + 484 * u : Nat) : Int) by omega]
  refine Eq.mpr c1 ?_
  simp (disch := omega) only [s137_0, s137_1, s137_3, s137_6, s137_9, s137_10, s137_13, s137_15, s137_18, s137_19, s137_22, s137_25, s137_26, s137_27, s137_28, s137_31, s137_34, s137_35, s137_36, s137_37, s137_38, s137_41, s137_44, s137_45, s137_46, s137_49, s137_50, s137_53, s137_55, s137_58, s137_59, s137_62, s137_63, s137_64, s137_67, s137_68, s137_69, s137_72, s137_75, s137_76, s137_79, s137_80, s137_81, s137_84, s137_85, s137_86, s137_89, s137_90, s137_91, s137_94, List.cons_append, List.nil_append, if_true, if_false, true_and, and_true, and_self, eq_self, true_or, or_true, false_or, or_false, tIn, tLe, fLe, tLt, fLt, tEq, fEq, upA_n, hu]
  rfl
theorem c137b (hu : σ 130 1 = 10) : CA m137 [.inr (.inl 130)] σ K = K [] (aup (aupA (aup (aupA σ 131 (va_cpy (σ 131) (σ 131) 968 484 4356)) 130 1 9) 131 (va_cpy (va_cpy (σ 131) (σ 131) 968 484 4356) (va_cpy (σ 131) (σ 131) 968 484 4356) 0 4840 484)) 130 1 10) := by
  refine CA_eq ?_
  rw [e137]
  have l0 := ln131
  simp (disch := omega) only [s137_0, s137_1, s137_3, s137_6, s137_9, s137_10, s137_13, s137_15, s137_18, s137_19, s137_22, s137_25, s137_26, s137_27, s137_28, s137_31, s137_34, s137_35, s137_36, s137_37, s137_38, s137_41, s137_44, s137_45, s137_46, s137_49, s137_50, s137_53, s137_55, s137_58, s137_59, s137_62, s137_63, s137_64, s137_67, s137_68, s137_69, s137_72, s137_75, s137_76, s137_79, s137_80, s137_81, s137_84, s137_85, s137_86, s137_89, s137_90, s137_91, s137_94, List.cons_append, List.nil_append, if_true, if_false, true_and, and_true, and_self, eq_self, true_or, or_true, false_or, or_false, tIn, tLe, fLe, tLt, fLt, tEq, fEq, rs_ap, aup_s, aup_n1, aup_n2, Int.toNat_natCast, isL]
  have lp : ∀ (n k : Nat), 4356 - k = n → k ≤ 4356 → WP m137 2 [.inr (.inl 130), .inl (k : Int)] [] (aupA σ 131 (va_cpy (σ 131) (σ 131) 968 484 k)) (fun v σ' => v = [] ∧ σ' = aup (aupA (aup (aupA σ 131 (va_cpy (σ 131) (σ 131) 968 484 4356)) 130 1 9) 131 (va_cpy (va_cpy (σ 131) (σ 131) 968 484 4356) (va_cpy (σ 131) (σ 131) 968 484 4356) 0 4840 484)) 130 1 10) := by
    intro n
    induction n with
    | zero =>
      intro k hn hk
      have e : k = 4356 := by omega
      subst e
      have c1 := c135 (σ := aup (aupA σ 131 (va_cpy (σ 131) (σ 131) 968 484 4356)) 130 1 9) (K := fun v σ2 => WP m137 84 [.inr (.inl 130), .inl ((4356 : Nat) : Int)] (v ++ []) σ2 (fun v σ' => v = [] ∧ σ' = aup (aupA (aup (aupA σ 131 (va_cpy (σ 131) (σ 131) 968 484 4356)) 130 1 9) 131 (va_cpy (va_cpy (σ 131) (σ 131) 968 484 4356) (va_cpy (σ 131) (σ 131) 968 484 4356) 0 4840 484)) 130 1 10)) (f := 0) (t := 4840) (by omega) (by omega) (by omega)
      have e131 : (aup (aupA σ 131 (va_cpy (σ 131) (σ 131) 968 484 4356)) 130 1 9) 131 = va_cpy (σ 131) (σ 131) 968 484 4356 := by rw [aup_f (by omega)]; funext j; exact upA_s
      rw [e131] at c1
      rw [s137_2]
      simp (disch := omega) only [s137_0, s137_1, s137_3, s137_6, s137_9, s137_10, s137_13, s137_15, s137_18, s137_19, s137_22, s137_25, s137_26, s137_27, s137_28, s137_31, s137_34, s137_35, s137_36, s137_37, s137_38, s137_41, s137_44, s137_45, s137_46, s137_49, s137_50, s137_53, s137_55, s137_58, s137_59, s137_62, s137_63, s137_64, s137_67, s137_68, s137_69, s137_72, s137_75, s137_76, s137_79, s137_80, s137_81, s137_84, s137_85, s137_86, s137_89, s137_90, s137_91, s137_94, List.cons_append, List.nil_append, if_true, if_false, true_and, and_true, and_self, eq_self, true_or, or_true, false_or, or_false, tIn, tLe, fLe, tLt, fLt, tEq, fEq, rs_ap, aup_s, aup_n1, aup_n2, Int.toNat_natCast, upA_n, hu]
      refine Eq.mpr c1 ?_
      simp (disch := omega) only [s137_0, s137_1, s137_3, s137_6, s137_9, s137_10, s137_13, s137_15, s137_18, s137_19, s137_22, s137_25, s137_26, s137_27, s137_28, s137_31, s137_34, s137_35, s137_36, s137_37, s137_38, s137_41, s137_44, s137_45, s137_46, s137_49, s137_50, s137_53, s137_55, s137_58, s137_59, s137_62, s137_63, s137_64, s137_67, s137_68, s137_69, s137_72, s137_75, s137_76, s137_79, s137_80, s137_81, s137_84, s137_85, s137_86, s137_89, s137_90, s137_91, s137_94, List.cons_append, List.nil_append, if_true, if_false, true_and, and_true, and_self, eq_self, true_or, or_true, false_or, or_false, tIn, tLe, fLe, tLt, fLt, tEq, fEq, rs_ap, aup_s, aup_n1, aup_n2, Int.toNat_natCast, upA_n, hu]
      rfl
    | succ n ih =>
      intro k hn hk
      have e1 : ((484 : Int) + (k : Int)).toNat = 484 + k := by omega
      have e2 : ((968 : Int) + (k : Int)).toNat = 968 + k := by omega
      rw [s137_2]
      simp (disch := omega) only [s137_0, s137_1, s137_3, s137_6, s137_9, s137_10, s137_13, s137_15, s137_18, s137_19, s137_22, s137_25, s137_26, s137_27, s137_28, s137_31, s137_34, s137_35, s137_36, s137_37, s137_38, s137_41, s137_44, s137_45, s137_46, s137_49, s137_50, s137_53, s137_55, s137_58, s137_59, s137_62, s137_63, s137_64, s137_67, s137_68, s137_69, s137_72, s137_75, s137_76, s137_79, s137_80, s137_81, s137_84, s137_85, s137_86, s137_89, s137_90, s137_91, s137_94, List.cons_append, List.nil_append, if_true, if_false, true_and, and_true, and_self, eq_self, true_or, or_true, false_or, or_false, tIn, tLe, fLe, tLt, fLt, tEq, fEq, kd131, ln131, e1, e2, upA_s, upA_n, hu, aup_upA]
      have e3 : (fun i => if i = 484 + k then va_cpy (σ 131) (σ 131) 968 484 k (968 + k) else va_cpy (σ 131) (σ 131) 968 484 k i) = va_cpy (σ 131) (σ 131) 968 484 (k + 1) := by
        funext i
        unfold va_cpy
        by_cases h1 : i = 484 + k
        · rw [if_pos h1, if_neg (by omega), if_pos (by omega)]
          exact congrArg (σ 131) (by omega)
        · rw [if_neg h1]
          by_cases h2 : 484 ≤ i ∧ i < 484 + k
          · rw [if_pos h2, if_pos (by omega)]
          · rw [if_neg h2, if_neg (by omega)]
      rw [e3]
      exact ih (k + 1) (by omega) (by omega)
  have e0 : aupA σ 131 (va_cpy (σ 131) (σ 131) 968 484 0) = σ := by
    have : va_cpy (σ 131) (σ 131) 968 484 0 = σ 131 := by funext i; unfold va_cpy; rw [if_neg (by omega)]
    rw [this, upA_id]
  have := lp 4356 0 rfl (by omega)
  rw [e0] at this
  exact this
theorem snp_len (f : Nat → List Int) (ps : List (Nat × List Int)) : (snp f ps).length = ps.length := by
  induction ps generalizing f with
  | nil => rfl
  | cons q ps ih => simp [snp, ih]
theorem snp_take (f : Nat → List Int) (ps : List (Nat × List Int)) (n : Nat) : snp f (ps.take n) = (snp f ps).take n := by
  induction ps generalizing f n with
  | nil => simp [snp]
  | cons q ps ih =>
    cases n with
    | zero => simp [snp]
    | succ n => simp [snp, ih]
theorem snp_set (S : SS) (s : Nat) (l : List Int) : snp (sv (setS S s l)) (pa (setS S s l)) = (sv S :: snp (sv S) (pa S)).take 10 := by
  show snp (fun j => if j = s then l else sv S j) (((s, sv S s) :: pa S).take 10) = _
  rw [snp_take]
  congr 1
  have e : (fun j => if j = s then sv S s else if j = s then l else sv S j) = sv S := by
    funext j
    split
    · rename_i h; rw [h]
    · rfl
  simp only [snp]
  rw [e]
/-- behind keepPast: the shelves, what was, the images -/
theorem past_ok (hR : RepM σ S) (Q : List AV → aSg → Prop) (hq : ∀ σ', blM σ' 0 (sv S) → σ' 130 1 = (((((0, []) :: pa S).take 10).length : Nat) : Int) → (∀ (j : Nat) (g : Nat → List Int), (sv S :: snp (sv S) (pa S))[j]? = some g → j < 10 → blM σ' (484 + 484 * ((((0, []) :: pa S).take 10).length - 1 - j)) g) → (∀ k, 5324 ≤ k → σ' 131 k = σ 131 k) → (∀ a, a ≠ 131 → a ≠ 130 → σ' a = σ a) → (∀ j, j ≠ 1 → σ' 130 j = σ 130 j) → Q [] σ') : CA m137 [.inr (.inl 130)] σ Q := by
  obtain ⟨hS, h0, hu, hp, -⟩ := hR
  have h10 : (pa S).length ≤ 10 := hS.2.2.2.1
  have hl120 : ∀ s, s < 4 → (sv S s).length ≤ 120 := fun s hs => sh_len (hS.2.2.1 s hs)
  -- a block of the new row out of a block of the old one
  have blk : ∀ (σ' : aSg) (b b' : Nat) (f : Nat → List Int), (∀ k, k < 484 → σ' 131 (b' + k) = σ 131 (b + k)) → (∀ s, s < 4 → (f s).length ≤ 120) → blM σ b f → blM σ' b' f := by
    intro σ' b b' f he hf hb s hs
    obtain ⟨g1, g2⟩ := hb s hs
    refine ⟨?_, fun k c hc => ?_⟩
    · rw [he (121 * s) (by omega)]; exact g1
    · have hk := (List.getElem?_eq_some_iff.mp hc).1
      have := hf s hs
      rw [show b' + 121 * s + 1 + k = b' + (121 * s + 1 + k) by omega, he _ (by omega), show b + (121 * s + 1 + k) = b + 121 * s + 1 + k by omega]
      exact g2 k c hc
  have snpok : ∀ (j : Nat) (g : Nat → List Int), (snp (sv S) (pa S))[j]? = some g → ∀ s, s < 4 → (g s).length ≤ 120 := by
    have : ∀ (ps : List (Nat × List Int)) (f : Nat → List Int), (∀ s, s < 4 → (f s).length ≤ 120) → (∀ q ∈ ps, q.2.length ≤ 120) → ∀ (j : Nat) (g : Nat → List Int), (snp f ps)[j]? = some g → ∀ s, s < 4 → (g s).length ≤ 120 := by
      intro ps
      induction ps with
      | nil => intro f _ _ j g hg; simp [snp] at hg
      | cons q ps ih =>
        intro f hf hps j g hg s hs
        have hf' : ∀ s, s < 4 → ((fun j => if j = q.1 then q.2 else f j) s).length ≤ 120 := by
          intro t ht
          show (if t = q.1 then q.2 else f t).length ≤ 120
          split
          · exact hps q List.mem_cons_self
          · exact hf t ht
        cases j with
        | zero => simp [snp] at hg; subst hg; exact hf' s hs
        | succ j => simp [snp] at hg; exact ih _ hf' (fun q' hq' => hps q' (List.mem_cons_of_mem _ hq')) j g hg s hs
    exact this _ _ hl120 (fun q hq => sh_len (hS.2.2.2.2.1 q hq).2)
  by_cases hlt : (pa S).length < 10
  · have e1 : (((0, ([] : List Int)) :: pa S).take 10).length = (pa S).length + 1 := by simp; omega
    rw [e1] at hq
    refine Eq.mpr (c137a hu hlt) ?_
    refine hq _ ?_ ?_ ?_ ?_ ?_ ?_
    · refine blk _ 0 0 _ (fun k hk => ?_) hl120 h0
      rw [aup_n1 (by omega), upA_s, va_cpy, if_neg (by omega)]
    · exact aup_s
    · intro j g hg hj
      cases j with
      | zero =>
        cases hg
        refine blk _ 0 _ _ (fun k hk => ?_) hl120 h0
        rw [aup_n1 (by omega), upA_s, va_cpy, if_pos (by omega)]
        exact congrArg (σ 131) (by omega)
      | succ j =>
        have hg' : (snp (sv S) (pa S))[j]? = some g := by simpa using hg
        have hjl := (List.getElem?_eq_some_iff.mp hg').1
        rw [snp_len] at hjl
        refine blk _ (484 + 484 * ((pa S).length - 1 - j)) _ _ (fun k hk => ?_) (snpok j g hg') (hp j g hg')
        rw [aup_n1 (by omega), upA_s, va_cpy, if_neg (by omega)]
        exact congrArg (σ 131) (by omega)
    · intro k hk
      rw [aup_n1 (by omega), upA_s, va_cpy, if_neg (by omega)]
    · intro a h1 h2
      rw [aup_f h2]
      funext j
      exact upA_n h1
    · intro j hj
      rw [aup_n2 hj, upA_n (by omega)]
  · have e10 : (pa S).length = 10 := by omega
    have e1 : (((0, ([] : List Int)) :: pa S).take 10).length = 10 := by simp; omega
    rw [e1] at hq
    rw [e10] at hu
    refine Eq.mpr (c137b hu) ?_
    refine hq _ ?_ ?_ ?_ ?_ ?_ ?_
    · refine blk _ 0 0 _ (fun k hk => ?_) hl120 h0
      rw [aup_n1 (by omega), upA_s, va_cpy, if_neg (by omega), va_cpy, if_neg (by omega)]
    · exact aup_s
    · intro j g hg hj
      cases j with
      | zero =>
        cases hg
        refine blk _ 0 _ _ (fun k hk => ?_) hl120 h0
        rw [aup_n1 (by omega), upA_s, va_cpy, if_pos (by omega), va_cpy, if_neg (by omega)]
        exact congrArg (σ 131) (by omega)
      | succ j =>
        have hg' : (snp (sv S) (pa S))[j]? = some g := by simpa using hg
        refine blk _ (484 + 484 * ((pa S).length - 1 - j)) _ _ (fun k hk => ?_) (snpok j g hg') (hp j g hg')
        rw [aup_n1 (by omega), upA_s, va_cpy, if_neg (by omega), va_cpy, if_pos (by omega)]
        exact congrArg (σ 131) (by omega)
    · intro k hk
      rw [aup_n1 (by omega), upA_s, va_cpy, if_neg (by omega), va_cpy, if_neg (by omega)]
    · intro a h1 h2
      rw [aup_f h2]
      funext j
      rw [upA_n h1, aup_n1 h2, upA_n h1]
    · intro j hj
      rw [aup_n2 hj, upA_n (by omega), aup_n2 hj, upA_n (by omega)]
end MB
