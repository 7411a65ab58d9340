/-! putIn, both sides -/
def nbB : List Int → Nat
  | [] => 0
  | c :: t => (if 1000 < c then 1 else 0) + nbB t
theorem nbB_le : ∀ l : List Int, nbB l ≤ l.length
  | [] => by simp [nbB]
  | c :: t => by have := nbB_le t; simp only [nbB, List.length_cons]; split <;> omega
def putL (x : Int) (u : List Int) : List Int → List Int
  | [] => []
  | c :: t => if c = x then u ++ putL x u t else c :: putL x u t
theorem putL_app (x : Int) (u : List Int) : ∀ a b, putL x u (a ++ b) = putL x u a ++ putL x u b := by
  intro a b
  induction a with
  | nil => rfl
  | cons c a ih => simp only [List.cons_append, putL]; split <;> simp [ih]
theorem putL_skp {x : Int} {u : List Int} (hx : arT x = 0) (hu : isT u) : ∀ (t : List Int) (n : Nat), skp n t = some [] → skp n (putL x u t) = some [] := by
  intro t
  induction t with
  | nil => intro n h; exact h
  | cons c t ih =>
    intro n h
    cases n with
    | zero => simp [skp] at h
    | succ n =>
      simp only [skp] at h
      simp only [putL]
      split
      · rename_i e
        subst e
        rw [hx] at h
        have := skp_add (n := n) (skp_app (t := putL c u t) hu)
        rw [Nat.add_comm n 1, this]
        exact ih n h
      · simp only [skp]
        exact ih _ h
theorem putL_ok {x : Int} {u t : List Int} (hx : arT x = 0) (hu : wfT u) (ht : wfT t) : wfT (putL x u t) := by
  refine ⟨putL_skp hx hu.1 t 1 ht.1, ?_⟩
  have : ∀ (l : List Int), (∀ c ∈ l, tok c) → ∀ c ∈ putL x u l, tok c := by
    intro l
    induction l with
    | nil => intro _ c hc; simp [putL] at hc
    | cons d l ih =>
      intro h c hc
      simp only [putL] at hc
      split at hc
      · rcases List.mem_append.mp hc with hc | hc
        · exact hu.2 c hc
        · exact ih (fun a ha => h a (List.mem_cons_of_mem _ ha)) c hc
      · rcases List.mem_cons.mp hc with hc | hc
        · rw [hc]; exact h d (List.mem_cons_self ..)
        · exact ih (fun a ha => h a (List.mem_cons_of_mem _ ha)) c hc
  exact this t ht.2
def f93 (S : SS) (x n y : Int) : Int × SS := if ¬ ((0 ≤ x ∧ x < 4) ∧ (0 ≤ y ∧ y < 4)) then (UNK, S) else if ¬ (97 ≤ n ∧ n ≤ 122) then (OUT, S) else if sv S x.toNat = [] ∨ sv S y.toNat = [] ∨ 0 < nbB (sv S x.toNat) ∨ 0 < nbB (sv S y.toNat) then (NOTc, S) else layS S x.toNat (putL n (sv S y.toNat) (sv S x.toNat))
theorem lay_big {S : SS} {s : Nat} {l m : List Int} (h : l = m ∨ (120 < l.length ∧ 120 < m.length)) : layS S s l = layS S s m := by
  rcases h with rfl | ⟨h1, h2⟩
  · rfl
  · unfold layS; rw [if_pos h1, if_pos h2]
section PI
variable {σ : aSg} {K : List AV → aSg → Prop} {x y z i : Int} {S : SS} {T : List Int} {r : Nat}
theorem c121 (h : isRow r) (hk : RK σ) (hl : (rv σ r).length ≤ 10000) : CA m121 [.inr (.inl r)] σ K = K [.inl (nbB (rv σ r) : Int)] σ := by
  refine CA_eq ?_
  rw [e121]
  simp (disch := omega) only [s121_0, s121_1, s121_2, s121_3, s121_5, s121_6, s121_9, s121_12, s121_13, s121_14, s121_17, s121_20, s121_23, s121_26, s121_29, s121_32, s121_33, List.cons_append, List.nil_append, if_true, if_false, true_and, and_true, and_self, eq_self, true_or, or_true, false_or, or_false, tIn, tLe, fLe, tLt, fLt, tEq, fEq]
  have lp : ∀ (n p c : Nat), (rv σ r).length - p = n → p ≤ (rv σ r).length → c + nbB ((rv σ r).drop p) = nbB (rv σ r) → WP m121 4 [.inr (.inl r), .inl (c : Int), .inl (p : Int)] [] σ (fun v σ' => v = [.inl (nbB (rv σ r) : Int)] ∧ σ' = σ) := by
    intro n
    induction n with
    | zero =>
      intro p c hn hp hc
      rw [List.drop_eq_nil_of_le (by omega)] at hc
      simp only [nbB] at hc
      rw [s121_4]
      simp (disch := omega) only [s121_0, s121_1, s121_2, s121_3, s121_5, s121_6, s121_9, s121_12, s121_13, s121_14, s121_17, s121_20, s121_23, s121_26, s121_29, s121_32, s121_33, List.cons_append, List.nil_append, if_true, if_false, true_and, and_true, and_self, eq_self, true_or, or_true, false_or, or_false, tIn, tLe, fLe, tLt, fLt, tEq, fEq, h.1, c28 h hk]
      simp; omega
    | succ n ih =>
      intro p c hn hp hc
      have hpl : p < (rv σ r).length := by omega
      have hb := nbB_le (rv σ r)
      rw [List.drop_eq_getElem_cons hpl] at hc
      simp only [nbB] at hc
      have e1 : lat (rv σ r) (p : Int) = (rv σ r)[p] := by
        unfold lat
        rw [if_pos (by omega), Int.toNat_natCast, List.getD_eq_getElem?_getD, List.getElem?_eq_getElem hpl]; rfl
      have ih' := fun c hc => ih (p + 1) c (by omega) (by omega) hc
      rw [s121_4]
      by_cases g : 1000 < (rv σ r)[p]
      · rw [if_pos g] at hc
        simp (disch := omega) only [s121_0, s121_1, s121_2, s121_3, s121_5, s121_6, s121_9, s121_12, s121_13, s121_14, s121_17, s121_20, s121_23, s121_26, s121_29, s121_32, s121_33, List.cons_append, List.nil_append, if_true, if_false, true_and, and_true, and_self, eq_self, true_or, or_true, false_or, or_false, tIn, tLe, fLe, tLt, fLt, tEq, fEq, h.1, c28 h hk, c30 h hk, e1, c117, g]
        exact ih' (c + 1) (by omega)
      · rw [if_neg g] at hc
        simp (disch := omega) only [s121_0, s121_1, s121_2, s121_3, s121_5, s121_6, s121_9, s121_12, s121_13, s121_14, s121_17, s121_20, s121_23, s121_26, s121_29, s121_32, s121_33, List.cons_append, List.nil_append, if_true, if_false, true_and, and_true, and_self, eq_self, true_or, or_true, false_or, or_false, tIn, tLe, fLe, tLt, fLt, tEq, fEq, h.1, c28 h hk, c30 h hk, e1, c117, g]
        exact ih' c (by omega)
  exact lp _ 0 0 rfl (by omega) (by simp)
theorem c112 {s : Nat} (hs : s < 4) (hk : RK σ) (hl : (rv σ (4 + 2 * s)).length ≤ 10000) : CA m112 [.inr (.inl 0), .inl (s : Int)] σ K = K [.inl (if 0 < nbB (rv σ (4 + 2 * s)) then 1 else 0)] σ := by
  rw [e112]
  have h1 := ptS s hs
  have hr := rowS hs
  have k3 := kd3
  have l3 := ln3
  by_cases h0 : 0 < nbB (rv σ (4 + 2 * s))
  · simp (disch := omega) only [s112_0, s112_1, s112_4, s112_7, s112_8, s112_11, s112_12, s112_13, s112_16, s112_19, s112_20, s112_23, s112_24, List.cons_append, List.nil_append, if_true, if_false, true_and, and_true, and_self, eq_self, true_or, or_true, false_or, or_false, tIn, tLe, fLe, tLt, fLt, tEq, fEq, rs_ap, aup_s, aup_n1, aup_n2, Int.toNat_natCast, c113, h1.1, h1.2, k3, l3, hr.1, c121 hr hk hl, h0]
  · simp (disch := omega) only [s112_0, s112_1, s112_4, s112_7, s112_8, s112_11, s112_12, s112_13, s112_16, s112_19, s112_20, s112_23, s112_24, List.cons_append, List.nil_append, if_true, if_false, true_and, and_true, and_self, eq_self, true_or, or_true, false_or, or_false, tIn, tLe, fLe, tLt, fLt, tEq, fEq, rs_ap, aup_s, aup_n1, aup_n2, Int.toNat_natCast, c113, h1.1, h1.2, k3, l3, hr.1, c121 hr hk hl, h0]
theorem tk_all (c : Nat) (l u : List Int) : l.take c ++ u.take (c - (l.take c).length) = (l ++ u).take c := by
  rw [List.take_append, List.length_take]
  congr 2
  omega
theorem tk_add (c : Nat) (l : List Int) (v : Int) : ladd c (l.take c) v = (l ++ [v]).take c := by
  unfold ladd
  rw [List.length_take]
  split
  · rw [List.take_of_length_le (by omega : l.length ≤ c), List.take_of_length_le (by simp; omega)]
  · rw [List.take_append, show c - l.length = 0 by omega]; simp
theorem c108 {q : Nat} {n : Int} (h : isRow r) (hq : isRow q) (hr : r ≠ 53) (hq5 : q ≠ 53) (hr1 : r < 52) (hq1 : q < 52) (hk : RK σ) (hl : (rv σ r).length ≤ 10000) : CA m108 [.inr (.inl 0), .inr (.inl r), .inl n, .inr (.inl q)] σ K = K [] (rs σ 53 ((putL n (rv σ q) (rv σ r)).take 1032)) := by
  refine CA_eq ?_
  rw [e108]
  simp (disch := omega) only [s108_0, s108_1, s108_4, s108_7, s108_8, s108_12, s108_13, s108_16, s108_19, s108_20, s108_22, s108_25, s108_26, s108_29, s108_30, s108_33, s108_34, s108_37, s108_40, s108_41, s108_44, s108_45, s108_47, s108_50, s108_53, s108_56, s108_59, List.cons_append, List.nil_append, if_true, if_false, true_and, and_true, and_self, eq_self, true_or, or_true, false_or, or_false, tIn, tLe, fLe, tLt, fLt, tEq, fEq, oR53, c29 row53 hk]
  have lp : ∀ (k p : Nat), (rv σ r).length - p = k → p ≤ (rv σ r).length → WP m108 10 [.inr (.inl 0), .inr (.inl r), .inl n, .inr (.inl q), .inl (p : Int)] [] (rs σ 53 ((putL n (rv σ q) ((rv σ r).take p)).take 1032)) (fun v σ' => v = [] ∧ σ' = rs σ 53 ((putL n (rv σ q) (rv σ r)).take 1032)) := by
    intro k
    induction k with
    | zero =>
      intro p hn hp
      have hL : (List.take 1032 (putL n (rv σ q) ((rv σ r).take p))).length ≤ 1032 := by rw [List.length_take]; omega
      generalize hLe : List.take 1032 (putL n (rv σ q) ((rv σ r).take p)) = L at hL ⊢
      have k1 : RK (rs σ 53 L) := RK_rs hk row53 (by rw [cp53]; exact hL)
      have e0 : rv (rs σ 53 L) r = rv σ r := rv_ne row53 h hr
      rw [s108_10]
      simp (disch := omega) only [s108_0, s108_1, s108_4, s108_7, s108_8, s108_12, s108_13, s108_16, s108_19, s108_20, s108_22, s108_25, s108_26, s108_29, s108_30, s108_33, s108_34, s108_37, s108_40, s108_41, s108_44, s108_45, s108_47, s108_50, s108_53, s108_56, s108_59, List.cons_append, List.nil_append, if_true, if_false, true_and, and_true, and_self, eq_self, true_or, or_true, false_or, or_false, tIn, tLe, fLe, tLt, fLt, tEq, fEq, h.1, c28 h k1, e0]
      rw [← hLe, List.take_of_length_le (by omega : (rv σ r).length ≤ p)]
    | succ k ih =>
      intro p hn hp
      have hpl : p < (rv σ r).length := by omega
      have e1 : lat (rv σ r) (p : Int) = (rv σ r)[p] := by
        unfold lat
        rw [if_pos (by omega), Int.toNat_natCast, List.getD_eq_getElem?_getD, List.getElem?_eq_getElem hpl]; rfl
      have hL : (List.take 1032 (putL n (rv σ q) ((rv σ r).take p))).length ≤ 1032 := by rw [List.length_take]; omega
      have st : putL n (rv σ q) ((rv σ r).take (p + 1)) = putL n (rv σ q) ((rv σ r).take p) ++ (if (rv σ r)[p] = n then rv σ q else [(rv σ r)[p]]) := by
        rw [List.take_succ, List.getElem?_eq_getElem hpl, putL_app]
        simp only [Option.toList_some, putL]
        split <;> simp
      have ih' := ih (p + 1) (by omega) (by omega)
      rw [st] at ih'
      have ta := tk_all 1032 (putL n (rv σ q) ((rv σ r).take p)) (rv σ q)
      have tb := tk_add 1032 (putL n (rv σ q) ((rv σ r).take p)) (rv σ r)[p]
      generalize List.take 1032 (putL n (rv σ q) ((rv σ r).take p)) = L at hL ta tb ⊢
      have k1 : RK (rs σ 53 L) := RK_rs hk row53 (by rw [cp53]; exact hL)
      have e0 : rv (rs σ 53 L) r = rv σ r := rv_ne row53 h hr
      have e2 : rv (rs σ 53 L) q = rv σ q := rv_ne row53 hq hq5
      rw [s108_10]
      by_cases g : (rv σ r)[p] = n
      · rw [if_pos g] at ih'
        rw [g] at e1
        simp (disch := omega) only [s108_0, s108_1, s108_4, s108_7, s108_8, s108_12, s108_13, s108_16, s108_19, s108_20, s108_22, s108_25, s108_26, s108_29, s108_30, s108_33, s108_34, s108_37, s108_40, s108_41, s108_44, s108_45, s108_47, s108_50, s108_53, s108_56, s108_59, List.cons_append, List.nil_append, if_true, if_false, true_and, and_true, and_self, eq_self, true_or, or_true, false_or, or_false, tIn, tLe, fLe, tLt, fLt, tEq, fEq, h.1, c28 h k1, c30 h k1, e0, e1, oR53, hq.1, c38 row53 hq hq5 k1, e2, rv_rs, cp53, ta]
        rw [rs_grow (by rw [← ta]; simp)]
        exact ih'
      · rw [if_neg g] at ih'
        simp (disch := omega) only [s108_0, s108_1, s108_4, s108_7, s108_8, s108_12, s108_13, s108_16, s108_19, s108_20, s108_22, s108_25, s108_26, s108_29, s108_30, s108_33, s108_34, s108_37, s108_40, s108_41, s108_44, s108_45, s108_47, s108_50, s108_53, s108_56, s108_59, List.cons_append, List.nil_append, if_true, if_false, true_and, and_true, and_self, eq_self, true_or, or_true, false_or, or_false, tIn, tLe, fLe, tLt, fLt, tEq, fEq, h.1, c28 h k1, c30 h k1, e0, e1, oR53, c34 row53 k1, rv_rs, cp53, tb]
        rw [rs_grow (by rw [← tb]; unfold ladd; split <;> simp)]
        exact ih'
  have := lp _ 0 rfl (by omega)
  simpa [putL] using this
end PI
