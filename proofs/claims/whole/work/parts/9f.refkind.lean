/-! kinds: the reference's search, a place -/
abbrev FrJ (σ σ' : aSg) : Prop := (∀ a, a < 134 ∨ a = 153 → a ≠ 130 → σ' a = σ a) ∧ σ' 130 1 = σ 130 1 ∧ σ' 130 4 = σ 130 4 ∧ σ' 130 5 = σ 130 5
def FdD (n : Nat) (T CK : List Int) (p : Nat) : Prop := CK.length = T.length ∧ ∀ q : Nat, p ≤ q → q < T.length → ∃ a : Nat, a < n ∧ lat CK (q : Int) = (a : Int)
def NLm (σ : aSg) (T : List Int) (n0 : Nat) (lb : Nat → Lb) : Prop := (∀ j, j < 26 → ∃ i : Nat, i < n0 ∧ σ 148 j = (i : Int) ∧ lb i = .inr (97 + (j : Int))) ∧ ∀ b, b < T.length → 1000 < T.getD b 0 → ∃ i : Nat, i < n0 ∧ σ 149 b = (i : Int) ∧ lb i = .inl b
def KLm (σ0 σ : aSg) (T : List Int) (n : Nat) (fr to : Nat → Int) (o : Nat → Nat) (n0 : Nat) (lb : Nat → Lb) (st : List Int) : Prop := tmM σ T ∧ KRm σ σ n fr to o ∧ NLm σ T n0 lb ∧ stM σ st ∧ FrJ σ0 σ
def psF : Nat → List Tm → List Nat
  | _, [] => []
  | p, t :: ts => p :: psF (p + (fl t).length) ts
section RKD
variable {σ σ0 σ' : aSg} {K : List AV → aSg → Prop} {n n' n0 : Nat} {fr to fr' to' : Nat → Int} {o o' : Nat → Nat} {lb : Nat → Lb} {T CK st st' : List Int} {p q a b κ : Nat} {c : Int}
theorem FdD_st (h : FdD n T CK (p + 1)) (hp : p < T.length) (hn : n ≤ n') (hκ : κ < n') : FdD n' T (lset CK (p : Int) (κ : Int)) p := by
  obtain ⟨h1, h3⟩ := h
  refine ⟨by rw [lset_len]; exact h1, fun q hq hl => ?_⟩
  rw [lset_at (by omega)]
  by_cases g : q = p
  · rw [if_pos g]; exact ⟨κ, hκ, rfl⟩
  · rw [if_neg g]
    obtain ⟨a, a1, a2⟩ := h3 q (by omega) hl
    exact ⟨a, by omega, a2⟩
theorem FdD_b (h : FdD n T CK (p + 1)) : ∀ q : Nat, p < q → q < T.length → (lat CK (q : Int)).toNat < n := fun q h1 h2 => by
  obtain ⟨a, a1, a2⟩ := h.2 q (by omega) h2
  rw [a2]; omega
theorem fs_put (hC : FdD n T CK (p + 1)) (hF : FdI n fr to o n0 lb T CK (p + 1)) (hn0 : n0 ≤ n) (gp : p < T.length) (hc : T.getD p 0 = 1) (l1 : p + 1 < T.length) (l2 : te T (p + 1) < T.length) (a2 : lat CK ((p + 1 : Nat) : Int) = (a : Int)) (b2 : lat CK ((te T (p + 1) : Nat) : Int) = (b : Int)) (E1 : ∀ v, Sl n' fr' to' o' v → Sl n fr to o v ∧ v a = .op (v b) (v κ)) (E2 : ∀ v τ, Sl n fr to o v → v a = .op (v b) τ → ∃ v', Sl n' fr' to' o' v' ∧ (∀ i, i < n → v' i = v i) ∧ v' κ = τ) : FdI n' fr' to' o' n0 lb T (lset CK (p : Int) (κ : Int)) p := by
  have hCl := hC.1
  have tg := te_ge0 (T := T) (q := p + 1)
  have sO : ∀ (κ : Int) (q : Nat), p < q → lat (lset CK (p : Int) κ) (q : Int) = lat CK (q : Int) := fun κ q h1 => by rw [lset_at (by omega), if_neg (by omega)]
  have sP : ∀ (κ : Nat), (lat (lset CK (p : Int) (κ : Int)) (p : Int)).toNat = κ := fun κ => by rw [lset_at (by omega), if_pos rfl]; omega
  refine FdI_st hF hn0 gp (sO _) (FdD_b hC) (fun v β γ s _ => ⟨(E1 v s).1, ?_⟩) (fun v β γ τ s _ e l => ?_)
  · unfold lcl
    rw [hc, if_pos rfl]
    simp only [sP, sO _ (p + 1) (by omega), sO _ (te T (p + 1)) (by omega), a2, b2, Int.toNat_natCast]
    exact (E1 v s).2
  · unfold lcl at l
    rw [hc, if_pos rfl, ← e (p + 1) (by omega) l1, ← e (te T (p + 1)) (by omega) l2, a2, b2] at l
    obtain ⟨v', w1, w2, w3⟩ := E2 v (τ p) s l
    exact ⟨v', w1, w2, by rw [sP]; exact w3⟩
theorem fs_bnd (hG : GOK n fr to o) (hC : FdD n T CK (p + 1)) (hF : FdI n fr to o n0 lb T CK (p + 1)) (hn0 : n0 ≤ n) (gp : p < T.length) (g2 : 1000 < T.getD p 0) (l1 : p + 1 < T.length) (a1 : a < n0) (a3 : lb a = .inl p) (b1 : b < n) (b2 : lat CK ((p + 1 : Nat) : Int) = (b : Int)) (E1 : ∀ v, Sl n' fr' to' o' v ↔ Sl n fr to o v ∧ v n = .op (v a) (v b)) : FdI n' fr' to' o' n0 lb T (lset CK (p : Int) (n : Int)) p := by
  have hCl := hC.1
  have sO : ∀ (κ : Int) (q : Nat), p < q → lat (lset CK (p : Int) κ) (q : Int) = lat CK (q : Int) := fun κ q h1 => by rw [lset_at (by omega), if_neg (by omega)]
  have sP : ∀ (κ : Nat), (lat (lset CK (p : Int) (κ : Int)) (p : Int)).toNat = κ := fun κ => by rw [lset_at (by omega), if_pos rfl]; omega
  have g1 : ¬ T.getD p 0 = 1 := by omega
  refine FdI_st hF hn0 gp (sO _) (FdD_b hC) (fun v β γ s hv => ⟨((E1 v).mp s).1, ?_⟩) (fun v β γ τ s hv e l => ?_)
  · unfold lcl
    rw [if_neg g1, if_pos g2]
    simp only [sP, sO _ (p + 1) (by omega), b2, Int.toNat_natCast]
    rw [((E1 v).mp s).2, hv a a1, a3]; rfl
  · unfold lcl at l
    rw [if_neg g1, if_pos g2, ← e (p + 1) (by omega) l1, b2] at l
    have va : v a = β p := by rw [hv a a1, a3]; rfl
    have c1 : Sl n fr to o (exV v n (τ p)) := Sl_agr hG s (fun i hi => if_neg (by omega))
    have w : ∀ i, i < n → exV v n (τ p) i = v i := fun i hi => if_neg (by omega)
    have wn : exV v n (τ p) n = τ p := if_pos rfl
    refine ⟨_, (E1 _).mpr ⟨c1, ?_⟩, w, by rw [sP]; exact wn⟩
    rw [wn, w a (by omega), w b b1, va]; exact l
theorem fs_nam (hC : FdD n T CK (p + 1)) (hF : FdI n fr to o n0 lb T CK (p + 1)) (hn0 : n0 ≤ n) (gp : p < T.length) (g3 : 97 ≤ T.getD p 0 ∧ T.getD p 0 ≤ 122) (a1 : a < n0) (a3 : lb a = lbN T p) : FdI n fr to o n0 lb T (lset CK (p : Int) (a : Int)) p := by
  have hCl := hC.1
  have sO : ∀ (κ : Int) (q : Nat), p < q → lat (lset CK (p : Int) κ) (q : Int) = lat CK (q : Int) := fun κ q h1 => by rw [lset_at (by omega), if_neg (by omega)]
  have sP : ∀ (κ : Nat), (lat (lset CK (p : Int) (κ : Int)) (p : Int)).toNat = κ := fun κ => by rw [lset_at (by omega), if_pos rfl]; omega
  have g1 : ¬ T.getD p 0 = 1 := by omega
  have g2 : ¬ 1000 < T.getD p 0 := by omega
  have nm : ∀ β γ, nmK β γ T p (T.getD p 0) = vl β γ (lb a) := fun β γ => by
    rw [a3]; unfold nmK lbN
    cases rsB T p p <;> rfl
  refine FdI_st hF hn0 gp (sO _) (FdD_b hC) (fun v β γ s hv => ⟨s, ?_⟩) (fun v β γ τ s hv e l => ⟨v, s, fun _ _ => rfl, ?_⟩)
  · unfold lcl
    rw [if_neg g1, if_neg g2, if_pos g3, nm]
    simp only [sP]
    exact hv a a1
  · unfold lcl at l
    rw [if_neg g1, if_neg g2, if_pos g3, nm] at l
    rw [l, sP]
    exact hv a a1
theorem fs_sgn (hC : FdD n T CK (p + 1)) (hF : FdI n fr to o n0 lb T CK (p + 1)) (hn0 : n0 ≤ n) (gp : p < T.length) (g1 : ¬ T.getD p 0 = 1) (g2 : ¬ 1000 < T.getD p 0) (g3 : ¬ (97 ≤ T.getD p 0 ∧ T.getD p 0 ≤ 122)) (E1 : ∀ v, Sl n' fr' to' o' v → Sl n fr to o v ∧ sgK (T.getD p 0) (v κ)) (E2 : ∀ v τ, Sl n fr to o v → sgK (T.getD p 0) τ → ∃ v', Sl n' fr' to' o' v' ∧ (∀ i, i < n → v' i = v i) ∧ v' κ = τ) : FdI n' fr' to' o' n0 lb T (lset CK (p : Int) (κ : Int)) p := by
  have hCl := hC.1
  have sO : ∀ (κ : Int) (q : Nat), p < q → lat (lset CK (p : Int) κ) (q : Int) = lat CK (q : Int) := fun κ q h1 => by rw [lset_at (by omega), if_neg (by omega)]
  have sP : ∀ (κ : Nat), (lat (lset CK (p : Int) (κ : Int)) (p : Int)).toNat = κ := fun κ => by rw [lset_at (by omega), if_pos rfl]; omega
  refine FdI_st hF hn0 gp (sO _) (FdD_b hC) (fun v β γ s hv => ⟨(E1 v s).1, ?_⟩) (fun v β γ τ s hv e l => ?_)
  · unfold lcl
    rw [if_neg g1, if_neg g2, if_neg g3]
    simp only [sP]
    exact (E1 v s).2
  · unfold lcl at l
    rw [if_neg g1, if_neg g2, if_neg g3] at l
    obtain ⟨v', w1, w2, w3⟩ := E2 v (τ p) s l
    exact ⟨v', w1, w2, by rw [sP]; exact w3⟩
theorem FrJ_tr {σ1 σ2 : aSg} (h : FrJ σ σ1) (h' : FrJ σ1 σ2) : FrJ σ σ2 := ⟨fun a h1 h2 => (h'.1 a h1 h2).trans (h.1 a h1 h2), h'.2.1.trans h.2.1, h'.2.2.1.trans h.2.2.1, h'.2.2.2.trans h.2.2.2⟩
theorem FrA_J {a j : Nat} (h : FrA a j σ σ') (ha : 134 ≤ a ∧ a ≠ 153) (hj : j ≠ 1 ∧ j ≠ 4 ∧ j ≠ 5) : FrJ σ σ' := ⟨fun b h1 h2 => h.1 b (by omega) h2, h.2 1 (by omega), h.2 4 (by omega), h.2 5 (by omega)⟩
theorem FrJ_G (h : FrJ σ σ') : FrG σ σ' := ⟨fun a h1 h2 => h.1 a (by omega) h2, h.2⟩
theorem FrN_J (h : FrN σ σ') : FrJ σ σ' := ⟨fun a h1 h2 => h.1 a h2 (by omega) (by omega) (by omega) (by omega), h.2 1 (by omega), h.2 4 (by omega), h.2 5 (by omega)⟩
theorem KLm_n (h : KLm σ0 σ T n fr to o n0 lb st) (hk : KRm σ σ' n' fr' to' o') : KLm σ0 σ' T n' fr' to' o' n0 lb st := by
  obtain ⟨h1, h2, h3, h4, h5⟩ := h
  have f := hk.2.2.2.2.2
  have m : ∀ a, a = 134 ∨ a = 136 ∨ a = 148 ∨ a = 149 → σ' a = σ a := fun a ha => f.1 a (by omega) (by omega) (by omega) (by omega) (by omega)
  refine ⟨⟨by rw [f.2 7 (by omega)]; exact h1.1, by rw [m 134 (by omega)]; exact h1.2⟩, KRm_rf hk, ?_, ⟨by rw [f.2 11 (by omega)]; exact h4.1, by rw [m 136 (by omega)]; exact h4.2⟩, FrJ_tr h5 (FrN_J f)⟩
  unfold NLm
  rw [m 148 (by omega), m 149 (by omega)]
  exact h3
theorem KLm_s (h : KLm σ0 σ T n fr to o n0 lb st) (hs : stM σ' st') (hf : FrA 136 11 σ σ') : KLm σ0 σ' T n fr to o n0 lb st' := by
  obtain ⟨h1, ⟨k1, k2, k3, k4, k5, k6⟩, h3, h4, h5⟩ := h
  refine ⟨tmM_fr h1 hf (by omega) (by omega), ⟨by rw [hf.2 29 (by omega)]; exact k1, by rw [hf.1 144 (by omega) (by omega)]; exact k2, by rw [hf.1 145 (by omega) (by omega)]; exact k3, by rw [hf.1 146 (by omega) (by omega)]; exact k4, k5, FrN_rf⟩, ?_, hs, FrJ_tr h5 (FrA_J hf (by omega) (by omega))⟩
  unfold NLm
  rw [hf.1 148 (by omega) (by omega), hf.1 149 (by omega) (by omega)]
  exact h3
/-- the kind of a name -/
theorem wr184 (hm : tmM σ T) (hN : NLm σ T n0 lb) (hT : isT T) (hkT : tks T) (hl : T.length ≤ 120) (hn0 : n0 ≤ 1600) (hp : p < T.length) (hnm : 97 ≤ T.getD p 0 ∧ T.getD p 0 ≤ 122) (Q : List AV → aSg → Prop) (hq : ∀ i : Nat, i < n0 → lb i = lbN T p → Q [.inl (i : Int)] σ) : CA m184 [.inr (.inl 130), .inl (p : Int)] σ Q := by
  rw [e184]
  have l4 := ln134
  have l8 := ln148
  have l9 := ln149
  have hg : T.getD p 0 = T[p] := by rw [List.getD_eq_getElem?_getD, List.getElem?_eq_getElem hp]; rfl
  have hc : σ 134 p = T[p] := by rw [hm.2 p _ (List.getElem?_eq_getElem hp)]; exact tau_big (by omega)
  simp (disch := omega) only [s184_0, s184_1, s184_4, s184_5, s184_6, s184_7, s184_8, s184_9, s184_10, s184_12, s184_15, s184_16, s184_19, s184_20, s184_21, s184_24, s184_25, s184_26, s184_29, s184_30, s184_31, s184_34, s184_35, s184_38, s184_39, s184_42, s184_43, s184_44, s184_45, s184_48, s184_51, s184_52, s184_55, s184_56, s184_58, s184_59, s184_60, List.cons_append, List.nil_append, if_true, if_false, true_and, and_true, and_self, eq_self, true_or, or_true, false_or, or_false, tIn, tLe, fLe, tLt, fLt, tEq, fEq, isL, kd134, ln134, Int.toNat_natCast, hc]
  have lp : ∀ (q : Nat), q ≤ p → rsB T p p = rsB T p q → WP m184 11 [.inr (.inl 130), .inl (p : Int), .inl T[p], .inl ((q : Int) - 1)] [] σ Q := by
    intro q
    induction q with
    | zero =>
      intro hq0 hrs
      have lbn : lbN T p = .inr (T.getD p 0) := by unfold lbN; rw [hrs]; rfl
      obtain ⟨j, hj⟩ : ∃ j : Nat, T[p] - 97 = (j : Int) := ⟨(T[p] - 97).toNat, by omega⟩
      have hj26 : j < 26 := by omega
      have hnj : T.getD p 0 = 97 + (j : Int) := by omega
      obtain ⟨i, i1, i2, i3⟩ := hN.1 j hj26
      have e0 : ((0 : Nat) : Int) - 1 = -1 := by omega
      rw [e0, s184_11]
      simp (disch := omega) only [s184_0, s184_1, s184_4, s184_5, s184_6, s184_7, s184_8, s184_9, s184_10, s184_12, s184_15, s184_16, s184_19, s184_20, s184_21, s184_24, s184_25, s184_26, s184_29, s184_30, s184_31, s184_34, s184_35, s184_38, s184_39, s184_42, s184_43, s184_44, s184_45, s184_48, s184_51, s184_52, s184_55, s184_56, s184_58, s184_59, s184_60, List.cons_append, List.nil_append, if_true, if_false, true_and, and_true, and_self, eq_self, true_or, or_true, false_or, or_false, tIn, tLe, fLe, tLt, fLt, tEq, fEq, isL, hj, kd148, ln148, Int.toNat_natCast, i2]
      exact hq i i1 (by rw [lbn, hnj]; exact i3)
    | succ q ih =>
      intro hqp hrs
      have q1 : ((q + 1 : Nat) : Int) - 1 = (q : Int) := by omega
      have hql : q < T.length := by omega
      have hgq : T.getD q 0 = T[q] := by rw [List.getD_eq_getElem?_getD, List.getElem?_eq_getElem hql]; rfl
      have tgq := te_gt hT hql
      have tkq := hkT _ (List.getElem_mem hql)
      have hcq : σ 134 q = tau T[q] := hm.2 q _ (List.getElem?_eq_getElem hql)
      have tq := tau_in tkq
      have em : (q : Int) + -1 = (q : Int) - 1 := by omega
      have cb := fun K => c149 (K := K) hm hT hkT (by omega) hql
      have teq : te T q ≤ 120 := by
        obtain ⟨u, hu⟩ := At_ex hT hql
        have := At_te hu
        have := At_le hu
        omega
      rw [q1, s184_11]
      simp only [rsB] at hrs
      rw [hg, hgq] at hrs
      by_cases g1 : T[q] = 1000 + T[p]
      · have tb : tau T[q] = 1000 + T[p] := by rw [tau_big (by omega)]; exact g1
        by_cases g2 : p < te T q
        · rw [if_pos ⟨g1, g2⟩] at hrs
          have lbn : lbN T p = .inl q := by unfold lbN; rw [hrs]
          obtain ⟨i, i1, i2, i3⟩ := hN.2 q hql (by omega)
          simp (disch := omega) only [s184_0, s184_1, s184_4, s184_5, s184_6, s184_7, s184_8, s184_9, s184_10, s184_12, s184_15, s184_16, s184_19, s184_20, s184_21, s184_24, s184_25, s184_26, s184_29, s184_30, s184_31, s184_34, s184_35, s184_38, s184_39, s184_42, s184_43, s184_44, s184_45, s184_48, s184_51, s184_52, s184_55, s184_56, s184_58, s184_59, s184_60, List.cons_append, List.nil_append, if_true, if_false, true_and, and_true, and_self, eq_self, true_or, or_true, false_or, or_false, tIn, tLe, fLe, tLt, fLt, tEq, fEq, isL, kd134, ln134, Int.toNat_natCast, hcq, tb, cb, kd149, ln149, i2]
          exact hq i i1 (by rw [lbn]; exact i3)
        · rw [if_neg (fun z => g2 z.2)] at hrs
          simp (disch := omega) only [s184_0, s184_1, s184_4, s184_5, s184_6, s184_7, s184_8, s184_9, s184_10, s184_12, s184_15, s184_16, s184_19, s184_20, s184_21, s184_24, s184_25, s184_26, s184_29, s184_30, s184_31, s184_34, s184_35, s184_38, s184_39, s184_42, s184_43, s184_44, s184_45, s184_48, s184_51, s184_52, s184_55, s184_56, s184_58, s184_59, s184_60, List.cons_append, List.nil_append, if_true, if_false, true_and, and_true, and_self, eq_self, true_or, or_true, false_or, or_false, tIn, tLe, fLe, tLt, fLt, tEq, fEq, isL, kd134, ln134, Int.toNat_natCast, hcq, tb, cb, em]
          exact ih (by omega) hrs
      · have tb : ¬ tau T[q] = 1000 + T[p] := by
          intro z
          by_cases z2 : 90 ≤ T[q]
          · rw [tau_big z2] at z; exact g1 z
          · have : ¬ 1000 ≤ tau T[q] := fun z3 => by have := (tau_b tkq).mp z3; omega
            omega
        rw [if_neg (fun z => g1 z.1)] at hrs
        simp (disch := omega) only [s184_0, s184_1, s184_4, s184_5, s184_6, s184_7, s184_8, s184_9, s184_10, s184_12, s184_15, s184_16, s184_19, s184_20, s184_21, s184_24, s184_25, s184_26, s184_29, s184_30, s184_31, s184_34, s184_35, s184_38, s184_39, s184_42, s184_43, s184_44, s184_45, s184_48, s184_51, s184_52, s184_55, s184_56, s184_58, s184_59, s184_60, List.cons_append, List.nil_append, if_true, if_false, true_and, and_true, and_self, eq_self, true_or, or_true, false_or, or_false, tIn, tLe, fLe, tLt, fLt, tEq, fEq, isL, kd134, ln134, Int.toNat_natCast, hcq, em]
        exact ih (by omega) hrs
  exact lp p (Nat.le_refl _) rfl
theorem psF_map (hp : p < q) : ∀ (ts : List Tm) (q : Nat), p < q → p < CK.length → (psF q ts).map (fun q : Nat => lat (lset CK (p : Int) c) (q : Int)) = (psF q ts).map (fun q : Nat => lat CK (q : Int)) := by
  intro ts
  induction ts with
  | nil => intro q _ _; rfl
  | cons t ts ih =>
    intro q h1 h2
    simp only [psF, List.map_cons]
    rw [lset_at (by omega), if_neg (by omega), ih _ (by omega) h2]
theorem flF_inj {ts : List Tm} {a : Tm} {r : List Int} (h : flF ts = fl a ++ r) (ha : wt a) (hw : ∀ v ∈ ts, wt v) : ∃ ts', ts = a :: ts' ∧ flF ts' = r := by
  cases ts with
  | nil => exact absurd h.symm (fl_ne ha)
  | cons t ts =>
    obtain ⟨e1, e2⟩ := fl_inj t (hw t (List.mem_cons_self ..)) a (flF ts) r ha h
    exact ⟨ts, by rw [e1], e2⟩
theorem flF_len : ∀ ts : List Tm, (∀ v ∈ ts, wt v) → ts.length ≤ (flF ts).length := by
  intro ts
  induction ts with
  | nil => intro _; simp
  | cons v ts ih =>
    intro h
    have := fl_pos (h v (List.mem_cons_self ..))
    have := ih (fun u hu => h u (List.mem_cons_of_mem _ hu))
    simp only [flF, List.length_append, List.length_cons]
    omega
theorem psF_len : ∀ (ts : List Tm) (p : Nat), (psF p ts).length = ts.length := by
  intro ts
  induction ts with
  | nil => intro p; rfl
  | cons t ts ih => intro p; simp only [psF, List.length_cons, ih]
end RKD
