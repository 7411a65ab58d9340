/-! Sorter: the kinds of names -/
abbrev Lb : Type := Nat ⊕ Int
def lbN (T : List Int) (q : Nat) : Lb := match rsB T q q with
  | some b => .inl b
  | none => .inr (T.getD q 0)
/-- the kind of a place, ahead of all others: of a binder's name, of a name -/
def lbOK (T : List Int) (n : Nat) (lb : Nat → Lb) (q : Nat) (κ : Int) : Prop :=
  if 1000 < T.getD q 0 then ∃ i : Nat, i < n ∧ κ = (i : Int) ∧ lb i = .inl q
  else if 97 ≤ T.getD q 0 ∧ T.getD q 0 ≤ 122 then ∃ i : Nat, i < n ∧ κ = (i : Int) ∧ lb i = lbN T q
  else κ = -1
def fkOK (n : Nat) (lb : Nat → Lb) (FK : List Int) : Prop := FK.length = 26 ∧ ∀ j : Nat, j < 26 → (lat FK (j : Int) = -1 ∧ ∀ i, i < n → lb i ≠ .inr (97 + (j : Int))) ∨ ∃ i : Nat, i < n ∧ lat FK (j : Int) = (i : Int) ∧ lb i = .inr (97 + (j : Int))
/-- labels are one to one, those of binders below p -/
def LbJ (n : Nat) (lb : Nat → Lb) (p : Nat) : Prop := (∀ i j, i < n → j < n → lb i = lb j → i = j) ∧ ∀ i b, i < n → lb i = .inl b → b < p
def NKI (σ0 σ : aSg) (t : Nat) (T : List Int) (n : Nat) (fr to : Nat → Int) (o : Nat → Nat) (CK FK : List Int) : Prop := KRo σ σ n fr to o ∧ rv σ 115 = CK ∧ rv σ 117 = FK ∧ rv σ 126 = endsT T ∧ rv σ t = T ∧ ∀ a, a < 108 ∨ 129 < a ∨ a = 123 ∨ a = 124 → σ a = σ0 a
section NMK
variable {σ σ0 σ' : aSg} {K : List AV → aSg → Prop} {x y z c : Int} {n n' : Nat} {fr to : Nat → Int} {o o' ρ : Nat → Nat} {i j r k l a b p q t : Nat} {v v' : Nat → Ty} {τ : Ty} {T CK FK : List Int} {lb lb' : Nat → Lb}
theorem lbOK_mono (hn : n ≤ n') (hl : ∀ i, i < n → lb' i = lb i) {κ : Int} (h : lbOK T n lb q κ) : lbOK T n' lb' q κ := by
  unfold lbOK at h ⊢
  by_cases g1 : 1000 < T.getD q 0
  · rw [if_pos g1] at h ⊢
    obtain ⟨i, h1, h2, h3⟩ := h; exact ⟨i, by omega, h2, by rw [hl i h1]; exact h3⟩
  · rw [if_neg g1] at h ⊢
    by_cases g2 : 97 ≤ T.getD q 0 ∧ T.getD q 0 ≤ 122
    · rw [if_pos g2] at h ⊢
      obtain ⟨i, h1, h2, h3⟩ := h; exact ⟨i, by omega, h2, by rw [hl i h1]; exact h3⟩
    · rw [if_neg g2] at h ⊢; exact h
theorem LbJ_up {x : Lb} {p' : Nat} (h : LbJ n lb p) (hx : ∀ i, i < n → lb i ≠ x) (hb : ∀ b, x = .inl b → b < p') (hp : p ≤ p') : LbJ (n + 1) (fun i => if i = n then x else lb i) p' := by
  constructor
  · intro i j hi hj e
    by_cases g1 : i = n
    · by_cases g2 : j = n
      · omega
      · simp only [if_pos g1, if_neg g2] at e
        exact absurd e.symm (hx j (by omega))
    · by_cases g2 : j = n
      · simp only [if_neg g1, if_pos g2] at e
        exact absurd e (hx i (by omega))
      · simp only [if_neg g1, if_neg g2] at e
        exact h.1 i j (by omega) (by omega) e
  · intro i b hi e
    by_cases g1 : i = n
    · simp only [if_pos g1] at e
      exact hb b e
    · simp only [if_neg g1] at e
      have := h.2 i b (by omega) e
      omega
theorem NKI_k {fr' to' : Nat → Int} (h : NKI σ0 σ t T n fr to o CK FK) (ht : t + 1 < 108) (hk : KRo σ σ' n' fr' to' o') : NKI σ0 σ' t T n' fr' to' o' CK FK := by
  obtain ⟨h1, h2, h3, h4, h5, h6⟩ := h
  obtain ⟨k1, k2, k3, k4, k5, k6⟩ := hk
  have rr : ∀ r, 114 < r ∨ r + 1 < 109 → rv σ' r = rv σ r := fun r hr => rv_same (k6 r (by omega)) (k6 (r + 1) (by omega))
  exact ⟨⟨k1, k2, k3, k4, k5, fun _ _ => rfl⟩, (rr 115 (by omega)).trans h2, (rr 117 (by omega)).trans h3, (rr 126 (by omega)).trans h4, (rr t (by omega)).trans h5, fun a ha => (k6 a (by omega)).trans (h6 a ha)⟩
theorem NKI_w {CK' FK' : List Int} {r0 : Nat} (h : NKI σ0 σ t T n fr to o CK FK) (ht : isRow t) (ht2 : t + 1 < 108) (hr : isRow r0) (hr2 : r0 = 115 ∨ r0 = 117) (hk : RK σ') (hf : FrW r0 σ σ') (e1 : rv σ' 115 = CK') (e2 : rv σ' 117 = FK') : NKI σ0 σ' t T n fr to o CK' FK' := by
  obtain ⟨⟨k1, k2, k3, k4, k5, k6⟩, h2, h3, h4, h5, h6⟩ := h
  exact ⟨⟨hk, (FrW_rv hf hr row109 (by omega)).trans k2, (FrW_rv hf hr row111 (by omega)).trans k3, (FrW_rv hf hr row113 (by omega)).trans k4, k5, fun _ _ => rfl⟩, e1, e2, (FrW_rv hf hr row126 (by omega)).trans h4, (FrW_rv hf hr ht (by omega)).trans h5, fun a ha => (hf a (by omega) (by omega)).trans (h6 a ha)⟩
theorem wr55 (h : NKI σ0 σ t T n fr to o CK FK) (ht : isRow t) (ht2 : t < 53) (hT : isT T) (hkT : tks T) (hl : T.length ≤ 120) (hn : n < 720) (hp : p < T.length) (hnm : 97 ≤ T.getD p 0 ∧ T.getD p 0 ≤ 122) (hCK : CK.length = p) (hok : ∀ q : Nat, q < p → lbOK T n lb q (lat CK (q : Int))) (hfk : fkOK n lb FK) (hJ : LbJ n lb p) (Q : List AV → aSg → Prop) (hq : ∀ (σ' : aSg) (n' : Nat) (fr' to' : Nat → Int) (o' : Nat → Nat) (FK' : List Int) (lb' : Nat → Lb) (i : Nat), NKI σ0 σ' t T n' fr' to' o' CK FK' → n ≤ n' → n' ≤ n + 1 → (∀ j, j < n → lb' j = lb j) → fkOK n' lb' FK' → i < n' → lb' i = lbN T p → ((∀ v, Sl n fr to o v) → ∀ v, Sl n' fr' to' o' v) → LbJ n' lb' p → Q [.inl (i : Int)] σ') : CA m55 [.inr (.inl 108), .inr (.inl t), .inl (p : Int)] σ Q := by
  rw [e55]
  obtain ⟨h1, h2, h3, h4, h5, h6⟩ := id h
  have hk := h1.1
  have hg : T.getD p 0 = T[p] := by rw [List.getD_eq_getElem?_getD, List.getElem?_eq_getElem hp]; rfl
  have el := lat_i2 hp
  have oS125 : isO 125 6 := sp125.1
  simp (disch := omega) only [s55_0, s55_1, s55_2, s55_5, s55_6, s55_7, s55_8, s55_9, s55_13, s55_16, s55_17, s55_19, s55_22, s55_25, s55_26, s55_27, s55_30, s55_31, s55_34, s55_36, s55_39, s55_40, s55_43, s55_44, s55_47, s55_49, s55_52, s55_53, s55_56, s55_59, s55_60, s55_62, s55_63, s55_65, s55_66, s55_69, s55_71, s55_74, s55_75, s55_78, s55_79, s55_82, s55_84, s55_85, s55_88, s55_91, s55_92, s55_95, s55_97, s55_100, List.cons_append, List.nil_append, if_true, if_false, true_and, and_true, and_self, eq_self, true_or, or_true, false_or, or_false, tIn, tLe, fLe, tLt, fLt, tEq, fEq, isL, ht.1, c30 ht hk, h5, el]
  have lp : ∀ (q : Nat), q ≤ p → rsB T p p = rsB T p q → WP m55 11 [.inr (.inl 108), .inr (.inl t), .inl (p : Int), .inl T[p], .inl ((q : Int) - 1)] [] σ Q := by
    intro q
    induction q with
    | zero =>
      intro hq0 hrs
      have lbn : lbN T p = .inr (T.getD p 0) := by unfold lbN; rw [hrs]; rfl
      obtain ⟨j, hj⟩ : ∃ j : Nat, T[p] - 97 = (j : Int) := ⟨(T[p] - 97).toNat, by omega⟩
      have hj26 : j < 26 := by omega
      have hnj : T.getD p 0 = 97 + (j : Int) := by omega
      obtain ⟨f1, f2⟩ := hfk
      rw [s55_11]
      rcases f2 j hj26 with ⟨g, gn⟩ | ⟨i, g1, g2, g3⟩
      · simp (disch := omega) only [s55_0, s55_1, s55_2, s55_5, s55_6, s55_7, s55_8, s55_9, s55_13, s55_16, s55_17, s55_19, s55_22, s55_25, s55_26, s55_27, s55_30, s55_31, s55_34, s55_36, s55_39, s55_40, s55_43, s55_44, s55_47, s55_49, s55_52, s55_53, s55_56, s55_59, s55_60, s55_62, s55_63, s55_65, s55_66, s55_69, s55_71, s55_74, s55_75, s55_78, s55_79, s55_82, s55_84, s55_85, s55_88, s55_91, s55_92, s55_95, s55_97, s55_100, List.cons_append, List.nil_append, if_true, if_false, true_and, and_true, and_self, eq_self, true_or, or_true, false_or, or_false, tIn, tLe, fLe, tLt, fLt, tEq, fEq, isL, hj, row117.1, c30 row117 hk, h3, g]
        refine unk_e h1 hn _ (fun σ1 fr1 to1 o1 i1 E1 => ?_)
        have N1 := NKI_k h (by omega) i1
        simp (disch := omega) only [s55_0, s55_1, s55_2, s55_5, s55_6, s55_7, s55_8, s55_9, s55_13, s55_16, s55_17, s55_19, s55_22, s55_25, s55_26, s55_27, s55_30, s55_31, s55_34, s55_36, s55_39, s55_40, s55_43, s55_44, s55_47, s55_49, s55_52, s55_53, s55_56, s55_59, s55_60, s55_62, s55_63, s55_65, s55_66, s55_69, s55_71, s55_74, s55_75, s55_78, s55_79, s55_82, s55_84, s55_85, s55_88, s55_91, s55_92, s55_95, s55_97, s55_100, List.cons_append, List.nil_append, if_true, if_false, true_and, and_true, and_self, eq_self, true_or, or_true, false_or, or_false, tIn, tLe, fLe, tLt, fLt, tEq, fEq, isL, row117.1]
        refine rset_ok row117 N1.1.1 N1.2.2.1 _ (fun σ2 k2 w2 f2' => ?_)
        have N2 := NKI_w N1 ht (by omega) row117 (Or.inr rfl) k2 f2' ((FrW_rv f2' row117 row115 (by omega)).trans N1.2.1) w2
        have e3 : lat (lset FK (j : Int) (n : Int)) (j : Int) = (n : Int) := by rw [lset_at (by omega), if_pos rfl]
        simp (disch := omega) only [s55_0, s55_1, s55_2, s55_5, s55_6, s55_7, s55_8, s55_9, s55_13, s55_16, s55_17, s55_19, s55_22, s55_25, s55_26, s55_27, s55_30, s55_31, s55_34, s55_36, s55_39, s55_40, s55_43, s55_44, s55_47, s55_49, s55_52, s55_53, s55_56, s55_59, s55_60, s55_62, s55_63, s55_65, s55_66, s55_69, s55_71, s55_74, s55_75, s55_78, s55_79, s55_82, s55_84, s55_85, s55_88, s55_91, s55_92, s55_95, s55_97, s55_100, List.cons_append, List.nil_append, if_true, if_false, true_and, and_true, and_self, eq_self, true_or, or_true, false_or, or_false, tIn, tLe, fLe, tLt, fLt, tEq, fEq, isL, row117.1, c30 row117 k2, w2, e3]
        refine hq σ2 (n + 1) fr1 to1 o1 _ (fun i => if i = n then .inr (97 + (j : Int)) else lb i) n N2 (by omega) (by omega) (fun i hi => by simp only [if_neg (show ¬ i = n by omega)]) ⟨by rw [lset_len]; exact f1, fun j' hj' => ?_⟩ (by omega) ?_ (fun hs v => (E1 v).mpr (hs v)) (LbJ_up hJ gn (fun b z => by cases z) (Nat.le_refl _))
        · rw [lset_at (by omega)]
          by_cases z : j' = j
          · subst z
            rw [if_pos rfl]
            exact Or.inr ⟨n, by omega, rfl, by simp⟩
          · rw [if_neg z]
            rcases f2 j' hj' with ⟨w, wn⟩ | ⟨i, w1, w2, w3⟩
            · refine Or.inl ⟨w, fun i hi e => ?_⟩
              by_cases z2 : i = n
              · simp only [if_pos z2, Sum.inr.injEq] at e
                omega
              · simp only [if_neg z2] at e
                exact wn i (by omega) e
            · exact Or.inr ⟨i, by omega, w2, by simp only [if_neg (show ¬ i = n by omega)]; exact w3⟩
        · simp only [if_true]
          rw [lbn, hnj]
      · simp (disch := omega) only [s55_0, s55_1, s55_2, s55_5, s55_6, s55_7, s55_8, s55_9, s55_13, s55_16, s55_17, s55_19, s55_22, s55_25, s55_26, s55_27, s55_30, s55_31, s55_34, s55_36, s55_39, s55_40, s55_43, s55_44, s55_47, s55_49, s55_52, s55_53, s55_56, s55_59, s55_60, s55_62, s55_63, s55_65, s55_66, s55_69, s55_71, s55_74, s55_75, s55_78, s55_79, s55_82, s55_84, s55_85, s55_88, s55_91, s55_92, s55_95, s55_97, s55_100, List.cons_append, List.nil_append, if_true, if_false, true_and, and_true, and_self, eq_self, true_or, or_true, false_or, or_false, tIn, tLe, fLe, tLt, fLt, tEq, fEq, isL, hj, row117.1, c30 row117 hk, h3, g2]
        exact hq σ n fr to o FK lb i h (by omega) (by omega) (fun _ _ => rfl) ⟨f1, f2⟩ g1 (by rw [lbn, hnj]; exact g3) (fun hs => hs) hJ
    | succ q ih =>
      intro hqp hrs
      have q1 : ((q + 1 : Nat) : Int) - 1 = (q : Int) := by omega
      have hql : q < T.length := by omega
      have elq := lat_i2 hql
      have hgq : T.getD q 0 = T[q] := by rw [List.getD_eq_getElem?_getD, List.getElem?_eq_getElem hql]; rfl
      have e2 := endsT_at (T := T) hql
      have tgq := te_gt hT hql
      have tkq := hkT _ (List.getElem_mem hql)
      rw [s55_11]
      simp only [rsB] at hrs
      rw [hg, hgq] at hrs
      by_cases g1 : T[q] = 1000 + T[p]
      · by_cases g2 : p < te T q
        · rw [if_pos ⟨g1, g2⟩] at hrs
          have lbn : lbN T p = .inl q := by unfold lbN; rw [hrs]
          have := hok q (by omega)
          unfold lbOK at this
          rw [if_pos (by omega)] at this
          obtain ⟨i, i1, i2, i3⟩ := this
          simp (disch := omega) only [s55_0, s55_1, s55_2, s55_5, s55_6, s55_7, s55_8, s55_9, s55_13, s55_16, s55_17, s55_19, s55_22, s55_25, s55_26, s55_27, s55_30, s55_31, s55_34, s55_36, s55_39, s55_40, s55_43, s55_44, s55_47, s55_49, s55_52, s55_53, s55_56, s55_59, s55_60, s55_62, s55_63, s55_65, s55_66, s55_69, s55_71, s55_74, s55_75, s55_78, s55_79, s55_82, s55_84, s55_85, s55_88, s55_91, s55_92, s55_95, s55_97, s55_100, List.cons_append, List.nil_append, if_true, if_false, true_and, and_true, and_self, eq_self, true_or, or_true, false_or, or_false, tIn, tLe, fLe, tLt, fLt, tEq, fEq, isL, q1, ht.1, c30 ht hk, h5, elq, oS125, c68 sp125 hk, h4, e2, row115.1, c30 row115 hk, h2, i2]
          exact hq σ n fr to o FK lb i h (by omega) (by omega) (fun _ _ => rfl) hfk i1 (by rw [lbn]; exact i3) (fun hs => hs) hJ
        · rw [if_neg (fun z => g2 z.2)] at hrs
          simp (disch := omega) only [s55_0, s55_1, s55_2, s55_5, s55_6, s55_7, s55_8, s55_9, s55_13, s55_16, s55_17, s55_19, s55_22, s55_25, s55_26, s55_27, s55_30, s55_31, s55_34, s55_36, s55_39, s55_40, s55_43, s55_44, s55_47, s55_49, s55_52, s55_53, s55_56, s55_59, s55_60, s55_62, s55_63, s55_65, s55_66, s55_69, s55_71, s55_74, s55_75, s55_78, s55_79, s55_82, s55_84, s55_85, s55_88, s55_91, s55_92, s55_95, s55_97, s55_100, List.cons_append, List.nil_append, if_true, if_false, true_and, and_true, and_self, eq_self, true_or, or_true, false_or, or_false, tIn, tLe, fLe, tLt, fLt, tEq, fEq, isL, q1, ht.1, c30 ht hk, h5, elq, oS125, c68 sp125 hk, h4, e2]
          exact ih (by omega) hrs
      · rw [if_neg (fun z => g1 z.1)] at hrs
        simp (disch := omega) only [s55_0, s55_1, s55_2, s55_5, s55_6, s55_7, s55_8, s55_9, s55_13, s55_16, s55_17, s55_19, s55_22, s55_25, s55_26, s55_27, s55_30, s55_31, s55_34, s55_36, s55_39, s55_40, s55_43, s55_44, s55_47, s55_49, s55_52, s55_53, s55_56, s55_59, s55_60, s55_62, s55_63, s55_65, s55_66, s55_69, s55_71, s55_74, s55_75, s55_78, s55_79, s55_82, s55_84, s55_85, s55_88, s55_91, s55_92, s55_95, s55_97, s55_100, List.cons_append, List.nil_append, if_true, if_false, true_and, and_true, and_self, eq_self, true_or, or_true, false_or, or_false, tIn, tLe, fLe, tLt, fLt, tEq, fEq, isL, q1, ht.1, c30 ht hk, h5, elq]
        exact ih (by omega) hrs
  exact lp p (Nat.le_refl _) rfl
end NMK
