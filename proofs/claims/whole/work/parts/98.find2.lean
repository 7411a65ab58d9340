/-! Sorter: the search for a kind -/
section FD2
variable {σ σ0 σ' : aSg} {n n' n0 : Nat} {fr to fr' to' : Nat → Int} {o o' : Nat → Nat} {lb : Nat → Lb} {T CK CK' FK : List Int} {p q t : Nat}
theorem ch_put (hT : isT T) (hp : p < T.length) (h : T.getD p 0 = 1) : p + 1 < T.length ∧ te T (p + 1) < T.length := by
  obtain ⟨u, hA⟩ := At_ex hT hp
  cases u with
  | num c => exact absurd ((gD_of (At_num hA).1).symm.trans h) (arT0 (At_num hA).2).1
  | add a b => exact ⟨At_lt (At_add hA).2.1, At_lt (At_add hA).2.2.1⟩
  | mulL c a => exact absurd ((gD_of (At_mul hA).1).symm.trans h) (arT1 (At_mul hA).2.1).1
  | _ => exact absurd hA.1 (fun z => z)
theorem ch_bnd (hT : isT T) (hp : p < T.length) (h : 1000 < T.getD p 0) : p + 1 < T.length := by
  obtain ⟨u, hA⟩ := At_ex hT hp
  cases u with
  | num c => rw [gD_of (At_num hA).1] at h; exact absurd h (arT0 (At_num hA).2).2
  | add a b => exact At_lt (At_add hA).2.1
  | mulL c a => exact At_lt (At_mul hA).2.2
  | _ => exact absurd hA.1 (fun z => z)
theorem wr50l (ht : isRow t) (ht2 : t < 53) (hT : isT T) (hkT : tks T) (hl : T.length ≤ 120) (Q : List AV → aSg → Prop) (hq : ∀ (σ : aSg) (n : Nat) (fr to : Nat → Int) (o : Nat → Nat) (CK : List Int), NKI σ0 σ t T n fr to o CK FK → FdC n n0 lb T CK 0 → FdI n fr to o n0 lb T CK 0 → n0 ≤ n → n ≤ 663 → WP m50 61 [.inr (.inl 108), .inr (.inl t), .inl (-1)] [] σ Q) : ∀ (p : Nat) (σ : aSg) (n : Nat) (fr to : Nat → Int) (o : Nat → Nat) (CK : List Int), p ≤ T.length → NKI σ0 σ t T n fr to o CK FK → FdC n n0 lb T CK p → FdI n fr to o n0 lb T CK p → n0 ≤ n → n ≤ nmc T + csS (T.drop p) → WP m50 41 [.inr (.inl 108), .inr (.inl t), .inl ((p : Int) - 1)] [] σ Q := by
  have ct := cost_T hT hl
  intro p
  induction p with
  | zero =>
    intro σ n fr to o CK _ h hC hF h0 hn
    have := csS_le (T := T) (p := 0)
    have e0 : ((0 : Nat) : Int) - 1 = -1 := by omega
    rw [e0, s50_41]
    simp (disch := omega) only [s50_0, s50_1, s50_4, s50_5, s50_8, s50_9, s50_12, s50_15, s50_16, s50_19, s50_22, s50_23, s50_26, s50_29, s50_30, s50_31, s50_34, s50_35, s50_38, s50_39, s50_40, s50_42, s50_45, s50_46, s50_47, s50_48, s50_51, s50_52, s50_55, s50_58, s50_62, s50_65, List.cons_append, List.nil_append, if_true, if_false, true_and, and_true, and_self, eq_self, true_or, or_true, false_or, or_false, tIn, tLe, fLe, tLt, fLt, tEq, fEq, isL]
    exact hq σ n fr to o CK h hC hF h0 (by omega)
  | succ p ih =>
    intro σ n fr to o CK hp h hC hF h0 hn
    have hk := h.1.1
    have hpl : p < T.length := by omega
    have el := lat_i2 hpl
    have hg : T.getD p 0 = T[p] := by rw [List.getD_eq_getElem?_getD, List.getElem?_eq_getElem hpl]; rfl
    have e0 : ((p + 1 : Nat) : Int) - 1 = (p : Int) := by omega
    have cd := csS_drop hpl
    have cl := csS_le (T := T) (p := p)
    rw [e0, s50_41]
    simp (disch := omega) only [s50_0, s50_1, s50_4, s50_5, s50_8, s50_9, s50_12, s50_15, s50_16, s50_19, s50_22, s50_23, s50_26, s50_29, s50_30, s50_31, s50_34, s50_35, s50_38, s50_39, s50_40, s50_42, s50_45, s50_46, s50_47, s50_48, s50_51, s50_52, s50_55, s50_58, s50_62, s50_65, List.cons_append, List.nil_append, if_true, if_false, true_and, and_true, and_self, eq_self, true_or, or_true, false_or, or_false, tIn, tLe, fLe, tLt, fLt, tEq, fEq, isL, ht.1, c30 ht hk, h.2.2.2.2.1, el]
    rw [← hg]
    refine wr56 h hC hF h0 (by omega) hpl ht ht2 hT hkT hl (ch_put hT hpl) (ch_bnd hT hpl) _ (fun σ1 n1 fr1 to1 o1 CK1 N1 C1 F1 b1 b2 => ?_)
    simp (disch := omega) only [s50_0, s50_1, s50_4, s50_5, s50_8, s50_9, s50_12, s50_15, s50_16, s50_19, s50_22, s50_23, s50_26, s50_29, s50_30, s50_31, s50_34, s50_35, s50_38, s50_39, s50_40, s50_42, s50_45, s50_46, s50_47, s50_48, s50_51, s50_52, s50_55, s50_58, s50_62, s50_65, List.cons_append, List.nil_append, if_true, if_false, true_and, and_true, and_self, eq_self, true_or, or_true, false_or, or_false, tIn, tLe, fLe, tLt, fLt, tEq, fEq, isL]
    exact ih σ1 n1 fr1 to1 o1 CK1 (by omega) N1 C1 F1 (by omega) (by omega)
end FD2
