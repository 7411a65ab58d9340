/-! Sorter: whether a term has a kind -/
abbrev FrKd (σ σ' : aSg) : Prop := ∀ a, a < 108 ∨ 129 < a ∨ a = 123 ∨ a = 124 → σ' a = σ a
def KSh (n : Nat) (fr to : Nat → Int) (o : Nat → Nat) (V : Nat → Ty) : Prop := ∀ i r, i < n → Ru o i r → (fr r = -1 → V i = .var r) ∧ (fr r ≠ -1 → V i = .op (V (fr r).toNat) (V (to r).toNat))
section FD3
variable {σ σ0 σ' : aSg} {n n' n0 : Nat} {fr to fr' to' : Nat → Int} {o o' : Nat → Nat} {lb : Nat → Lb} {T CK CK' FK : List Int} {p q t κ : Nat}
/-- none has a kind where the graph has none -/
theorem fd_no (hT : isT T) (hF : FdI n fr to o n0 lb T CK 0) (h : ¬ ∃ v, apV n fr to v ∧ onV n o v) : ¬ hasK T := by
  rintro ⟨β, γ, τ, d⟩
  obtain ⟨τ', e, hl⟩ := (dv_iff hT τ).mp d
  obtain ⟨v, s, -⟩ := hF.2 β γ τ' (fun q _ hq => hl q hq)
  exact h ⟨v, s⟩
theorem CC_eq (hE : UEq n o o') (hC : CCm n fr to o []) : CCm n fr to o' [] := by
  intro i r hi hf hr
  obtain ⟨c1, c2⟩ := hC i r hi hf ((hE.2.2 i r).mpr hr)
  exact ⟨c1, fun v h1 h2 => c2 v ((hE.1 v).mpr h1) h2⟩
/-- and where it goes not round, the kind of the first place is the most general one -/
theorem fd_yes {ρ : Nat → Nat} {p0 : Nat} (hT : isT T) (hJ : LbJ n0 lb p0) (hF : FdI n fr to o n0 lb T CK 0) (hK : KGr n fr to) (hC : CCm n fr to o []) (hE : UEq n o o') (hU : UFr n o' ρ) (hA : Acy n fr to o') (hκ : lat CK 0 = (κ : Int)) (hn : κ < n) : ∃ V, KSh n fr to o' V ∧ prK T (V κ) := by
  obtain ⟨V, h1, h2, h3, h4⟩ := acy_V hK hU (CC_eq hE hC) hA
  have hl := isT_pos hT
  have hκ' : (lat CK ((0 : Nat) : Int)).toNat = κ := by rw [show ((0 : Nat) : Int) = 0 from rfl, hκ, Int.toNat_natCast]
  refine ⟨V, h3, ?_, fun β γ τ d => ?_⟩
  · obtain ⟨β, γ, hv⟩ := vl_ex (v := V) hJ
    refine ⟨β, γ, (dv_iff hT _).mpr ⟨fun q => V (lat CK (q : Int)).toNat, ?_, fun q hq => ?_⟩⟩
    · show V (lat CK ((0 : Nat) : Int)).toNat = V κ
      rw [hκ']
    · exact hF.1 V β γ ⟨h1, (hE.1 V).mpr h2⟩ hv q (Nat.zero_le _) hq
  · obtain ⟨τ', e, hl'⟩ := (dv_iff hT τ).mp d
    obtain ⟨v, s, -, hv⟩ := hF.2 β γ τ' (fun q _ hq => hl' q hq)
    refine ⟨v, ?_⟩
    rw [h4 v s.1 ((hE.1 v).mp s.2) κ hn, ← e, ← hv 0 (Nat.le_refl _) hl, hκ']
theorem FdI_0 (h : ∀ v, Sl n fr to o v) : FdI n fr to o n lb T CK T.length := by
  refine ⟨fun v β γ _ _ q h1 h2 => by omega, fun β γ τ _ => ⟨fun i => vl β γ (lb i), h _, fun i _ => rfl, fun q h1 h2 => by omega⟩⟩
theorem csS_drop_all : csS (T.drop T.length) = 0 := by rw [List.drop_length]; rfl
theorem wr50 (hk : RK σ) (hv : rv σ t = T) (ht : isRow t) (ht2 : t < 53) (hT : isT T) (hkT : tks T) (hl : T.length ≤ 120) (Q : List AV → aSg → Prop) (hq0 : ¬ hasK T → ∀ σ', RK σ' → FrKd σ σ' → Q [.inl 0] σ') (hq1 : ∀ (σ' : aSg) (n : Nat) (fr to : Nat → Int) (o ρ : Nat → Nat) (V : Nat → Ty) (κ : Nat), RK σ' → rv σ' 109 = mpI n fr → rv σ' 111 = mpI n to → rv σ' 113 = mpN n o → KGr n fr to → UFr n o ρ → KSh n fr to o V → lat (rv σ' 115) 0 = (κ : Int) → κ < n → prK T (V κ) → n ≤ 663 → FrKd σ σ' → Q [.inl 1] σ') : CA m50 [.inr (.inl 108), .inr (.inl t)] σ Q := by
  rw [e50]
  have cp126 : cp 126 = 120 := by decide
  simp (disch := omega) only [s50_0, s50_1, s50_4, s50_5, s50_8, s50_9, s50_12, s50_15, s50_16, s50_19, s50_22, s50_23, s50_26, s50_29, s50_30, s50_31, s50_34, s50_35, s50_38, s50_39, s50_40, s50_42, s50_45, s50_46, s50_47, s50_48, s50_51, s50_52, s50_55, s50_58, s50_62, s50_65, List.cons_append, List.nil_append, if_true, if_false, true_and, and_true, and_self, eq_self, true_or, or_true, false_or, or_false, tIn, tLe, fLe, tLt, fLt, tEq, fEq, isL, oS125, c67 sp125 ht (show t ≠ 125 + 1 by omega) hk hv hT (show T.length ≤ cp (125 + 1) by rw [cp126]; exact hl), row109.1, row111.1, row113.1]
  have k0 : RK (rs σ (125 + 1) (endsT T)) := RK_rs hk row126 (by rw [endsT_len, cp126]; exact hl)
  refine rclr_ok row109 k0 _ (fun σ1 k1 w1 f1 => ?_)
  simp (disch := omega) only [s50_0, s50_1, s50_4, s50_5, s50_8, s50_9, s50_12, s50_15, s50_16, s50_19, s50_22, s50_23, s50_26, s50_29, s50_30, s50_31, s50_34, s50_35, s50_38, s50_39, s50_40, s50_42, s50_45, s50_46, s50_47, s50_48, s50_51, s50_52, s50_55, s50_58, s50_62, s50_65, List.cons_append, List.nil_append, if_true, if_false, true_and, and_true, and_self, eq_self, true_or, or_true, false_or, or_false, tIn, tLe, fLe, tLt, fLt, tEq, fEq, isL, row109.1, row111.1, row113.1]
  refine rclr_ok row111 k1 _ (fun σ2 k2 w2 f2 => ?_)
  simp (disch := omega) only [s50_0, s50_1, s50_4, s50_5, s50_8, s50_9, s50_12, s50_15, s50_16, s50_19, s50_22, s50_23, s50_26, s50_29, s50_30, s50_31, s50_34, s50_35, s50_38, s50_39, s50_40, s50_42, s50_45, s50_46, s50_47, s50_48, s50_51, s50_52, s50_55, s50_58, s50_62, s50_65, List.cons_append, List.nil_append, if_true, if_false, true_and, and_true, and_self, eq_self, true_or, or_true, false_or, or_false, tIn, tLe, fLe, tLt, fLt, tEq, fEq, isL, row109.1, row111.1, row113.1]
  refine rclr_ok row113 k2 _ (fun σ3 k3 w3 f3 => ?_)
  have g109 : rv σ3 109 = [] := by rw [FrW_rv f3 row113 row109 (by omega), FrW_rv f2 row111 row109 (by omega)]; exact w1
  have g111 : rv σ3 111 = [] := by rw [FrW_rv f3 row113 row111 (by omega)]; exact w2
  have gend : rv σ3 126 = endsT T := by rw [FrW_rv f3 row113 row126 (by omega), FrW_rv f2 row111 row126 (by omega), FrW_rv f1 row109 row126 (by omega)]; exact rv_rs
  have gfr : FrKd σ σ3 := fun a ha => by
    rw [f3 a (by omega) (by omega), f2 a (by omega) (by omega), f1 a (by omega) (by omega)]
    exact rs_at (by omega) (by omega)
  have gt : rv σ3 t = T := by rw [← hv]; exact rv_same (gfr t (by omega)) (gfr (t + 1) (by omega))
  have N0 : NKI σ σ3 t T 0 (fun _ => 0) (fun _ => 0) (fun _ => 0) (rv σ3 115) (rv σ3 117) := ⟨⟨k3, g109, g111, w3, ⟨fun i hi => by omega, ⟨fun _ => 0, fun i hi => by omega⟩, fun i r hi => by omega⟩, fun a _ => rfl⟩, rfl, rfl, gend, gt, gfr⟩
  simp (disch := omega) only [s50_0, s50_1, s50_4, s50_5, s50_8, s50_9, s50_12, s50_15, s50_16, s50_19, s50_22, s50_23, s50_26, s50_29, s50_30, s50_31, s50_34, s50_35, s50_38, s50_39, s50_40, s50_42, s50_45, s50_46, s50_47, s50_48, s50_51, s50_52, s50_55, s50_58, s50_62, s50_65, List.cons_append, List.nil_append, if_true, if_false, true_and, and_true, and_self, eq_self, true_or, or_true, false_or, or_false, tIn, tLe, fLe, tLt, fLt, tEq, fEq, isL]
  refine wr54 N0 (fun v => ⟨fun i hi => by omega, fun i hi => by omega⟩) ht ht2 hT hkT hl _ (fun σ4 n4 fr4 to4 o4 CK4 FK4 lb4 N4 a1 a2 a3 a4 a5 a6 => ?_)
  have k4 := N4.1.1
  have ls := csS_drop_all (T := T)
  simp (disch := omega) only [s50_0, s50_1, s50_4, s50_5, s50_8, s50_9, s50_12, s50_15, s50_16, s50_19, s50_22, s50_23, s50_26, s50_29, s50_30, s50_31, s50_34, s50_35, s50_38, s50_39, s50_40, s50_42, s50_45, s50_46, s50_47, s50_48, s50_51, s50_52, s50_55, s50_58, s50_62, s50_65, List.cons_append, List.nil_append, if_true, if_false, true_and, and_true, and_self, eq_self, true_or, or_true, false_or, or_false, tIn, tLe, fLe, tLt, fLt, tEq, fEq, isL, ht.1, c28 ht k4, N4.2.2.2.2.1]
  refine wr50l (σ0 := σ) (FK := FK4) (n0 := n4) (lb := lb4) ht ht2 hT hkT hl _ (fun σ5 n5 fr5 to5 o5 CK5 N5 C5 F5 b1 b2 => ?_) T.length σ4 n4 fr4 to4 o4 CK4 (Nat.le_refl _) N4 ⟨a2, fun q _ hq => a3 q hq, fun q h1 h2 => by omega⟩ (FdI_0 a4) (Nat.le_refl _) (by rw [ls]; exact a6)
  obtain ⟨⟨k5, v9, v11, v13, ⟨G1, ⟨ρ, G2⟩, G3⟩, -⟩, c15, -, -, -, fr5'⟩ := N5
  obtain ⟨κ, κ1, κ2⟩ := C5.2.2 0 (Nat.le_refl _) (isT_pos hT)
  rw [s50_61]
  simp (disch := omega) only [s50_0, s50_1, s50_4, s50_5, s50_8, s50_9, s50_12, s50_15, s50_16, s50_19, s50_22, s50_23, s50_26, s50_29, s50_30, s50_31, s50_34, s50_35, s50_38, s50_39, s50_40, s50_42, s50_45, s50_46, s50_47, s50_48, s50_51, s50_52, s50_55, s50_58, s50_62, s50_65, List.cons_append, List.nil_append, if_true, if_false, true_and, and_true, and_self, eq_self, true_or, or_true, false_or, or_false, tIn, tLe, fLe, tLt, fLt, tEq, fEq, isL]
  refine wr63 k5 v9 v11 v13 G1 G2 (by omega) _ (fun hno σ6 k6 f6 => ?_) (fun σ6 o6 k6 v6 U6 E6 A6 f6 => ?_)
  · simp (disch := omega) only [s50_0, s50_1, s50_4, s50_5, s50_8, s50_9, s50_12, s50_15, s50_16, s50_19, s50_22, s50_23, s50_26, s50_29, s50_30, s50_31, s50_34, s50_35, s50_38, s50_39, s50_40, s50_42, s50_45, s50_46, s50_47, s50_48, s50_51, s50_52, s50_55, s50_58, s50_62, s50_65, List.cons_append, List.nil_append, if_true, if_false, true_and, and_true, and_self, eq_self, true_or, or_true, false_or, or_false, tIn, tLe, fLe, tLt, fLt, tEq, fEq, isL]
    exact hq0 (fd_no hT F5 hno) σ6 k6 (fun a ha => (f6 a (by omega) (by omega) (by omega) (by omega) (by omega) (by omega)).trans (fr5' a ha))
  · simp (disch := omega) only [s50_0, s50_1, s50_4, s50_5, s50_8, s50_9, s50_12, s50_15, s50_16, s50_19, s50_22, s50_23, s50_26, s50_29, s50_30, s50_31, s50_34, s50_35, s50_38, s50_39, s50_40, s50_42, s50_45, s50_46, s50_47, s50_48, s50_51, s50_52, s50_55, s50_58, s50_62, s50_65, List.cons_append, List.nil_append, if_true, if_false, true_and, and_true, and_self, eq_self, true_or, or_true, false_or, or_false, tIn, tLe, fLe, tLt, fLt, tEq, fEq, isL]
    obtain ⟨V, s1, s2⟩ := fd_yes hT a5 F5 G1 G3 E6 U6 A6 κ2 κ1
    have rr : ∀ r, r + 1 < 113 ∨ 114 < r → r + 1 < 119 ∨ 122 < r → rv σ6 r = rv σ5 r := fun r h1 h2 => rv_same (f6 r (by omega) (by omega) (by omega) (by omega) (by omega) (by omega)) (f6 (r + 1) (by omega) (by omega) (by omega) (by omega) (by omega) (by omega))
    exact hq1 σ6 n5 fr5 to5 o6 ρ V κ k6 ((rr 109 (by omega) (by omega)).trans v9) ((rr 111 (by omega) (by omega)).trans v11) v6 G1 U6 s1 (by rw [rr 115 (by omega) (by omega), c15]; exact κ2) κ1 s2 b2 (fun a ha => (f6 a (by omega) (by omega) (by omega) (by omega) (by omega) (by omega)).trans (fr5' a ha))
end FD3
