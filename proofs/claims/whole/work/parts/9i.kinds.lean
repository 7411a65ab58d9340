/-! kind, sameKind, of: what they answer, and the component's part -/
section KPB
noncomputable def iteC {α : Type} (P : Prop) (a b : α) : α := @ite α P (Classical.propDecidable P) a b
theorem iteC_t {α : Type} {P : Prop} {a b : α} (h : P) : iteC P a b = a := by unfold iteC; rw [if_pos h]
theorem iteC_f {α : Type} {P : Prop} {a b : α} (h : ¬ P) : iteC P a b = b := by unfold iteC; rw [if_neg h]
abbrev kB (T : List Int) : Prop := (kW T).length ≤ 200 ∧ kN T ≤ 26
noncomputable def kdA (T : List Int) (i : Int) : Int := iteC (hasK T) (iteC (kB T) (latOr (kW T) i (-1)) FUL) (-1)
noncomputable def kwL (T : List Int) : List Int := iteC (hasK T) (kW T) []
noncomputable def skA (T U : List Int) : Int := iteC ((hasK T ∧ ¬ kB T) ∨ (hasK U ∧ ¬ kB U)) FUL (if kwL T = kwL U then 1 else 0)
noncomputable def knA (T : List Int) : Int := iteC (hasK T) (iteC (kB T) ((kW T).length : Int) FUL) (-1)
noncomputable def ofA (T : List Int) (w : Int) : Int := if w = 0 then (T.length : Int) else if w = 1 then (vBt (trA T 0)).toInt else if w = 2 then (nbB T : Int) else if w = 8 then ((sgL T).length : Int) else if w = 9 then (dpT (trA T 0) : Int) else if w = 10 then iteC (hasK T) 1 0 else if w = 11 then knA T else (T.count (signF (w - 3)) : Int)
noncomputable def f101 (S : SS) (x i : Int) : Int × SS := (if ¬ (0 ≤ x ∧ x < 4) then UNK else if i < 0 then OUT else if sv S x.toNat = [] then NOTc else kdA (sv S x.toNat) i, S)
noncomputable def f104 (S : SS) (x y : Int) : Int × SS := (if ¬ ((0 ≤ x ∧ x < 4) ∧ (0 ≤ y ∧ y < 4)) then UNK else if sv S x.toNat = [] ∨ sv S y.toNat = [] then NOTc else skA (sv S x.toNat) (sv S y.toNat), S)
noncomputable def f99 (S : SS) (x w : Int) : Int × SS := (if ¬ (0 ≤ x ∧ x < 4) then UNK else if ¬ (0 ≤ w ∧ w ≤ 11) then OUT else if sv S x.toNat = [] then NOTc else ofA (sv S x.toNat) w, S)
variable {σ σ0 σ' : aSg} {K : List AV → aSg → Prop} {x y z i w : Int} {S : SS} {T W st : List Int} {r q t a j b k : Nat}
theorem wrt_ne : ∀ (π : Ty) (L : List Nat), (wrt π L).1 ≠ [] := by
  intro π
  cases π with
  | var x => intro L; simp only [wrt]; split <;> simp
  | op a b => intro L; simp [wrt]
theorem kW_ne : kW T ≠ [] := wrt_ne _ _
theorem c49 : CA m49 [.inr (.inl 108)] σ K = K [.inr (.inl 123)] σ := by
  rw [e49]
  simp (disch := omega) only [s49_0, s49_1, s49_4, List.cons_append, List.nil_append, if_true, if_false, true_and, and_true, and_self, eq_self, true_or, or_true, false_or, or_false, tIn, tLe, fLe, tLt, fLt, tEq, fEq, isL]
theorem oS108 : isO 108 5 := isO_dec (by decide +kernel)
theorem k101 (hR : RepC σ S) : CC m101 [.inr (.inl 0), .inl x, .inl i] σ (f101 S x i).1 (f101 S x i).2 := by
  unfold CC
  rw [e101]
  unfold f101
  have hk := hR.1
  by_cases hx : 0 ≤ x ∧ x < 4
  · rw [if_neg (fun q => q hx)]
    obtain ⟨p, rfl⟩ := Int.eq_ofNat_of_zero_le hx.1
    have hp : p < 4 := by omega
    have vp := hR.2.2.2.1 p hp
    have op := hR.2.1.2.2.1 p hp
    have lp := sh_len op
    have rp := rowS hp
    have tp := ptS p hp
    have k3 := kd3
    have l3 := ln3
    simp only [Int.toNat_natCast]
    by_cases hi : i < 0
    · rw [if_pos hi]
      simp (disch := omega) only [s101_0, s101_1, s101_4, s101_7, s101_9, s101_10, s101_11, s101_14, s101_16, s101_17, s101_18, s101_19, s101_22, s101_25, s101_27, s101_28, s101_29, s101_32, s101_33, s101_36, s101_37, s101_38, s101_41, s101_44, s101_46, s101_47, s101_48, s101_51, s101_54, s101_55, s101_56, s101_59, List.cons_append, List.nil_append, if_true, if_false, true_and, and_true, and_self, eq_self, true_or, or_true, false_or, or_false, tIn, tLe, fLe, tLt, fLt, tEq, fEq, isL, c113]
      exact ⟨hR, fun _ _ => rfl⟩
    · rw [if_neg hi]
      by_cases ep : sv S p = []
      · rw [if_pos ep]
        simp (disch := omega) only [s101_0, s101_1, s101_4, s101_7, s101_9, s101_10, s101_11, s101_14, s101_16, s101_17, s101_18, s101_19, s101_22, s101_25, s101_27, s101_28, s101_29, s101_32, s101_33, s101_36, s101_37, s101_38, s101_41, s101_44, s101_46, s101_47, s101_48, s101_51, s101_54, s101_55, s101_56, s101_59, List.cons_append, List.nil_append, if_true, if_false, true_and, and_true, and_self, eq_self, true_or, or_true, false_or, or_false, tIn, tLe, fLe, tLt, fLt, tEq, fEq, isL, c113, c111 hp hk, vp, ep]
        exact ⟨hR, fun _ _ => rfl⟩
      · rw [if_neg ep]
        have wf := sh_wf op ep
        generalize hQ : (fun (v : List AV) (σ' : aSg) => v = [.inl (kdA (sv S p) i)] ∧ RepC σ' S ∧ FrC σ σ') = Q
        simp (disch := omega) only [s101_0, s101_1, s101_4, s101_7, s101_9, s101_10, s101_11, s101_14, s101_16, s101_17, s101_18, s101_19, s101_22, s101_25, s101_27, s101_28, s101_29, s101_32, s101_33, s101_36, s101_37, s101_38, s101_41, s101_44, s101_46, s101_47, s101_48, s101_51, s101_54, s101_55, s101_56, s101_59, List.cons_append, List.nil_append, if_true, if_false, true_and, and_true, and_self, eq_self, true_or, or_true, false_or, or_false, tIn, tLe, fLe, tLt, fLt, tEq, fEq, isL, c113, c111 hp hk, vp, ep, k3, l3, Int.toNat_natCast, tp.1, tp.2, oS108]
        refine wr51 hk vp rp (by omega) wf.1 wf.2 lp _ (fun hno σ1 k1 f1 w1 => ?_) (fun hh hb σ1 k1 f1 w1 => ?_) (fun hh hb σ1 k1 f1 => ?_)
        · simp (disch := omega) only [s101_0, s101_1, s101_4, s101_7, s101_9, s101_10, s101_11, s101_14, s101_16, s101_17, s101_18, s101_19, s101_22, s101_25, s101_27, s101_28, s101_29, s101_32, s101_33, s101_36, s101_37, s101_38, s101_41, s101_44, s101_46, s101_47, s101_48, s101_51, s101_54, s101_55, s101_56, s101_59, List.cons_append, List.nil_append, if_true, if_false, true_and, and_true, and_self, eq_self, true_or, or_true, false_or, or_false, tIn, tLe, fLe, tLt, fLt, tEq, fEq, isL, c49, oS108, row123.1, c31 row123 k1, w1]
          rw [← hQ]
          refine ⟨?_, hR.keep k1 (fun a ha => f1 a (by omega)), fun a ha => f1 a (by omega)⟩
          unfold kdA
          rw [iteC_f hno]
          unfold latOr
          rw [if_neg (by simp)]
        · simp (disch := omega) only [s101_0, s101_1, s101_4, s101_7, s101_9, s101_10, s101_11, s101_14, s101_16, s101_17, s101_18, s101_19, s101_22, s101_25, s101_27, s101_28, s101_29, s101_32, s101_33, s101_36, s101_37, s101_38, s101_41, s101_44, s101_46, s101_47, s101_48, s101_51, s101_54, s101_55, s101_56, s101_59, List.cons_append, List.nil_append, if_true, if_false, true_and, and_true, and_self, eq_self, true_or, or_true, false_or, or_false, tIn, tLe, fLe, tLt, fLt, tEq, fEq, isL, c49, oS108, row123.1, c31 row123 k1, w1]
          rw [← hQ]
          refine ⟨?_, hR.keep k1 (fun a ha => f1 a (by omega)), fun a ha => f1 a (by omega)⟩
          unfold kdA
          rw [iteC_t hh, iteC_t hb]
        · simp (disch := omega) only [s101_0, s101_1, s101_4, s101_7, s101_9, s101_10, s101_11, s101_14, s101_16, s101_17, s101_18, s101_19, s101_22, s101_25, s101_27, s101_28, s101_29, s101_32, s101_33, s101_36, s101_37, s101_38, s101_41, s101_44, s101_46, s101_47, s101_48, s101_51, s101_54, s101_55, s101_56, s101_59, List.cons_append, List.nil_append, if_true, if_false, true_and, and_true, and_self, eq_self, true_or, or_true, false_or, or_false, tIn, tLe, fLe, tLt, fLt, tEq, fEq, isL]
          rw [← hQ]
          refine ⟨?_, hR.keep k1 (fun a ha => f1 a (by omega)), fun a ha => f1 a (by omega)⟩
          unfold kdA
          rw [iteC_t hh, iteC_f hb]
  · rw [if_pos hx]
    simp (disch := omega) only [s101_0, s101_1, s101_4, s101_7, s101_9, s101_10, s101_11, s101_14, s101_16, s101_17, s101_18, s101_19, s101_22, s101_25, s101_27, s101_28, s101_29, s101_32, s101_33, s101_36, s101_37, s101_38, s101_41, s101_44, s101_46, s101_47, s101_48, s101_51, s101_54, s101_55, s101_56, s101_59, List.cons_append, List.nil_append, if_true, if_false, true_and, and_true, and_self, eq_self, true_or, or_true, false_or, or_false, tIn, tLe, fLe, tLt, fLt, tEq, fEq, isL, c113, hx]
    exact ⟨hR, fun _ _ => rfl⟩
theorem k104 (hR : RepC σ S) : CC m104 [.inr (.inl 0), .inl x, .inl y] σ (f104 S x y).1 (f104 S x y).2 := by
  unfold CC
  rw [e104]
  unfold f104
  have hk := hR.1
  by_cases hx : 0 ≤ x ∧ x < 4
  · by_cases hy : 0 ≤ y ∧ y < 4
    · rw [if_neg (fun q => q ⟨hx, hy⟩)]
      obtain ⟨p, rfl⟩ := Int.eq_ofNat_of_zero_le hx.1
      obtain ⟨q, rfl⟩ := Int.eq_ofNat_of_zero_le hy.1
      have hp : p < 4 := by omega
      have hq : q < 4 := by omega
      have vp := hR.2.2.2.1 p hp
      have vq := hR.2.2.2.1 q hq
      have op := hR.2.1.2.2.1 p hp
      have oq := hR.2.1.2.2.1 q hq
      have lp := sh_len op
      have lq := sh_len oq
      have rp := rowS hp
      have rq := rowS hq
      have tp := ptS p hp
      have tq := ptS q hq
      have k3 := kd3
      have l3 := ln3
      simp only [Int.toNat_natCast]
      by_cases ep : sv S p = []
      · rw [if_pos (Or.inl ep)]
        simp (disch := omega) only [s104_0, s104_1, s104_4, s104_7, s104_8, s104_11, s104_14, s104_16, s104_17, s104_18, s104_19, s104_22, s104_25, s104_26, s104_27, s104_30, s104_33, s104_35, s104_36, s104_37, s104_40, s104_41, s104_44, s104_45, s104_46, s104_49, s104_52, s104_54, s104_55, s104_56, s104_59, s104_60, s104_63, s104_66, s104_69, s104_70, s104_73, s104_74, s104_77, s104_78, s104_79, s104_82, s104_85, s104_87, s104_88, s104_89, s104_92, s104_93, s104_96, s104_99, s104_102, s104_105, s104_106, s104_109, s104_110, List.cons_append, List.nil_append, if_true, if_false, true_and, and_true, and_self, eq_self, true_or, or_true, false_or, or_false, tIn, tLe, fLe, tLt, fLt, tEq, fEq, isL, c113, c111 hp hk, vp, ep]
        exact ⟨hR, fun _ _ => rfl⟩
      by_cases eq : sv S q = []
      · rw [if_pos (Or.inr eq)]
        simp (disch := omega) only [s104_0, s104_1, s104_4, s104_7, s104_8, s104_11, s104_14, s104_16, s104_17, s104_18, s104_19, s104_22, s104_25, s104_26, s104_27, s104_30, s104_33, s104_35, s104_36, s104_37, s104_40, s104_41, s104_44, s104_45, s104_46, s104_49, s104_52, s104_54, s104_55, s104_56, s104_59, s104_60, s104_63, s104_66, s104_69, s104_70, s104_73, s104_74, s104_77, s104_78, s104_79, s104_82, s104_85, s104_87, s104_88, s104_89, s104_92, s104_93, s104_96, s104_99, s104_102, s104_105, s104_106, s104_109, s104_110, List.cons_append, List.nil_append, if_true, if_false, true_and, and_true, and_self, eq_self, true_or, or_true, false_or, or_false, tIn, tLe, fLe, tLt, fLt, tEq, fEq, isL, c113, c111 hp hk, c111 hq hk, vp, vq, ep, eq]
        exact ⟨hR, fun _ _ => rfl⟩
      rw [if_neg (by simp [ep, eq])]
      have wp := sh_wf op ep
      have wq := sh_wf oq eq
      generalize hQ : (fun (v : List AV) (σ' : aSg) => v = [.inl (skA (sv S p) (sv S q))] ∧ RepC σ' S ∧ FrC σ σ') = Q
      have c53 := cp53
      have fin : ∀ (σ1 : aSg), RK σ1 → (∀ a, a < 108 ∨ 129 < a → σ1 a = σ a) → rv σ1 123 = kwL (sv S p) → (kwL (sv S p)).length ≤ 200 → ¬ (hasK (sv S p) ∧ ¬ kB (sv S p)) → WP m104 55 [.inr (.inl 0), .inl (p : Int), .inl (q : Int)] [] σ1 Q := by
        intro σ1 k1 f1 w1 b1 nf
        rw [s104_55]
        simp (disch := omega) only [s104_0, s104_1, s104_4, s104_7, s104_8, s104_11, s104_14, s104_16, s104_17, s104_18, s104_19, s104_22, s104_25, s104_26, s104_27, s104_30, s104_33, s104_35, s104_36, s104_37, s104_40, s104_41, s104_44, s104_45, s104_46, s104_49, s104_52, s104_54, s104_55, s104_56, s104_59, s104_60, s104_63, s104_66, s104_69, s104_70, s104_73, s104_74, s104_77, s104_78, s104_79, s104_82, s104_85, s104_87, s104_88, s104_89, s104_92, s104_93, s104_96, s104_99, s104_102, s104_105, s104_106, s104_109, s104_110, List.cons_append, List.nil_append, if_true, if_false, true_and, and_true, and_self, eq_self, true_or, or_true, false_or, or_false, tIn, tLe, fLe, tLt, fLt, tEq, fEq, isL, c49, oS108, row53.1, row123.1]
        refine rbec_ok row53 row123 (by omega) k1 w1 (by omega) _ (fun σ2 k2 w2 f2 => ?_)
        have vq2 : rv σ2 (4 + 2 * q) = sv S q := by rw [FrW_rv f2 row53 rq (by omega), rv_same (f1 _ (by omega)) (f1 _ (by omega))]; exact vq
        have F2 : ∀ a, a < 53 ∨ 129 < a → σ2 a = σ a := fun a ha => (f2 a (by omega) (by omega)).trans (f1 a (by omega))
        simp (disch := omega) only [s104_0, s104_1, s104_4, s104_7, s104_8, s104_11, s104_14, s104_16, s104_17, s104_18, s104_19, s104_22, s104_25, s104_26, s104_27, s104_30, s104_33, s104_35, s104_36, s104_37, s104_40, s104_41, s104_44, s104_45, s104_46, s104_49, s104_52, s104_54, s104_55, s104_56, s104_59, s104_60, s104_63, s104_66, s104_69, s104_70, s104_73, s104_74, s104_77, s104_78, s104_79, s104_82, s104_85, s104_87, s104_88, s104_89, s104_92, s104_93, s104_96, s104_99, s104_102, s104_105, s104_106, s104_109, s104_110, List.cons_append, List.nil_append, if_true, if_false, true_and, and_true, and_self, eq_self, true_or, or_true, false_or, or_false, tIn, tLe, fLe, tLt, fLt, tEq, fEq, isL, k3, l3, Int.toNat_natCast, tq.1, tq.2, oS108]
        have end1 : ∀ (σ3 : aSg), RK σ3 → (∀ a, a < 108 ∨ 129 < a → σ3 a = σ2 a) → rv σ3 123 = kwL (sv S q) → ¬ (hasK (sv S q) ∧ ¬ kB (sv S q)) → WP m104 88 [.inr (.inl 0), .inl (p : Int), .inl (q : Int)] [] σ3 Q := by
          intro σ3 k3' f3 w3 nf2
          have w53 : rv σ3 53 = kwL (sv S p) := by rw [rv_same (f3 53 (by omega)) (f3 54 (by omega))]; exact w2
          have rc : RepC σ3 S := hR.keep k3' (fun a ha => by rw [f3 a (by omega)]; exact F2 a (by omega))
          have rf : FrC σ σ3 := fun a ha => by rw [f3 a (by omega)]; exact F2 a (by omega)
          rw [s104_88]
          by_cases e : kwL (sv S p) = kwL (sv S q)
          · have cc := fun K => c41 (K := K) row53 row123 k3'
            rw [w53, w3] at cc
            simp only [if_pos e] at cc
            simp (disch := omega) only [s104_0, s104_1, s104_4, s104_7, s104_8, s104_11, s104_14, s104_16, s104_17, s104_18, s104_19, s104_22, s104_25, s104_26, s104_27, s104_30, s104_33, s104_35, s104_36, s104_37, s104_40, s104_41, s104_44, s104_45, s104_46, s104_49, s104_52, s104_54, s104_55, s104_56, s104_59, s104_60, s104_63, s104_66, s104_69, s104_70, s104_73, s104_74, s104_77, s104_78, s104_79, s104_82, s104_85, s104_87, s104_88, s104_89, s104_92, s104_93, s104_96, s104_99, s104_102, s104_105, s104_106, s104_109, s104_110, List.cons_append, List.nil_append, if_true, if_false, true_and, and_true, and_self, eq_self, true_or, or_true, false_or, or_false, tIn, tLe, fLe, tLt, fLt, tEq, fEq, isL, c49, oS108, row53.1, row123.1, cc]
            rw [← hQ]
            refine ⟨?_, rc, rf⟩
            unfold skA
            rw [iteC_f (fun z => z.elim nf nf2), if_pos e]
          · have cc := fun K => c41 (K := K) row53 row123 k3'
            rw [w53, w3] at cc
            simp only [if_neg e] at cc
            simp (disch := omega) only [s104_0, s104_1, s104_4, s104_7, s104_8, s104_11, s104_14, s104_16, s104_17, s104_18, s104_19, s104_22, s104_25, s104_26, s104_27, s104_30, s104_33, s104_35, s104_36, s104_37, s104_40, s104_41, s104_44, s104_45, s104_46, s104_49, s104_52, s104_54, s104_55, s104_56, s104_59, s104_60, s104_63, s104_66, s104_69, s104_70, s104_73, s104_74, s104_77, s104_78, s104_79, s104_82, s104_85, s104_87, s104_88, s104_89, s104_92, s104_93, s104_96, s104_99, s104_102, s104_105, s104_106, s104_109, s104_110, List.cons_append, List.nil_append, if_true, if_false, true_and, and_true, and_self, eq_self, true_or, or_true, false_or, or_false, tIn, tLe, fLe, tLt, fLt, tEq, fEq, isL, c49, oS108, row53.1, row123.1, cc]
            rw [← hQ]
            refine ⟨?_, rc, rf⟩
            unfold skA
            rw [iteC_f (fun z => z.elim nf nf2), if_neg e]
        refine wr51 k2 vq2 rq (by omega) wq.1 wq.2 lq _ (fun hno σ3 k3' f3 w3 => ?_) (fun hh hb σ3 k3' f3 w3 => ?_) (fun hh hb σ3 k3' f3 => ?_)
        · simp (disch := omega) only [s104_0, s104_1, s104_4, s104_7, s104_8, s104_11, s104_14, s104_16, s104_17, s104_18, s104_19, s104_22, s104_25, s104_26, s104_27, s104_30, s104_33, s104_35, s104_36, s104_37, s104_40, s104_41, s104_44, s104_45, s104_46, s104_49, s104_52, s104_54, s104_55, s104_56, s104_59, s104_60, s104_63, s104_66, s104_69, s104_70, s104_73, s104_74, s104_77, s104_78, s104_79, s104_82, s104_85, s104_87, s104_89, s104_92, s104_93, s104_96, s104_99, s104_102, s104_105, s104_106, s104_109, s104_110, List.cons_append, List.nil_append, if_true, if_false, true_and, and_true, and_self, eq_self, true_or, or_true, false_or, or_false, tIn, tLe, fLe, tLt, fLt, tEq, fEq, isL]
          exact end1 σ3 k3' f3 (by rw [w3]; unfold kwL; rw [iteC_f hno]) (fun z => hno z.1)
        · simp (disch := omega) only [s104_0, s104_1, s104_4, s104_7, s104_8, s104_11, s104_14, s104_16, s104_17, s104_18, s104_19, s104_22, s104_25, s104_26, s104_27, s104_30, s104_33, s104_35, s104_36, s104_37, s104_40, s104_41, s104_44, s104_45, s104_46, s104_49, s104_52, s104_54, s104_55, s104_56, s104_59, s104_60, s104_63, s104_66, s104_69, s104_70, s104_73, s104_74, s104_77, s104_78, s104_79, s104_82, s104_85, s104_87, s104_89, s104_92, s104_93, s104_96, s104_99, s104_102, s104_105, s104_106, s104_109, s104_110, List.cons_append, List.nil_append, if_true, if_false, true_and, and_true, and_self, eq_self, true_or, or_true, false_or, or_false, tIn, tLe, fLe, tLt, fLt, tEq, fEq, isL]
          exact end1 σ3 k3' f3 (by rw [w3]; unfold kwL; rw [iteC_t hh]) (fun z => z.2 hb)
        · simp (disch := omega) only [s104_0, s104_1, s104_4, s104_7, s104_8, s104_11, s104_14, s104_16, s104_17, s104_18, s104_19, s104_22, s104_25, s104_26, s104_27, s104_30, s104_33, s104_35, s104_36, s104_37, s104_40, s104_41, s104_44, s104_45, s104_46, s104_49, s104_52, s104_54, s104_55, s104_56, s104_59, s104_60, s104_63, s104_66, s104_69, s104_70, s104_73, s104_74, s104_77, s104_78, s104_79, s104_82, s104_85, s104_87, s104_89, s104_92, s104_93, s104_96, s104_99, s104_102, s104_105, s104_106, s104_109, s104_110, List.cons_append, List.nil_append, if_true, if_false, true_and, and_true, and_self, eq_self, true_or, or_true, false_or, or_false, tIn, tLe, fLe, tLt, fLt, tEq, fEq, isL]
          rw [← hQ]
          refine ⟨?_, hR.keep k3' (fun a ha => by rw [f3 a (by omega)]; exact F2 a (by omega)), fun a ha => by rw [f3 a (by omega)]; exact F2 a (by omega)⟩
          unfold skA
          rw [iteC_t (Or.inr ⟨hh, hb⟩)]
      simp (disch := omega) only [s104_0, s104_1, s104_4, s104_7, s104_8, s104_11, s104_14, s104_16, s104_17, s104_18, s104_19, s104_22, s104_25, s104_26, s104_27, s104_30, s104_33, s104_35, s104_36, s104_37, s104_40, s104_41, s104_44, s104_45, s104_46, s104_49, s104_52, s104_54, s104_56, s104_59, s104_60, s104_63, s104_66, s104_69, s104_70, s104_73, s104_74, s104_77, s104_78, s104_79, s104_82, s104_85, s104_87, s104_88, s104_89, s104_92, s104_93, s104_96, s104_99, s104_102, s104_105, s104_106, s104_109, s104_110, List.cons_append, List.nil_append, if_true, if_false, true_and, and_true, and_self, eq_self, true_or, or_true, false_or, or_false, tIn, tLe, fLe, tLt, fLt, tEq, fEq, isL, c113, c111 hp hk, c111 hq hk, vp, vq, ep, eq, k3, l3, Int.toNat_natCast, tp.1, tp.2, oS108]
      refine wr51 hk vp rp (by omega) wp.1 wp.2 lp _ (fun hno σ1 k1 f1 w1 => ?_) (fun hh hb σ1 k1 f1 w1 => ?_) (fun hh hb σ1 k1 f1 => ?_)
      · simp (disch := omega) only [s104_0, s104_1, s104_4, s104_7, s104_8, s104_11, s104_14, s104_16, s104_17, s104_18, s104_19, s104_22, s104_25, s104_26, s104_27, s104_30, s104_33, s104_35, s104_36, s104_37, s104_40, s104_41, s104_44, s104_45, s104_46, s104_49, s104_52, s104_54, s104_56, s104_59, s104_60, s104_63, s104_66, s104_69, s104_70, s104_73, s104_74, s104_77, s104_78, s104_79, s104_82, s104_85, s104_87, s104_88, s104_89, s104_92, s104_93, s104_96, s104_99, s104_102, s104_105, s104_106, s104_109, s104_110, List.cons_append, List.nil_append, if_true, if_false, true_and, and_true, and_self, eq_self, true_or, or_true, false_or, or_false, tIn, tLe, fLe, tLt, fLt, tEq, fEq, isL]
        exact fin σ1 k1 f1 (by rw [w1]; unfold kwL; rw [iteC_f hno]) (by unfold kwL; rw [iteC_f hno]; simp) (fun z => hno z.1)
      · simp (disch := omega) only [s104_0, s104_1, s104_4, s104_7, s104_8, s104_11, s104_14, s104_16, s104_17, s104_18, s104_19, s104_22, s104_25, s104_26, s104_27, s104_30, s104_33, s104_35, s104_36, s104_37, s104_40, s104_41, s104_44, s104_45, s104_46, s104_49, s104_52, s104_54, s104_56, s104_59, s104_60, s104_63, s104_66, s104_69, s104_70, s104_73, s104_74, s104_77, s104_78, s104_79, s104_82, s104_85, s104_87, s104_88, s104_89, s104_92, s104_93, s104_96, s104_99, s104_102, s104_105, s104_106, s104_109, s104_110, List.cons_append, List.nil_append, if_true, if_false, true_and, and_true, and_self, eq_self, true_or, or_true, false_or, or_false, tIn, tLe, fLe, tLt, fLt, tEq, fEq, isL]
        exact fin σ1 k1 f1 (by rw [w1]; unfold kwL; rw [iteC_t hh]) (by unfold kwL; rw [iteC_t hh]; exact hb.1) (fun z => z.2 hb)
      · simp (disch := omega) only [s104_0, s104_1, s104_4, s104_7, s104_8, s104_11, s104_14, s104_16, s104_17, s104_18, s104_19, s104_22, s104_25, s104_26, s104_27, s104_30, s104_33, s104_35, s104_36, s104_37, s104_40, s104_41, s104_44, s104_45, s104_46, s104_49, s104_52, s104_54, s104_56, s104_59, s104_60, s104_63, s104_66, s104_69, s104_70, s104_73, s104_74, s104_77, s104_78, s104_79, s104_82, s104_85, s104_87, s104_88, s104_89, s104_92, s104_93, s104_96, s104_99, s104_102, s104_105, s104_106, s104_109, s104_110, List.cons_append, List.nil_append, if_true, if_false, true_and, and_true, and_self, eq_self, true_or, or_true, false_or, or_false, tIn, tLe, fLe, tLt, fLt, tEq, fEq, isL]
        rw [← hQ]
        refine ⟨?_, hR.keep k1 (fun a ha => f1 a (by omega)), fun a ha => f1 a (by omega)⟩
        unfold skA
        rw [iteC_t (Or.inl ⟨hh, hb⟩)]
    · rw [if_pos (fun q => hy q.2)]
      simp (disch := omega) only [s104_0, s104_1, s104_4, s104_7, s104_8, s104_11, s104_14, s104_16, s104_17, s104_18, s104_19, s104_22, s104_25, s104_26, s104_27, s104_30, s104_33, s104_35, s104_36, s104_37, s104_40, s104_41, s104_44, s104_45, s104_46, s104_49, s104_52, s104_54, s104_55, s104_56, s104_59, s104_60, s104_63, s104_66, s104_69, s104_70, s104_73, s104_74, s104_77, s104_78, s104_79, s104_82, s104_85, s104_87, s104_88, s104_89, s104_92, s104_93, s104_96, s104_99, s104_102, s104_105, s104_106, s104_109, s104_110, List.cons_append, List.nil_append, if_true, if_false, true_and, and_true, and_self, eq_self, true_or, or_true, false_or, or_false, tIn, tLe, fLe, tLt, fLt, tEq, fEq, isL, c113, hx, hy]
      exact ⟨hR, fun _ _ => rfl⟩
  · rw [if_pos (fun q => hx q.1)]
    simp (disch := omega) only [s104_0, s104_1, s104_4, s104_7, s104_8, s104_11, s104_14, s104_16, s104_17, s104_18, s104_19, s104_22, s104_25, s104_26, s104_27, s104_30, s104_33, s104_35, s104_36, s104_37, s104_40, s104_41, s104_44, s104_45, s104_46, s104_49, s104_52, s104_54, s104_55, s104_56, s104_59, s104_60, s104_63, s104_66, s104_69, s104_70, s104_73, s104_74, s104_77, s104_78, s104_79, s104_82, s104_85, s104_87, s104_88, s104_89, s104_92, s104_93, s104_96, s104_99, s104_102, s104_105, s104_106, s104_109, s104_110, List.cons_append, List.nil_append, if_true, if_false, true_and, and_true, and_self, eq_self, true_or, or_true, false_or, or_false, tIn, tLe, fLe, tLt, fLt, tEq, fEq, isL, c113, hx]
    exact ⟨hR, fun _ _ => rfl⟩
theorem c120 (h : isRow r) (hk : RK σ) (hl : rv σ r = T) : CA m120 [.inr (.inl r)] σ K = K [.inl (if T = [] then -1 else (T.length : Int))] σ := by
  rw [e120]
  cases T with
  | nil =>
    simp (disch := omega) only [s120_0, s120_1, s120_4, s120_7, s120_8, s120_11, s120_12, s120_15, List.cons_append, List.nil_append, if_true, if_false, true_and, and_true, and_self, eq_self, true_or, or_true, false_or, or_false, tIn, tLe, fLe, tLt, fLt, tEq, fEq, isL, h.1, c28 h hk, hl, List.length_nil, Int.natCast_zero]
  | cons c T =>
    have e : (((c :: T).length : Nat) : Int) = (T.length : Int) + 1 := by simp
    rw [if_neg (by simp)]
    simp (disch := omega) only [s120_0, s120_1, s120_4, s120_7, s120_8, s120_11, s120_12, s120_15, List.cons_append, List.nil_append, if_true, if_false, true_and, and_true, and_self, eq_self, true_or, or_true, false_or, or_false, tIn, tLe, fLe, tLt, fLt, tEq, fEq, isL, h.1, c28 h hk, hl, e]
theorem k99 (hR : RepC σ S) : CC m99 [.inr (.inl 0), .inl x, .inl w] σ (f99 S x w).1 (f99 S x w).2 := by
  unfold CC
  rw [e99]
  unfold f99
  have hk := hR.1
  by_cases hx : 0 ≤ x ∧ x < 4
  · rw [if_neg (fun q => q hx)]
    obtain ⟨p, rfl⟩ := Int.eq_ofNat_of_zero_le hx.1
    have hp : p < 4 := by omega
    have vp := hR.2.2.2.1 p hp
    have op := hR.2.1.2.2.1 p hp
    have lp := sh_len op
    have rp := rowS hp
    have tp := ptS p hp
    have k3 := kd3
    have l3 := ln3
    simp only [Int.toNat_natCast]
    by_cases hi : 0 ≤ w ∧ w ≤ 11
    · rw [if_neg (fun q => q hi)]
      by_cases ep : sv S p = []
      · rw [if_pos ep]
        simp (disch := omega) only [s99_0, s99_1, s99_4, s99_7, s99_9, s99_10, s99_11, s99_14, s99_15, s99_17, s99_20, s99_22, s99_23, s99_24, s99_25, s99_28, s99_31, s99_33, s99_34, s99_35, s99_38, s99_39, s99_40, s99_41, s99_42, s99_104, s99_105, s99_108, s99_109, s99_110, s99_113, s99_114, s99_117, s99_118, s99_119, s99_122, s99_123, s99_124, s99_127, s99_128, s99_131, s99_132, s99_135, s99_138, s99_141, s99_142, s99_143, s99_146, s99_147, s99_150, s99_151, s99_152, s99_155, s99_156, s99_159, s99_162, s99_163, s99_166, s99_167, s99_168, s99_169, s99_172, s99_173, s99_176, s99_179, s99_180, s99_183, s99_186, s99_189, s99_192, s99_194, s99_195, s99_196, s99_197, s99_198, s99_199, s99_202, s99_205, List.cons_append, List.nil_append, if_true, if_false, true_and, and_true, and_self, eq_self, true_or, or_true, false_or, or_false, tIn, tLe, fLe, tLt, fLt, tEq, fEq, isL, c113, c111 hp hk, vp, ep]
        exact ⟨hR, fun _ _ => rfl⟩
      · rw [if_neg ep]
        have wf := sh_wf op ep
        have hu : AtT (sv S p) 0 (trA (sv S p) 0) := by
          obtain ⟨u, hu⟩ := At_ex wf.1 (isT_pos wf.1)
          rw [trA_eq hu]; exact hu
        generalize hQ : (fun (v : List AV) (σ' : aSg) => v = [.inl (ofA (sv S p) w)] ∧ RepC σ' S ∧ FrC σ σ') = Q
        unfold ofA at hQ
        have oS60 : isO 60 6 := sp60.1
        have oS98 : isO 98 4 := isO_dec (by decide +kernel)
        by_cases w0 : w = 0
        · simp only [if_pos w0] at hQ
          simp (disch := omega) only [s99_0, s99_1, s99_4, s99_7, s99_9, s99_10, s99_11, s99_14, s99_15, s99_17, s99_20, s99_22, s99_23, s99_24, s99_25, s99_28, s99_31, s99_33, s99_34, s99_35, s99_38, s99_39, s99_40, s99_41, s99_42, s99_104, s99_105, s99_108, s99_109, s99_110, s99_113, s99_114, s99_117, s99_118, s99_119, s99_122, s99_123, s99_124, s99_127, s99_128, s99_131, s99_132, s99_135, s99_138, s99_141, s99_142, s99_143, s99_146, s99_147, s99_150, s99_151, s99_152, s99_155, s99_156, s99_159, s99_162, s99_163, s99_166, s99_167, s99_168, s99_169, s99_172, s99_173, s99_176, s99_179, s99_180, s99_183, s99_186, s99_189, s99_192, s99_194, s99_195, s99_196, s99_197, s99_198, s99_199, s99_202, s99_205, List.cons_append, List.nil_append, if_true, if_false, true_and, and_true, and_self, eq_self, true_or, or_true, false_or, or_false, tIn, tLe, fLe, tLt, fLt, tEq, fEq, isL, c113, c111 hp hk, vp, ep, k3, l3, Int.toNat_natCast, tp.1, tp.2, rp.1, c28 rp hk]
          rw [← hQ]
          exact ⟨rfl, hR, fun _ _ => rfl⟩
        simp only [if_neg w0] at hQ
        by_cases w1 : w = 1
        · simp only [if_pos w1] at hQ
          simp (disch := omega) only [s99_0, s99_1, s99_4, s99_7, s99_9, s99_10, s99_11, s99_14, s99_15, s99_17, s99_20, s99_22, s99_23, s99_24, s99_25, s99_28, s99_31, s99_33, s99_34, s99_35, s99_38, s99_39, s99_40, s99_41, s99_42, s99_104, s99_105, s99_108, s99_109, s99_110, s99_113, s99_114, s99_117, s99_118, s99_119, s99_122, s99_123, s99_124, s99_127, s99_128, s99_131, s99_132, s99_135, s99_138, s99_141, s99_142, s99_143, s99_146, s99_147, s99_150, s99_151, s99_152, s99_155, s99_156, s99_159, s99_162, s99_163, s99_166, s99_167, s99_168, s99_169, s99_172, s99_173, s99_176, s99_179, s99_180, s99_183, s99_186, s99_189, s99_192, s99_194, s99_195, s99_196, s99_197, s99_198, s99_199, s99_202, s99_205, List.cons_append, List.nil_append, if_true, if_false, true_and, and_true, and_self, eq_self, true_or, or_true, false_or, or_false, tIn, tLe, fLe, tLt, fLt, tEq, fEq, isL, c113, c111 hp hk, vp, ep, k3, l3, Int.toNat_natCast, tp.1, tp.2, rp.1, oS60]
          refine wr69 rp (by omega) hk vp wf.1 wf.2 lp hu _ (fun σ1 k1 f1 => ?_)
          simp (disch := omega) only [s99_0, s99_1, s99_4, s99_7, s99_9, s99_10, s99_11, s99_14, s99_15, s99_17, s99_20, s99_22, s99_23, s99_24, s99_25, s99_28, s99_31, s99_33, s99_34, s99_35, s99_38, s99_39, s99_40, s99_41, s99_42, s99_104, s99_105, s99_108, s99_109, s99_110, s99_113, s99_114, s99_117, s99_118, s99_119, s99_122, s99_123, s99_124, s99_127, s99_128, s99_131, s99_132, s99_135, s99_138, s99_141, s99_142, s99_143, s99_146, s99_147, s99_150, s99_151, s99_152, s99_155, s99_156, s99_159, s99_162, s99_163, s99_166, s99_167, s99_168, s99_169, s99_172, s99_173, s99_176, s99_179, s99_180, s99_183, s99_186, s99_189, s99_192, s99_194, s99_195, s99_196, s99_197, s99_198, s99_199, s99_202, s99_205, List.cons_append, List.nil_append, if_true, if_false, true_and, and_true, and_self, eq_self, true_or, or_true, false_or, or_false, tIn, tLe, fLe, tLt, fLt, tEq, fEq, isL]
          rw [← hQ]
          exact ⟨rfl, hR.keep k1 (fun a ha => f1 a (by omega)), fun a ha => f1 a (by omega)⟩
        simp only [if_neg w1] at hQ
        by_cases w2 : w = 2
        · simp only [if_pos w2] at hQ
          have cc := fun K => c121 (K := K) rp hk (by rw [vp]; omega)
          rw [vp] at cc
          simp (disch := omega) only [s99_0, s99_1, s99_4, s99_7, s99_9, s99_10, s99_11, s99_14, s99_15, s99_17, s99_20, s99_22, s99_23, s99_24, s99_25, s99_28, s99_31, s99_33, s99_34, s99_35, s99_38, s99_39, s99_40, s99_41, s99_42, s99_104, s99_105, s99_108, s99_109, s99_110, s99_113, s99_114, s99_117, s99_118, s99_119, s99_122, s99_123, s99_124, s99_127, s99_128, s99_131, s99_132, s99_135, s99_138, s99_141, s99_142, s99_143, s99_146, s99_147, s99_150, s99_151, s99_152, s99_155, s99_156, s99_159, s99_162, s99_163, s99_166, s99_167, s99_168, s99_169, s99_172, s99_173, s99_176, s99_179, s99_180, s99_183, s99_186, s99_189, s99_192, s99_194, s99_195, s99_196, s99_197, s99_198, s99_199, s99_202, s99_205, List.cons_append, List.nil_append, if_true, if_false, true_and, and_true, and_self, eq_self, true_or, or_true, false_or, or_false, tIn, tLe, fLe, tLt, fLt, tEq, fEq, isL, c113, c111 hp hk, vp, ep, k3, l3, Int.toNat_natCast, tp.1, tp.2, rp.1, cc]
          rw [← hQ]
          exact ⟨rfl, hR, fun _ _ => rfl⟩
        simp only [if_neg w2] at hQ
        by_cases w8 : w = 8
        · simp only [if_pos w8] at hQ
          simp (disch := omega) only [s99_0, s99_1, s99_4, s99_7, s99_9, s99_10, s99_11, s99_14, s99_15, s99_17, s99_20, s99_22, s99_23, s99_24, s99_25, s99_28, s99_31, s99_33, s99_34, s99_35, s99_38, s99_39, s99_40, s99_41, s99_42, s99_104, s99_105, s99_108, s99_109, s99_110, s99_113, s99_114, s99_117, s99_118, s99_119, s99_122, s99_123, s99_124, s99_127, s99_128, s99_131, s99_132, s99_135, s99_138, s99_141, s99_142, s99_143, s99_146, s99_147, s99_150, s99_151, s99_152, s99_155, s99_156, s99_159, s99_162, s99_163, s99_166, s99_167, s99_168, s99_169, s99_172, s99_173, s99_176, s99_179, s99_180, s99_183, s99_186, s99_189, s99_192, s99_194, s99_195, s99_196, s99_197, s99_198, s99_199, s99_202, s99_205, List.cons_append, List.nil_append, if_true, if_false, true_and, and_true, and_self, eq_self, true_or, or_true, false_or, or_false, tIn, tLe, fLe, tLt, fLt, tEq, fEq, isL, c113, c111 hp hk, vp, ep, k3, l3, Int.toNat_natCast, tp.1, tp.2, rp.1, oS98]
          refine wr45 rp (by omega) hk vp wf.1 wf.2 lp _ (fun σ1 k1 v1 f1 => ?_)
          simp (disch := omega) only [s99_0, s99_1, s99_4, s99_7, s99_9, s99_10, s99_11, s99_14, s99_15, s99_17, s99_20, s99_22, s99_23, s99_24, s99_25, s99_28, s99_31, s99_33, s99_34, s99_35, s99_38, s99_39, s99_40, s99_41, s99_42, s99_104, s99_105, s99_108, s99_109, s99_110, s99_113, s99_114, s99_117, s99_118, s99_119, s99_122, s99_123, s99_124, s99_127, s99_128, s99_131, s99_132, s99_135, s99_138, s99_141, s99_142, s99_143, s99_146, s99_147, s99_150, s99_151, s99_152, s99_155, s99_156, s99_159, s99_162, s99_163, s99_166, s99_167, s99_168, s99_169, s99_172, s99_173, s99_176, s99_179, s99_180, s99_183, s99_186, s99_189, s99_192, s99_194, s99_195, s99_196, s99_197, s99_198, s99_199, s99_202, s99_205, List.cons_append, List.nil_append, if_true, if_false, true_and, and_true, and_self, eq_self, true_or, or_true, false_or, or_false, tIn, tLe, fLe, tLt, fLt, tEq, fEq, isL, c44, oS98, row104.1, c28 row104 k1, v1]
          rw [← hQ]
          exact ⟨rfl, hR.keep k1 (fun a ha => f1 a (by omega)), fun a ha => f1 a (by omega)⟩
        simp only [if_neg w8] at hQ
        by_cases w9 : w = 9
        · simp only [if_pos w9] at hQ
          simp (disch := omega) only [s99_0, s99_1, s99_4, s99_7, s99_9, s99_10, s99_11, s99_14, s99_15, s99_17, s99_20, s99_22, s99_23, s99_24, s99_25, s99_28, s99_31, s99_33, s99_34, s99_35, s99_38, s99_39, s99_40, s99_41, s99_42, s99_104, s99_105, s99_108, s99_109, s99_110, s99_113, s99_114, s99_117, s99_118, s99_119, s99_122, s99_123, s99_124, s99_127, s99_128, s99_131, s99_132, s99_135, s99_138, s99_141, s99_142, s99_143, s99_146, s99_147, s99_150, s99_151, s99_152, s99_155, s99_156, s99_159, s99_162, s99_163, s99_166, s99_167, s99_168, s99_169, s99_172, s99_173, s99_176, s99_179, s99_180, s99_183, s99_186, s99_189, s99_192, s99_194, s99_195, s99_196, s99_197, s99_198, s99_199, s99_202, s99_205, List.cons_append, List.nil_append, if_true, if_false, true_and, and_true, and_self, eq_self, true_or, or_true, false_or, or_false, tIn, tLe, fLe, tLt, fLt, tEq, fEq, isL, c113, c111 hp hk, vp, ep, k3, l3, Int.toNat_natCast, tp.1, tp.2, rp.1, oS60]
          refine wr71 rp (by omega) hk vp wf.1 wf.2 lp hu _ (fun σ1 k1 f1 => ?_)
          simp (disch := omega) only [s99_0, s99_1, s99_4, s99_7, s99_9, s99_10, s99_11, s99_14, s99_15, s99_17, s99_20, s99_22, s99_23, s99_24, s99_25, s99_28, s99_31, s99_33, s99_34, s99_35, s99_38, s99_39, s99_40, s99_41, s99_42, s99_104, s99_105, s99_108, s99_109, s99_110, s99_113, s99_114, s99_117, s99_118, s99_119, s99_122, s99_123, s99_124, s99_127, s99_128, s99_131, s99_132, s99_135, s99_138, s99_141, s99_142, s99_143, s99_146, s99_147, s99_150, s99_151, s99_152, s99_155, s99_156, s99_159, s99_162, s99_163, s99_166, s99_167, s99_168, s99_169, s99_172, s99_173, s99_176, s99_179, s99_180, s99_183, s99_186, s99_189, s99_192, s99_194, s99_195, s99_196, s99_197, s99_198, s99_199, s99_202, s99_205, List.cons_append, List.nil_append, if_true, if_false, true_and, and_true, and_self, eq_self, true_or, or_true, false_or, or_false, tIn, tLe, fLe, tLt, fLt, tEq, fEq, isL]
          rw [← hQ]
          exact ⟨rfl, hR.keep k1 (fun a ha => f1 a (by omega)), fun a ha => f1 a (by omega)⟩
        simp only [if_neg w9] at hQ
        by_cases wa : w = 10
        · simp only [if_pos wa] at hQ
          simp (disch := omega) only [s99_0, s99_1, s99_4, s99_7, s99_9, s99_10, s99_11, s99_14, s99_15, s99_17, s99_20, s99_22, s99_23, s99_24, s99_25, s99_28, s99_31, s99_33, s99_34, s99_35, s99_38, s99_39, s99_40, s99_41, s99_42, s99_104, s99_105, s99_108, s99_109, s99_110, s99_113, s99_114, s99_117, s99_118, s99_119, s99_122, s99_123, s99_124, s99_127, s99_128, s99_131, s99_132, s99_135, s99_138, s99_141, s99_142, s99_143, s99_146, s99_147, s99_150, s99_151, s99_152, s99_155, s99_156, s99_159, s99_162, s99_163, s99_166, s99_167, s99_168, s99_169, s99_172, s99_173, s99_176, s99_179, s99_180, s99_183, s99_186, s99_189, s99_192, s99_194, s99_195, s99_196, s99_197, s99_198, s99_199, s99_202, s99_205, List.cons_append, List.nil_append, if_true, if_false, true_and, and_true, and_self, eq_self, true_or, or_true, false_or, or_false, tIn, tLe, fLe, tLt, fLt, tEq, fEq, isL, c113, c111 hp hk, vp, ep, k3, l3, Int.toNat_natCast, tp.1, tp.2, rp.1, oS108]
          refine wr50 hk vp rp (by omega) wf.1 wf.2 lp _ (fun hno σ1 k1 f1 => ?_) (fun σ1 n fr to o ρ V κ k1 _ _ _ _ _ _ _ _ hp _ f1 => ?_)
          · simp (disch := omega) only [s99_0, s99_1, s99_4, s99_7, s99_9, s99_10, s99_11, s99_14, s99_15, s99_17, s99_20, s99_22, s99_23, s99_24, s99_25, s99_28, s99_31, s99_33, s99_34, s99_35, s99_38, s99_39, s99_40, s99_41, s99_42, s99_104, s99_105, s99_108, s99_109, s99_110, s99_113, s99_114, s99_117, s99_118, s99_119, s99_122, s99_123, s99_124, s99_127, s99_128, s99_131, s99_132, s99_135, s99_138, s99_141, s99_142, s99_143, s99_146, s99_147, s99_150, s99_151, s99_152, s99_155, s99_156, s99_159, s99_162, s99_163, s99_166, s99_167, s99_168, s99_169, s99_172, s99_173, s99_176, s99_179, s99_180, s99_183, s99_186, s99_189, s99_192, s99_194, s99_195, s99_196, s99_197, s99_198, s99_199, s99_202, s99_205, List.cons_append, List.nil_append, if_true, if_false, true_and, and_true, and_self, eq_self, true_or, or_true, false_or, or_false, tIn, tLe, fLe, tLt, fLt, tEq, fEq, isL]
            rw [← hQ, iteC_f hno]
            exact ⟨rfl, hR.keep k1 (fun a ha => f1 a (by omega)), fun a ha => f1 a (by omega)⟩
          · have hh : hasK (sv S p) := by obtain ⟨⟨β, γ, d⟩, -⟩ := hp; exact ⟨β, γ, _, d⟩
            simp (disch := omega) only [s99_0, s99_1, s99_4, s99_7, s99_9, s99_10, s99_11, s99_14, s99_15, s99_17, s99_20, s99_22, s99_23, s99_24, s99_25, s99_28, s99_31, s99_33, s99_34, s99_35, s99_38, s99_39, s99_40, s99_41, s99_42, s99_104, s99_105, s99_108, s99_109, s99_110, s99_113, s99_114, s99_117, s99_118, s99_119, s99_122, s99_123, s99_124, s99_127, s99_128, s99_131, s99_132, s99_135, s99_138, s99_141, s99_142, s99_143, s99_146, s99_147, s99_150, s99_151, s99_152, s99_155, s99_156, s99_159, s99_162, s99_163, s99_166, s99_167, s99_168, s99_169, s99_172, s99_173, s99_176, s99_179, s99_180, s99_183, s99_186, s99_189, s99_192, s99_194, s99_195, s99_196, s99_197, s99_198, s99_199, s99_202, s99_205, List.cons_append, List.nil_append, if_true, if_false, true_and, and_true, and_self, eq_self, true_or, or_true, false_or, or_false, tIn, tLe, fLe, tLt, fLt, tEq, fEq, isL]
            rw [← hQ, iteC_t hh]
            exact ⟨rfl, hR.keep k1 (fun a ha => f1 a (by omega)), fun a ha => f1 a (by omega)⟩
        simp only [if_neg wa] at hQ
        by_cases wb : w = 11
        · simp only [if_pos wb] at hQ
          simp (disch := omega) only [s99_0, s99_1, s99_4, s99_7, s99_9, s99_10, s99_11, s99_14, s99_15, s99_17, s99_20, s99_22, s99_23, s99_24, s99_25, s99_28, s99_31, s99_33, s99_34, s99_35, s99_38, s99_39, s99_40, s99_41, s99_42, s99_104, s99_105, s99_108, s99_109, s99_110, s99_113, s99_114, s99_117, s99_118, s99_119, s99_122, s99_123, s99_124, s99_127, s99_128, s99_131, s99_132, s99_135, s99_138, s99_141, s99_142, s99_143, s99_146, s99_147, s99_150, s99_151, s99_152, s99_155, s99_156, s99_159, s99_162, s99_163, s99_166, s99_167, s99_168, s99_169, s99_172, s99_173, s99_176, s99_179, s99_180, s99_183, s99_186, s99_189, s99_192, s99_194, s99_195, s99_196, s99_197, s99_198, s99_199, s99_202, s99_205, List.cons_append, List.nil_append, if_true, if_false, true_and, and_true, and_self, eq_self, true_or, or_true, false_or, or_false, tIn, tLe, fLe, tLt, fLt, tEq, fEq, isL, c113, c111 hp hk, vp, ep, k3, l3, Int.toNat_natCast, tp.1, tp.2, rp.1, oS108]
          unfold knA at hQ
          refine wr51 hk vp rp (by omega) wf.1 wf.2 lp _ (fun hno σ1 k1 f1 w1 => ?_) (fun hh hb σ1 k1 f1 w1 => ?_) (fun hh hb σ1 k1 f1 => ?_)
          · have cc := fun K => c120 (K := K) row123 k1 w1
            simp (disch := omega) only [s99_0, s99_1, s99_4, s99_7, s99_9, s99_10, s99_11, s99_14, s99_15, s99_17, s99_20, s99_22, s99_23, s99_24, s99_25, s99_28, s99_31, s99_33, s99_34, s99_35, s99_38, s99_39, s99_40, s99_41, s99_42, s99_104, s99_105, s99_108, s99_109, s99_110, s99_113, s99_114, s99_117, s99_118, s99_119, s99_122, s99_123, s99_124, s99_127, s99_128, s99_131, s99_132, s99_135, s99_138, s99_141, s99_142, s99_143, s99_146, s99_147, s99_150, s99_151, s99_152, s99_155, s99_156, s99_159, s99_162, s99_163, s99_166, s99_167, s99_168, s99_169, s99_172, s99_173, s99_176, s99_179, s99_180, s99_183, s99_186, s99_189, s99_192, s99_194, s99_195, s99_196, s99_197, s99_198, s99_199, s99_202, s99_205, List.cons_append, List.nil_append, if_true, if_false, true_and, and_true, and_self, eq_self, true_or, or_true, false_or, or_false, tIn, tLe, fLe, tLt, fLt, tEq, fEq, isL, c49, oS108, cc]
            rw [← hQ, iteC_f hno]
            exact ⟨rfl, hR.keep k1 (fun a ha => f1 a (by omega)), fun a ha => f1 a (by omega)⟩
          · have cc := fun K => c120 (K := K) row123 k1 w1
            simp only [if_neg kW_ne] at cc
            simp (disch := omega) only [s99_0, s99_1, s99_4, s99_7, s99_9, s99_10, s99_11, s99_14, s99_15, s99_17, s99_20, s99_22, s99_23, s99_24, s99_25, s99_28, s99_31, s99_33, s99_34, s99_35, s99_38, s99_39, s99_40, s99_41, s99_42, s99_104, s99_105, s99_108, s99_109, s99_110, s99_113, s99_114, s99_117, s99_118, s99_119, s99_122, s99_123, s99_124, s99_127, s99_128, s99_131, s99_132, s99_135, s99_138, s99_141, s99_142, s99_143, s99_146, s99_147, s99_150, s99_151, s99_152, s99_155, s99_156, s99_159, s99_162, s99_163, s99_166, s99_167, s99_168, s99_169, s99_172, s99_173, s99_176, s99_179, s99_180, s99_183, s99_186, s99_189, s99_192, s99_194, s99_195, s99_196, s99_197, s99_198, s99_199, s99_202, s99_205, List.cons_append, List.nil_append, if_true, if_false, true_and, and_true, and_self, eq_self, true_or, or_true, false_or, or_false, tIn, tLe, fLe, tLt, fLt, tEq, fEq, isL, c49, oS108, cc]
            rw [← hQ, iteC_t hh, iteC_t hb]
            exact ⟨rfl, hR.keep k1 (fun a ha => f1 a (by omega)), fun a ha => f1 a (by omega)⟩
          · simp (disch := omega) only [s99_0, s99_1, s99_4, s99_7, s99_9, s99_10, s99_11, s99_14, s99_15, s99_17, s99_20, s99_22, s99_23, s99_24, s99_25, s99_28, s99_31, s99_33, s99_34, s99_35, s99_38, s99_39, s99_40, s99_41, s99_42, s99_104, s99_105, s99_108, s99_109, s99_110, s99_113, s99_114, s99_117, s99_118, s99_119, s99_122, s99_123, s99_124, s99_127, s99_128, s99_131, s99_132, s99_135, s99_138, s99_141, s99_142, s99_143, s99_146, s99_147, s99_150, s99_151, s99_152, s99_155, s99_156, s99_159, s99_162, s99_163, s99_166, s99_167, s99_168, s99_169, s99_172, s99_173, s99_176, s99_179, s99_180, s99_183, s99_186, s99_189, s99_192, s99_194, s99_195, s99_196, s99_197, s99_198, s99_199, s99_202, s99_205, List.cons_append, List.nil_append, if_true, if_false, true_and, and_true, and_self, eq_self, true_or, or_true, false_or, or_false, tIn, tLe, fLe, tLt, fLt, tEq, fEq, isL]
            rw [← hQ, iteC_t hh, iteC_f hb]
            exact ⟨rfl, hR.keep k1 (fun a ha => f1 a (by omega)), fun a ha => f1 a (by omega)⟩
        simp only [if_neg wb] at hQ
        have cc := fun K => c42 (K := K) (x := signF (w - 3)) rp hk
        rw [vp] at cc
        simp (disch := omega) only [s99_0, s99_1, s99_4, s99_7, s99_9, s99_10, s99_11, s99_14, s99_15, s99_17, s99_20, s99_22, s99_23, s99_24, s99_25, s99_28, s99_31, s99_33, s99_34, s99_35, s99_38, s99_39, s99_40, s99_41, s99_42, s99_104, s99_105, s99_108, s99_109, s99_110, s99_113, s99_114, s99_117, s99_118, s99_119, s99_122, s99_123, s99_124, s99_127, s99_128, s99_131, s99_132, s99_135, s99_138, s99_141, s99_142, s99_143, s99_146, s99_147, s99_150, s99_151, s99_152, s99_155, s99_156, s99_159, s99_162, s99_163, s99_166, s99_167, s99_168, s99_169, s99_172, s99_173, s99_176, s99_179, s99_180, s99_183, s99_186, s99_189, s99_192, s99_194, s99_195, s99_196, s99_197, s99_198, s99_199, s99_202, s99_205, List.cons_append, List.nil_append, if_true, if_false, true_and, and_true, and_self, eq_self, true_or, or_true, false_or, or_false, tIn, tLe, fLe, tLt, fLt, tEq, fEq, isL, c113, c111 hp hk, vp, ep, k3, l3, Int.toNat_natCast, tp.1, tp.2, rp.1, cc]
        rw [← hQ]
        exact ⟨rfl, hR, fun _ _ => rfl⟩
    · rw [if_pos hi]
      by_cases hi2 : w < 0
      · simp (disch := omega) only [s99_0, s99_1, s99_4, s99_7, s99_9, s99_10, s99_11, s99_14, s99_15, s99_17, s99_20, s99_22, s99_23, s99_24, s99_25, s99_28, s99_31, s99_33, s99_34, s99_35, s99_38, s99_39, s99_40, s99_41, s99_42, s99_104, s99_105, s99_108, s99_109, s99_110, s99_113, s99_114, s99_117, s99_118, s99_119, s99_122, s99_123, s99_124, s99_127, s99_128, s99_131, s99_132, s99_135, s99_138, s99_141, s99_142, s99_143, s99_146, s99_147, s99_150, s99_151, s99_152, s99_155, s99_156, s99_159, s99_162, s99_163, s99_166, s99_167, s99_168, s99_169, s99_172, s99_173, s99_176, s99_179, s99_180, s99_183, s99_186, s99_189, s99_192, s99_194, s99_195, s99_196, s99_197, s99_198, s99_199, s99_202, s99_205, List.cons_append, List.nil_append, if_true, if_false, true_and, and_true, and_self, eq_self, true_or, or_true, false_or, or_false, tIn, tLe, fLe, tLt, fLt, tEq, fEq, isL, c113]
        exact ⟨hR, fun _ _ => rfl⟩
      · simp (disch := omega) only [s99_0, s99_1, s99_4, s99_7, s99_9, s99_10, s99_11, s99_14, s99_15, s99_17, s99_20, s99_22, s99_23, s99_24, s99_25, s99_28, s99_31, s99_33, s99_34, s99_35, s99_38, s99_39, s99_40, s99_41, s99_42, s99_104, s99_105, s99_108, s99_109, s99_110, s99_113, s99_114, s99_117, s99_118, s99_119, s99_122, s99_123, s99_124, s99_127, s99_128, s99_131, s99_132, s99_135, s99_138, s99_141, s99_142, s99_143, s99_146, s99_147, s99_150, s99_151, s99_152, s99_155, s99_156, s99_159, s99_162, s99_163, s99_166, s99_167, s99_168, s99_169, s99_172, s99_173, s99_176, s99_179, s99_180, s99_183, s99_186, s99_189, s99_192, s99_194, s99_195, s99_196, s99_197, s99_198, s99_199, s99_202, s99_205, List.cons_append, List.nil_append, if_true, if_false, true_and, and_true, and_self, eq_self, true_or, or_true, false_or, or_false, tIn, tLe, fLe, tLt, fLt, tEq, fEq, isL, c113]
        exact ⟨hR, fun _ _ => rfl⟩
  · rw [if_pos hx]
    simp (disch := omega) only [s99_0, s99_1, s99_4, s99_7, s99_9, s99_10, s99_11, s99_14, s99_15, s99_17, s99_20, s99_22, s99_23, s99_24, s99_25, s99_28, s99_31, s99_33, s99_34, s99_35, s99_38, s99_39, s99_40, s99_41, s99_42, s99_104, s99_105, s99_108, s99_109, s99_110, s99_113, s99_114, s99_117, s99_118, s99_119, s99_122, s99_123, s99_124, s99_127, s99_128, s99_131, s99_132, s99_135, s99_138, s99_141, s99_142, s99_143, s99_146, s99_147, s99_150, s99_151, s99_152, s99_155, s99_156, s99_159, s99_162, s99_163, s99_166, s99_167, s99_168, s99_169, s99_172, s99_173, s99_176, s99_179, s99_180, s99_183, s99_186, s99_189, s99_192, s99_194, s99_195, s99_196, s99_197, s99_198, s99_199, s99_202, s99_205, List.cons_append, List.nil_append, if_true, if_false, true_and, and_true, and_self, eq_self, true_or, or_true, false_or, or_false, tIn, tLe, fLe, tLt, fLt, tEq, fEq, isL, c113, hx]
    exact ⟨hR, fun _ _ => rfl⟩
end KPB
