/-! the reference: put, undo, same, keep, goBack -/
section MD
variable {σ : aSg} {K : List AV → aSg → Prop} {x y z i : Int} {S : SS}
theorem mdM.add {l : List Int} {c t : Int} (h : mdM σ l) (ht : t = tau c) : mdM (aup (aup σ 135 l.length t) 130 9 ((l.length + 1 : Nat) : Int)) (l ++ [c]) := by
  obtain ⟨h1, h2⟩ := h
  refine ⟨by rw [aup_s]; simp, fun k d hd => ?_⟩
  rw [aup_n1 (by omega)]
  by_cases e : k < l.length
  · rw [List.getElem?_append_left e] at hd
    rw [aup_n2 (by omega)]
    exact h2 k d hd
  · rw [List.getElem?_append_right (by omega)] at hd
    have hz : k - l.length < 1 := (List.getElem?_eq_some_iff.mp hd).1
    rw [show k - l.length = 0 by omega] at hd
    cases hd
    rw [show k = l.length by omega, aup_s, ht]
/-- frame of what makes: only made and many -/
abbrev FrK (σ σ' : aSg) : Prop := (∀ a, a ≠ 135 → a ≠ 130 → σ' a = σ a) ∧ ∀ j, j ≠ 9 → σ' 130 j = σ 130 j
theorem make_ok {l : List Int} {c t : Int} (h : mdM σ l) (ht : t = tau c) (hl : l.length < 2200) (Q : List AV → aSg → Prop) (hq : ∀ σ', mdM σ' (l ++ [c]) → FrK σ σ' → Q [] σ') : CA m134 [.inr (.inl 130), .inl t] σ Q := by
  refine Eq.mpr (c134 h.1 hl) ?_
  exact hq _ (h.add ht) ⟨fun a h1 h2 => by rw [aup_f h2, aup_f h1], fun j hj => by rw [aup_n2 hj, aup_n1 (by omega)]⟩
theorem FrK.trans {σ1 σ2 σ3 : aSg} (h : FrK σ1 σ2) (h' : FrK σ2 σ3) : FrK σ1 σ3 := ⟨fun a h1 h2 => (h'.1 a h1 h2).trans (h.1 a h1 h2), fun j hj => (h'.2 j hj).trans (h.2 j hj)⟩
theorem FrK.rfl' : FrK σ σ := ⟨fun _ _ _ => rfl, fun _ _ => rfl⟩
theorem copyShelf_ok {s : Nat} {l m : List Int} (hs : s < 4) (h : shM σ (121 * s) m) (hm : m.length ≤ 120) (hl : mdM σ l) (hlm : l.length + m.length ≤ 2200) (Q : List AV → aSg → Prop) (hq : ∀ σ', mdM σ' (l ++ m) → FrK σ σ' → Q [] σ') : CA m157 [.inr (.inl 130), .inl (s : Int)] σ Q := by
  rw [e157]
  simp (disch := omega) only [s157_0, s157_1, s157_3, s157_4, s157_5, s157_8, s157_11, s157_12, s157_13, s157_16, s157_18, s157_19, s157_20, s157_21, s157_22, s157_23, s157_24, s157_25, s157_28, s157_31, s157_34, List.cons_append, List.nil_append, if_true, if_false, true_and, and_true, and_self, eq_self, true_or, or_true, false_or, or_false, tIn, tLe, fLe, tLt, fLt, tEq, fEq, isL]
  have l0 := ln131
  have lp : ∀ (n k : Nat) (σ1 : aSg), m.length - k = n → k ≤ m.length → mdM σ1 (l ++ m.take k) → FrK σ σ1 → WP m157 2 [.inr (.inl 130), .inl (s : Int), .inl (k : Int)] [] σ1 Q := by
    intro n
    induction n with
    | zero =>
      intro k σ1 hn hk g1 g2
      have e131 : σ1 131 = σ 131 := g2.1 131 (by omega) (by omega)
      have hsz : σ1 131 (121 * s) = (m.length : Int) := by rw [e131]; exact h.1
      rw [List.take_of_length_le (by omega)] at g1
      rw [s157_2]
      simp (disch := omega) only [s157_0, s157_1, s157_3, s157_4, s157_5, s157_8, s157_11, s157_12, s157_13, s157_16, s157_18, s157_19, s157_20, s157_21, s157_22, s157_23, s157_24, s157_25, s157_28, s157_31, s157_34, List.cons_append, List.nil_append, if_true, if_false, true_and, and_true, and_self, eq_self, true_or, or_true, false_or, or_false, tIn, tLe, fLe, tLt, fLt, tEq, fEq, c131 hs, hsz]
      exact hq σ1 g1 g2
    | succ n ih =>
      intro k σ1 hn hk g1 g2
      have hkl : k < m.length := by omega
      have e131 : σ1 131 = σ 131 := g2.1 131 (by omega) (by omega)
      have hsz : σ1 131 (121 * s) = (m.length : Int) := by rw [e131]; exact h.1
      have e2 : (121 * (s : Int) + 1 + (k : Int)).toNat = 121 * s + 1 + k := by omega
      have e3 : σ1 131 (121 * s + 1 + k) = tau m[k] := by rw [e131]; exact h.2 k _ (List.getElem?_eq_getElem hkl)
      rw [s157_2]
      simp (disch := omega) only [s157_0, s157_1, s157_3, s157_4, s157_5, s157_8, s157_11, s157_12, s157_13, s157_16, s157_18, s157_19, s157_20, s157_21, s157_22, s157_23, s157_24, s157_25, s157_28, s157_31, s157_34, List.cons_append, List.nil_append, if_true, if_false, true_and, and_true, and_self, eq_self, true_or, or_true, false_or, or_false, tIn, tLe, fLe, tLt, fLt, tEq, fEq, c131 hs, hsz, kd131, ln131, e2, e3]
      refine make_ok g1 rfl (by simp; omega) _ (fun σ2 k1 k2 => ?_)
      simp (disch := omega) only [s157_0, s157_1, s157_3, s157_4, s157_5, s157_8, s157_11, s157_12, s157_13, s157_16, s157_18, s157_19, s157_20, s157_21, s157_22, s157_23, s157_24, s157_25, s157_28, s157_31, s157_34, List.cons_append, List.nil_append, if_true, if_false, true_and, and_true, and_self, eq_self, true_or, or_true, false_or, or_false, tIn, tLe, fLe, tLt, fLt, tEq, fEq]
      refine ih (k + 1) σ2 (by omega) (by omega) ?_ (g2.trans k2)
      rw [List.take_succ, List.getElem?_eq_getElem hkl]
      simpa using k1
  exact lp m.length 0 σ rfl (by omega) (by simpa using hl) FrK.rfl'
theorem RepM.frK {σ' : aSg} (hR : RepM σ S) (h : FrK σ σ') : RepM σ' S := hR.keep (h.1 131 (by omega) (by omega)) (h.1 132 (by omega) (by omega)) (h.1 133 (by omega) (by omega)) ⟨h.2 1 (by omega), h.2 4 (by omega), h.2 5 (by omega)⟩
abbrev FrT (σ σ' : aSg) : Prop := (∀ a, a ≠ 134 → a ≠ 130 → σ' a = σ a) ∧ ∀ j, j ≠ 7 → σ' 130 j = σ 130 j
theorem RepM.frT {σ' : aSg} (hR : RepM σ S) (h : FrT σ σ') : RepM σ' S := hR.keep (h.1 131 (by omega) (by omega)) (h.1 132 (by omega) (by omega)) (h.1 133 (by omega) (by omega)) ⟨h.2 1 (by omega), h.2 4 (by omega), h.2 5 (by omega)⟩
theorem RepM.sh (hR : RepM σ S) {s : Nat} (hs : s < 4) : shM σ (121 * s) (sv S s) := by
  have := hR.2.1 s hs
  rw [Nat.zero_add] at this
  exact this
theorem m158_ok (hR : RepM σ S) : MM m158 [.inr (.inl 130), .inl x, .inl y, .inl z] σ (f92 S x y z).1 (f92 S x y z).2 := by
  unfold MM
  rw [e158]
  unfold f92
  by_cases hx : 0 ≤ x ∧ x < 4
  · by_cases hy : 0 ≤ y ∧ y < 4
    · by_cases hz : 0 ≤ z ∧ z < 4
      · rw [if_neg (fun q => q ⟨hx, hy, hz⟩)]
        obtain ⟨s, rfl⟩ := Int.eq_ofNat_of_zero_le hx.1
        obtain ⟨p, rfl⟩ := Int.eq_ofNat_of_zero_le hy.1
        obtain ⟨q, rfl⟩ := Int.eq_ofNat_of_zero_le hz.1
        have hs : s < 4 := by omega
        have hp : p < 4 := by omega
        have hq : q < 4 := by omega
        have zp := shl hR hp
        have zq := shl hR hq
        have lp := sh_len (hR.1.2.2.1 p hp)
        have lq := sh_len (hR.1.2.2.1 q hq)
        simp only [Int.toNat_natCast]
        by_cases ep : sv S p = []
        · rw [if_pos (Or.inl ep)]
          simp (disch := omega) only [s158_0, s158_1, s158_4, s158_7, s158_8, s158_11, s158_14, s158_15, s158_18, s158_21, s158_23, s158_24, s158_25, s158_26, s158_29, s158_32, s158_33, s158_34, s158_37, s158_40, s158_42, s158_43, s158_44, s158_45, s158_48, s158_49, s158_50, s158_53, s158_54, s158_55, s158_58, s158_59, s158_60, s158_63, s158_64, s158_67, s158_68, s158_69, s158_72, List.cons_append, List.nil_append, if_true, if_false, true_and, and_true, and_self, eq_self, true_or, or_true, false_or, or_false, tIn, tLe, fLe, tLt, fLt, tEq, fEq, c130, c131 hp, zp, ep, List.length_nil, Int.natCast_zero]
          exact ⟨hR, fun _ _ => rfl⟩
        have pp : 0 < (sv S p).length := List.length_pos_iff.mpr ep
        by_cases eq : sv S q = []
        · rw [if_pos (Or.inr eq)]
          simp (disch := omega) only [s158_0, s158_1, s158_4, s158_7, s158_8, s158_11, s158_14, s158_15, s158_18, s158_21, s158_23, s158_24, s158_25, s158_26, s158_29, s158_32, s158_33, s158_34, s158_37, s158_40, s158_42, s158_43, s158_44, s158_45, s158_48, s158_49, s158_50, s158_53, s158_54, s158_55, s158_58, s158_59, s158_60, s158_63, s158_64, s158_67, s158_68, s158_69, s158_72, List.cons_append, List.nil_append, if_true, if_false, true_and, and_true, and_self, eq_self, true_or, or_true, false_or, or_false, tIn, tLe, fLe, tLt, fLt, tEq, fEq, c130, c131 hp, c131 hq, zp, zq, eq, List.length_nil, Int.natCast_zero]
          exact ⟨hR, fun _ _ => rfl⟩
        have pq : 0 < (sv S q).length := List.length_pos_iff.mpr eq
        rw [if_neg (by simp [ep, eq])]
        simp (disch := omega) only [s158_0, s158_1, s158_4, s158_7, s158_8, s158_11, s158_14, s158_15, s158_18, s158_21, s158_23, s158_24, s158_25, s158_26, s158_29, s158_32, s158_33, s158_34, s158_37, s158_40, s158_42, s158_43, s158_44, s158_45, s158_48, s158_49, s158_50, s158_53, s158_54, s158_55, s158_58, s158_59, s158_60, s158_63, s158_64, s158_67, s158_68, s158_69, s158_72, List.cons_append, List.nil_append, if_true, if_false, true_and, and_true, and_self, eq_self, true_or, or_true, false_or, or_false, tIn, tLe, fLe, tLt, fLt, tEq, fEq, c130, c131 hp, c131 hq, zp, zq]
        have m0 : mdM (aup σ 130 9 0) [] := ⟨aup_s, fun k c hc => by simp at hc⟩
        have f0 : FrK σ (aup σ 130 9 0) := ⟨fun a h1 h2 => aup_f h2, fun j hj => aup_n2 hj⟩
        refine make_ok (c := 1) m0 rfl (by simp) _ (fun σ1 m1 f1 => ?_)
        have f1 := f0.trans f1
        simp (disch := omega) only [s158_0, s158_1, s158_4, s158_7, s158_8, s158_11, s158_14, s158_15, s158_18, s158_21, s158_23, s158_24, s158_25, s158_26, s158_29, s158_32, s158_33, s158_34, s158_37, s158_40, s158_42, s158_43, s158_44, s158_45, s158_48, s158_49, s158_50, s158_53, s158_54, s158_55, s158_58, s158_59, s158_60, s158_63, s158_64, s158_67, s158_68, s158_69, s158_72, List.cons_append, List.nil_append, if_true, if_false, true_and, and_true, and_self, eq_self, true_or, or_true, false_or, or_false, tIn, tLe, fLe, tLt, fLt, tEq, fEq]
        refine copyShelf_ok hp ((hR.frK f1).sh hp) lp m1 (by simp; omega) _ (fun σ2 m2 f2 => ?_)
        have f2 := f1.trans f2
        simp (disch := omega) only [s158_0, s158_1, s158_4, s158_7, s158_8, s158_11, s158_14, s158_15, s158_18, s158_21, s158_23, s158_24, s158_25, s158_26, s158_29, s158_32, s158_33, s158_34, s158_37, s158_40, s158_42, s158_43, s158_44, s158_45, s158_48, s158_49, s158_50, s158_53, s158_54, s158_55, s158_58, s158_59, s158_60, s158_63, s158_64, s158_67, s158_68, s158_69, s158_72, List.cons_append, List.nil_append, if_true, if_false, true_and, and_true, and_self, eq_self, true_or, or_true, false_or, or_false, tIn, tLe, fLe, tLt, fLt, tEq, fEq]
        refine copyShelf_ok hq ((hR.frK f2).sh hq) lq m2 (by simp; omega) _ (fun σ3 m3 f3 => ?_)
        have f3 := f2.trans f3
        simp (disch := omega) only [s158_0, s158_1, s158_4, s158_7, s158_8, s158_11, s158_14, s158_15, s158_18, s158_21, s158_23, s158_24, s158_25, s158_26, s158_29, s158_32, s158_33, s158_34, s158_37, s158_40, s158_42, s158_43, s158_44, s158_45, s158_48, s158_49, s158_50, s158_53, s158_54, s158_55, s158_58, s158_59, s158_60, s158_63, s158_64, s158_67, s158_68, s158_69, s158_72, List.cons_append, List.nil_append, if_true, if_false, true_and, and_true, and_self, eq_self, true_or, or_true, false_or, or_false, tIn, tLe, fLe, tLt, fLt, tEq, fEq]
        refine c139 m3 (by simp; omega) _ (fun σ4 t4 g1 g2 => ?_)
        simp (disch := omega) only [s158_0, s158_1, s158_4, s158_7, s158_8, s158_11, s158_14, s158_15, s158_18, s158_21, s158_23, s158_24, s158_25, s158_26, s158_29, s158_32, s158_33, s158_34, s158_37, s158_40, s158_42, s158_43, s158_44, s158_45, s158_48, s158_49, s158_50, s158_53, s158_54, s158_55, s158_58, s158_59, s158_60, s158_63, s158_64, s158_67, s158_68, s158_69, s158_72, List.cons_append, List.nil_append, if_true, if_false, true_and, and_true, and_self, eq_self, true_or, or_true, false_or, or_false, tIn, tLe, fLe, tLt, fLt, tEq, fEq]
        have e : ([] : List Int) ++ [1] ++ sv S p ++ sv S q = 1 :: (sv S p ++ sv S q) := by simp
        rw [e] at t4
        refine CA_use (lay_ok ((hR.frK f3).frT ⟨g1, g2⟩) hs t4 (fun hl => Or.inr ⟨wf_put (sh_wf (hR.1.2.2.1 p hp) ep) (sh_wf (hR.1.2.2.1 q hq) eq), hl⟩)) (fun v σ' h => ?_)
        obtain ⟨rfl, h2, h3⟩ := h
        simp (disch := omega) only [s158_0, s158_1, s158_4, s158_7, s158_8, s158_11, s158_14, s158_15, s158_18, s158_21, s158_23, s158_24, s158_25, s158_26, s158_29, s158_32, s158_33, s158_34, s158_37, s158_40, s158_42, s158_43, s158_44, s158_45, s158_48, s158_49, s158_50, s158_53, s158_54, s158_55, s158_58, s158_59, s158_60, s158_63, s158_64, s158_67, s158_68, s158_69, s158_72, List.cons_append, List.nil_append, if_true, if_false, true_and, and_true, and_self, eq_self, true_or, or_true, false_or, or_false, tIn, tLe, fLe, tLt, fLt, tEq, fEq]
        exact ⟨h2, fun a ha => (h3 a ha).trans ((g1 a (by omega) (by omega)).trans (f3.1 a (by omega) (by omega)))⟩
      · rw [if_pos (fun q => hz q.2.2)]
        have gz : ¬ (0 ≤ z ∧ z ≤ 3) := by omega
        simp (disch := omega) only [s158_0, s158_1, s158_4, s158_7, s158_8, s158_11, s158_14, s158_15, s158_18, s158_21, s158_23, s158_24, s158_25, s158_26, s158_29, s158_32, s158_33, s158_34, s158_37, s158_40, s158_42, s158_43, s158_44, s158_45, s158_48, s158_49, s158_50, s158_53, s158_54, s158_55, s158_58, s158_59, s158_60, s158_63, s158_64, s158_67, s158_68, s158_69, s158_72, List.cons_append, List.nil_append, if_true, if_false, true_and, and_true, and_self, eq_self, true_or, or_true, false_or, or_false, tIn, tLe, fLe, tLt, fLt, tEq, fEq, c130, gz]
        exact ⟨hR, fun _ _ => rfl⟩
    · rw [if_pos (fun q => hy q.2.1)]
      have gy : ¬ (0 ≤ y ∧ y ≤ 3) := by omega
      simp (disch := omega) only [s158_0, s158_1, s158_4, s158_7, s158_8, s158_11, s158_14, s158_15, s158_18, s158_21, s158_23, s158_24, s158_25, s158_26, s158_29, s158_32, s158_33, s158_34, s158_37, s158_40, s158_42, s158_43, s158_44, s158_45, s158_48, s158_49, s158_50, s158_53, s158_54, s158_55, s158_58, s158_59, s158_60, s158_63, s158_64, s158_67, s158_68, s158_69, s158_72, List.cons_append, List.nil_append, if_true, if_false, true_and, and_true, and_self, eq_self, true_or, or_true, false_or, or_false, tIn, tLe, fLe, tLt, fLt, tEq, fEq, c130, gy]
      exact ⟨hR, fun _ _ => rfl⟩
  · rw [if_pos (fun q => hx q.1)]
    have gx : ¬ (0 ≤ x ∧ x ≤ 3) := by omega
    simp (disch := omega) only [s158_0, s158_1, s158_4, s158_7, s158_8, s158_11, s158_14, s158_15, s158_18, s158_21, s158_23, s158_24, s158_25, s158_26, s158_29, s158_32, s158_33, s158_34, s158_37, s158_40, s158_42, s158_43, s158_44, s158_45, s158_48, s158_49, s158_50, s158_53, s158_54, s158_55, s158_58, s158_59, s158_60, s158_63, s158_64, s158_67, s158_68, s158_69, s158_72, List.cons_append, List.nil_append, if_true, if_false, true_and, and_true, and_self, eq_self, true_or, or_true, false_or, or_false, tIn, tLe, fLe, tLt, fLt, tEq, fEq, c130, gx]
    exact ⟨hR, fun _ _ => rfl⟩
/-- a block copied within the row -/
theorem blM.cpy {σ' : aSg} {b b' : Nat} {f : Nat → List Int} (he : ∀ k, k < 484 → σ' 131 (b' + k) = σ 131 (b + k)) (hf : ∀ s, s < 4 → (f s).length ≤ 120) (hb : blM σ b f) : blM σ' b' f := by
  intro s hs
  obtain ⟨g1, g2⟩ := hb s hs
  refine ⟨?_, fun k c hc => ?_⟩
  · rw [he (121 * s) (by omega)]; exact g1
  · have hk := (List.getElem?_eq_some_iff.mp hc).1
    have := hf s hs
    rw [show b' + 121 * s + 1 + k = b' + (121 * s + 1 + k) by omega, he _ (by omega), show b + (121 * s + 1 + k) = b + 121 * s + 1 + k by omega]
    exact g2 k c hc
theorem m164_ok (hR : RepM σ S) : MM m164 [.inr (.inl 130)] σ (f97 S).1 (f97 S).2 := by
  unfold MM
  rw [e164]
  unfold f97
  have hR0 := hR
  obtain ⟨hS, h0, hu, hp, hi, hl, htx, hfa⟩ := hR
  cases hpa : pa S with
  | nil =>
    rw [hpa] at hu
    simp (disch := omega) only [s164_0, s164_1, s164_4, s164_7, s164_9, s164_10, s164_11, s164_12, s164_15, s164_16, s164_17, s164_20, s164_21, s164_24, s164_27, s164_28, s164_31, s164_32, s164_33, s164_34, s164_37, s164_38, s164_41, List.cons_append, List.nil_append, if_true, if_false, true_and, and_true, and_self, eq_self, true_or, or_true, false_or, or_false, tIn, tLe, fLe, tLt, fLt, tEq, fEq, hu, List.length_nil, Int.natCast_zero]
    exact ⟨hR0, fun _ _ => rfl⟩
  | cons q ps =>
    have h10 : (pa S).length ≤ 10 := hS.2.2.2.1
    rw [hpa, List.length_cons] at h10 hu
    have hq := hS.2.2.2.2.1 q (by rw [hpa]; exact List.mem_cons_self)
    have c1 := c135 (σ := aup σ 130 1 (ps.length : Int)) (K := fun v σ2 => WP m164 37 [.inr (.inl 130)] (v ++ []) σ2 (fun v σ' => v = [.inl (ps.length : Int)] ∧ RepM σ' (tx S, fun j => if j = q.1 then q.2 else sv S j, fa S, ps, im S) ∧ FrM σ σ')) (f := 484 + 484 * ps.length) (t := 0) (by omega) (by omega) (by omega)
    have e131 : (aup σ 130 1 (ps.length : Int)) 131 = σ 131 := aup_f (by omega)
    rw [e131] at c1
    have e1 : ((ps.length + 1 : Nat) : Int) - 1 = (ps.length : Int) := by omega
    simp (disch := omega) only [s164_0, s164_1, s164_4, s164_7, s164_9, s164_10, s164_11, s164_12, s164_15, s164_16, s164_17, s164_20, s164_21, s164_24, s164_27, s164_28, s164_31, s164_32, s164_33, s164_34, s164_37, s164_38, s164_41, List.cons_append, List.nil_append, if_true, if_false, true_and, and_true, and_self, eq_self, true_or, or_true, false_or, or_false, tIn, tLe, fLe, tLt, fLt, tEq, fEq, rs_ap, aup_s, aup_n1, aup_n2, Int.toNat_natCast, hu, e1]
    rw [show (484 : Int) + 484 * (ps.length : Int) = ((484 + 484 * ps.length : Nat) : Int) by omega]
    refine Eq.mpr c1 ?_
    simp (disch := omega) only [s164_0, s164_1, s164_4, s164_7, s164_9, s164_10, s164_11, s164_12, s164_15, s164_16, s164_17, s164_20, s164_21, s164_24, s164_27, s164_28, s164_31, s164_32, s164_33, s164_34, s164_37, s164_38, s164_41, List.cons_append, List.nil_append, if_true, if_false, true_and, and_true, and_self, eq_self, true_or, or_true, false_or, or_false, tIn, tLe, fLe, tLt, fLt, tEq, fEq, rs_ap, aup_s, aup_n1, aup_n2, Int.toNat_natCast, upA_n]
    have hg : ∀ s, s < 4 → ((fun j => if j = q.1 then q.2 else sv S j) s).length ≤ 120 := by
      intro s hs
      show (if s = q.1 then q.2 else sv S s).length ≤ 120
      split
      · exact sh_len hq.2
      · exact sh_len (hS.2.2.1 s hs)
    have hi131 : ∀ k, (aupA (aup σ 130 1 (ps.length : Int)) 131 (va_cpy (σ 131) (σ 131) (484 + 484 * ps.length) 0 484)) 131 k = va_cpy (σ 131) (σ 131) (484 + 484 * ps.length) 0 484 k := fun k => upA_s
    have hoth : ∀ a, a ≠ 131 → a ≠ 130 → (aupA (aup σ 130 1 (ps.length : Int)) 131 (va_cpy (σ 131) (σ 131) (484 + 484 * ps.length) 0 484)) a = σ a := fun a h1 h2 => by funext j; rw [upA_n h1, aup_n1 h2]
    refine ⟨⟨?_, ?_, ?_, ?_, ?_, ?_, ?_, ?_⟩, ?_⟩
    · obtain ⟨a1, a2, a3, a4, a5, a6⟩ := hS
      refine ⟨a1, a2, fun j hj => ?_, ?_, fun q' hq' => a5 q' (by rw [hpa]; exact List.mem_cons_of_mem _ hq'), a6⟩
      · show shOk (if j = q.1 then q.2 else sv S j)
        split
        · exact hq.2
        · exact a3 j hj
      · show ps.length ≤ 10
        omega
    · refine blM.cpy (σ := σ) (b := 484 + 484 * ps.length) (fun k hk => ?_) hg ?_
      · rw [hi131, va_cpy, if_pos (by omega)]
        exact congrArg (σ 131) (by omega)
      · have := hp 0 (fun j => if j = q.1 then q.2 else sv S j) (by rw [hpa]; rfl)
        rw [hpa, List.length_cons] at this
        rw [show ps.length = ps.length + 1 - 1 - 0 by omega]
        exact this
    · rw [upA_n (by omega), aup_s]; rfl
    · intro j g hg'
      have hg' : (snp (fun j => if j = q.1 then q.2 else sv S j) ps)[j]? = some g := hg'
      have hjl := (List.getElem?_eq_some_iff.mp hg').1
      rw [snp_len] at hjl
      have := hp (j + 1) g (by rw [hpa]; simpa [snp] using hg')
      rw [hpa, List.length_cons] at this
      intro s hs
      obtain ⟨a1, a2⟩ := this s hs
      show shM _ (484 + 484 * (ps.length - 1 - j) + 121 * s) _
      rw [show ps.length + 1 - 1 - (j + 1) = ps.length - 1 - j by omega] at a1 a2
      refine ⟨?_, fun k c hc => ?_⟩
      · rw [hi131, va_cpy, if_neg (by omega)]; exact a1
      · rw [hi131, va_cpy, if_neg (by omega)]; exact a2 k c hc
    · intro i hi'
      rw [hoth 132 (by omega) (by omega)]
      rcases hi i hi' with h | ⟨f, b1, b2, b3⟩
      · exact Or.inl h
      · refine Or.inr ⟨f, b1, b2, fun s hs => ?_⟩
        obtain ⟨a1, a2⟩ := b3 s hs
        refine ⟨?_, fun k c hc => ?_⟩
        · rw [hi131, va_cpy, if_neg (by omega)]; exact a1
        · rw [hi131, va_cpy, if_neg (by omega)]; exact a2 k c hc
    · rw [upA_n (by omega), aup_n2 (by omega)]; exact hl
    · intro k c hc
      rw [hoth 133 (by omega) (by omega)]
      exact htx k c hc
    · rw [upA_n (by omega), aup_n2 (by omega)]; exact hfa
    · intro a ha
      exact hoth a (by omega) (by omega)
theorem m203_ok (hR : RepM σ S) : MM m203 [.inr (.inl 130), .inl x] σ (f105 S x).1 (f105 S x).2 := by
  unfold MM
  rw [e203]
  unfold f105
  have hR0 := hR
  obtain ⟨hS, h0, hu, hp, hi, hl, htx, hfa⟩ := hR
  by_cases g0 : 0 ≤ x ∧ x < 2
  · rw [if_neg (by omega)]
    obtain ⟨p, rfl⟩ := Int.eq_ofNat_of_zero_le g0.1
    have hpp : p < 2 := by omega
    simp only [Int.toNat_natCast]
    have l132 := ln132
    have c1 := c135 (σ := σ) (K := fun v σ2 => WP m203 27 [.inr (.inl 130), .inl (p : Int)] (v ++ []) σ2 (fun v σ' => v = [.inl 1] ∧ RepM σ' (tx S, sv S, fa S, [], fun j => if j = p then some (sv S) else im S j) ∧ FrM σ σ')) (f := 0) (t := 5324 + 484 * p) (by omega) (by omega) (by omega)
    simp (disch := omega) only [s203_0, s203_1, s203_2, s203_3, s203_4, s203_7, s203_10, s203_12, s203_13, s203_14, s203_15, s203_18, s203_21, s203_22, s203_23, s203_24, s203_27, s203_28, s203_31, s203_32, s203_33, s203_34, s203_35, s203_36, s203_39, s203_40, List.cons_append, List.nil_append, if_true, if_false, true_and, and_true, and_self, eq_self, true_or, or_true, false_or, or_false, tIn, tLe, fLe, tLt, fLt, tEq, fEq, c127]
    rw [show (5324 : Int) + 484 * (p : Int) = ((5324 + 484 * p : Nat) : Int) by omega]
    refine Eq.mpr c1 ?_
    simp (disch := omega) only [s203_0, s203_1, s203_2, s203_3, s203_4, s203_7, s203_10, s203_12, s203_13, s203_14, s203_15, s203_18, s203_21, s203_22, s203_23, s203_24, s203_27, s203_28, s203_31, s203_32, s203_33, s203_34, s203_35, s203_36, s203_39, s203_40, List.cons_append, List.nil_append, if_true, if_false, true_and, and_true, and_self, eq_self, true_or, or_true, false_or, or_false, tIn, tLe, fLe, tLt, fLt, tEq, fEq, rs_ap, aup_s, aup_n1, aup_n2, Int.toNat_natCast, kd132, ln132]
    have hi131 : ∀ k, (aup (aup (aupA σ 131 (va_cpy (σ 131) (σ 131) 0 (5324 + 484 * p) 484)) 132 p 1) 130 1 0) 131 k = va_cpy (σ 131) (σ 131) 0 (5324 + 484 * p) 484 k := fun k => by rw [aup_n1 (by omega), aup_n1 (by omega), upA_s]
    have hl120 : ∀ s, s < 4 → (sv S s).length ≤ 120 := fun s hs => sh_len (hS.2.2.1 s hs)
    refine ⟨⟨?_, ?_, ?_, ?_, ?_, ?_, ?_, ?_⟩, ?_⟩
    · obtain ⟨a1, a2, a3, a4, a5, a6, a7⟩ := hS
      refine ⟨a1, a2, a3, by simp [pa], fun q hq => by simp [pa] at hq, fun i f hi hf => ?_, a7⟩
      have hf' : (if i = p then some (sv S) else im S i) = some f := hf
      split at hf'
      · cases hf'; exact a3
      · exact a6 i f hi hf'
    · refine blM.cpy (b := 0) (fun k hk => ?_) hl120 h0
      rw [hi131, va_cpy, if_neg (by omega)]
    · rw [aup_s]; rfl
    · intro j g hg
      simp [pa, snp] at hg
    · intro i hi'
      by_cases e : i = p
      · subst e
        refine Or.inr ⟨sv S, by show (if i = i then _ else _) = _; simp, by rw [aup_n1 (by omega), aup_s], blM.cpy (b := 0) (fun k hk => ?_) hl120 h0⟩
        rw [hi131, va_cpy, if_pos (by omega)]
        exact congrArg (σ 131) (by omega)
      · have e0 : im (tx S, sv S, fa S, ([] : List (Nat × List Int)), fun j => if j = p then some (sv S) else im S j) i = im S i := by show (if i = p then _ else _) = _; rw [if_neg e]
        rw [e0, aup_n1 (by omega), aup_n2 e, upA_n (by omega)]
        rcases hi i hi' with h | ⟨f, b1, b2, b3⟩
        · exact Or.inl h
        · refine Or.inr ⟨f, b1, b2, fun s hs => ?_⟩
          obtain ⟨a1, a2⟩ := b3 s hs
          have h120 := sh_len (hS.2.2.2.2.2.1 i f hi' b1 s hs)
          refine ⟨?_, fun k c hc => ?_⟩
          · rw [hi131, va_cpy, if_neg (by omega)]; exact a1
          · have := (List.getElem?_eq_some_iff.mp hc).1
            rw [hi131, va_cpy, if_neg (by omega)]; exact a2 k c hc
    · rw [aup_n2 (by omega), aup_n1 (by omega), upA_n (by omega)]; exact hl
    · intro k c hc
      rw [aup_n1 (by omega), aup_n1 (by omega), upA_n (by omega)]
      exact htx k c hc
    · rw [aup_n2 (by omega), aup_n1 (by omega), upA_n (by omega)]; exact hfa
    · intro a ha
      rw [aup_f (by omega), aup_f (by omega)]
      funext j
      exact upA_n (by omega)
  · rw [if_pos g0]
    have gx : ¬ (0 ≤ x ∧ x ≤ 1) := by omega
    simp (disch := omega) only [s203_0, s203_1, s203_2, s203_3, s203_4, s203_7, s203_10, s203_12, s203_13, s203_14, s203_15, s203_18, s203_21, s203_22, s203_23, s203_24, s203_27, s203_28, s203_31, s203_32, s203_33, s203_34, s203_35, s203_36, s203_39, s203_40, List.cons_append, List.nil_append, if_true, if_false, true_and, and_true, and_self, eq_self, true_or, or_true, false_or, or_false, tIn, tLe, fLe, tLt, fLt, tEq, fEq, c127, gx]
    exact ⟨hR0, fun _ _ => rfl⟩
theorem m204_ok (hR : RepM σ S) : MM m204 [.inr (.inl 130), .inl x] σ (f106 S x).1 (f106 S x).2 := by
  unfold MM
  rw [e204]
  unfold f106
  have hR0 := hR
  obtain ⟨hS, h0, hu, hp, hi, hl, htx, hfa⟩ := hR
  by_cases g0 : 0 ≤ x ∧ x < 2
  · rw [if_neg (by omega)]
    obtain ⟨p, rfl⟩ := Int.eq_ofNat_of_zero_le g0.1
    have hpp : p < 2 := by omega
    simp only [Int.toNat_natCast]
    have l132 := ln132
    rcases hi p hpp with ⟨h, h29⟩ | ⟨f, g1, g2, g3⟩
    · rw [h]
      simp (disch := omega) only [s204_0, s204_1, s204_2, s204_3, s204_4, s204_7, s204_10, s204_12, s204_13, s204_14, s204_17, s204_18, s204_19, s204_22, s204_24, s204_25, s204_26, s204_29, s204_32, s204_33, s204_34, s204_35, s204_36, s204_39, s204_40, s204_41, s204_44, s204_45, List.cons_append, List.nil_append, if_true, if_false, true_and, and_true, and_self, eq_self, true_or, or_true, false_or, or_false, tIn, tLe, fLe, tLt, fLt, tEq, fEq, rs_ap, aup_s, aup_n1, aup_n2, Int.toNat_natCast, c127, kd132, ln132, h29]
      exact ⟨hR0, fun _ _ => rfl⟩
    · rw [g1]
      have hfo := hS.2.2.2.2.2.1 p f hpp g1
      have c1 := c135 (σ := σ) (K := fun v σ2 => WP m204 39 [.inr (.inl 130), .inl (p : Int)] (v ++ []) σ2 (fun v σ' => v = [.inl 1] ∧ RepM σ' (tx S, f, fa S, [], im S) ∧ FrM σ σ')) (f := 5324 + 484 * p) (t := 0) (by omega) (by omega) (by omega)
      simp (disch := omega) only [s204_0, s204_1, s204_2, s204_3, s204_4, s204_7, s204_10, s204_12, s204_13, s204_14, s204_17, s204_18, s204_19, s204_22, s204_24, s204_25, s204_26, s204_29, s204_32, s204_33, s204_34, s204_35, s204_36, s204_39, s204_40, s204_41, s204_44, s204_45, List.cons_append, List.nil_append, if_true, if_false, true_and, and_true, and_self, eq_self, true_or, or_true, false_or, or_false, tIn, tLe, fLe, tLt, fLt, tEq, fEq, rs_ap, aup_s, aup_n1, aup_n2, Int.toNat_natCast, c127, kd132, ln132, g2]
      rw [show (5324 : Int) + 484 * (p : Int) = ((5324 + 484 * p : Nat) : Int) by omega]
      refine Eq.mpr c1 ?_
      simp (disch := omega) only [s204_0, s204_1, s204_2, s204_3, s204_4, s204_7, s204_10, s204_12, s204_13, s204_14, s204_17, s204_18, s204_19, s204_22, s204_24, s204_25, s204_26, s204_29, s204_32, s204_33, s204_34, s204_35, s204_36, s204_39, s204_40, s204_41, s204_44, s204_45, List.cons_append, List.nil_append, if_true, if_false, true_and, and_true, and_self, eq_self, true_or, or_true, false_or, or_false, tIn, tLe, fLe, tLt, fLt, tEq, fEq, rs_ap, aup_s, aup_n1, aup_n2, Int.toNat_natCast]
      have hi131 : ∀ k, (aup (aupA σ 131 (va_cpy (σ 131) (σ 131) (5324 + 484 * p) 0 484)) 130 1 0) 131 k = va_cpy (σ 131) (σ 131) (5324 + 484 * p) 0 484 k := fun k => by rw [aup_n1 (by omega), upA_s]
      refine ⟨⟨?_, ?_, ?_, ?_, ?_, ?_, ?_, ?_⟩, ?_⟩
      · obtain ⟨a1, a2, a3, a4, a5, a6, a7⟩ := hS
        exact ⟨a1, a2, hfo, by simp [pa], fun q hq => by simp [pa] at hq, a6, a7⟩
      · refine blM.cpy (b := 5324 + 484 * p) (fun k hk => ?_) (fun s hs => sh_len (hfo s hs)) g3
        rw [hi131, va_cpy, if_pos (by omega)]
        exact congrArg (σ 131) (by omega)
      · rw [aup_s]; rfl
      · intro j g hg
        simp [pa, snp] at hg
      · intro i hi'
        rw [aup_n1 (by omega), upA_n (by omega)]
        rcases hi i hi' with h | ⟨f', b1, b2, b3⟩
        · exact Or.inl h
        · refine Or.inr ⟨f', b1, b2, fun s hs => ?_⟩
          obtain ⟨a1, a2⟩ := b3 s hs
          refine ⟨?_, fun k c hc => ?_⟩
          · rw [hi131, va_cpy, if_neg (by omega)]; exact a1
          · rw [hi131, va_cpy, if_neg (by omega)]; exact a2 k c hc
      · rw [aup_n2 (by omega), upA_n (by omega)]; exact hl
      · intro k c hc
        rw [aup_n1 (by omega), upA_n (by omega)]
        exact htx k c hc
      · rw [aup_n2 (by omega), upA_n (by omega)]; exact hfa
      · intro a ha
        rw [aup_f (by omega)]
        funext j
        exact upA_n (by omega)
  · rw [if_pos g0]
    have gx : ¬ (0 ≤ x ∧ x ≤ 1) := by omega
    simp (disch := omega) only [s204_0, s204_1, s204_2, s204_3, s204_4, s204_7, s204_10, s204_12, s204_13, s204_14, s204_17, s204_18, s204_19, s204_22, s204_24, s204_25, s204_26, s204_29, s204_32, s204_33, s204_34, s204_35, s204_36, s204_39, s204_40, s204_41, s204_44, s204_45, List.cons_append, List.nil_append, if_true, if_false, true_and, and_true, and_self, eq_self, true_or, or_true, false_or, or_false, tIn, tLe, fLe, tLt, fLt, tEq, fEq, c127, gx]
    exact ⟨hR0, fun _ _ => rfl⟩
end MD
