/-! the reference: same -/
theorem tau_inj {c d : Int} (hc : tok c) (hd : tok d) (h : tau c = tau d) : c = d := by
  unfold tok at hc hd
  unfold tau at h
  repeat' split at h
  all_goals omega
section ME
variable {σ : aSg} {K : List AV → aSg → Prop} {x y z i : Int} {S : SS}
theorem m201_ok (hR : RepM σ S) : MM m201 [.inr (.inl 130), .inl x, .inl y] σ (f103 S x y).1 (f103 S x y).2 := by
  unfold MM
  rw [e201]
  unfold f103
  by_cases hx : 0 ≤ x ∧ x < 4
  · by_cases hy : 0 ≤ y ∧ y < 4
    · rw [if_neg (fun q => q ⟨hx, hy⟩)]
      obtain ⟨p, rfl⟩ := Int.eq_ofNat_of_zero_le hx.1
      obtain ⟨q, rfl⟩ := Int.eq_ofNat_of_zero_le hy.1
      have hp : p < 4 := by omega
      have hq : q < 4 := by omega
      have zp := shl hR hp
      have zq := shl hR hq
      have lp := sh_len (hR.1.2.2.1 p hp)
      have lq := sh_len (hR.1.2.2.1 q hq)
      simp only [Int.toNat_natCast]
      by_cases ep : sv S p = []
      · rw [if_pos (Or.inl ep)]
        simp (disch := omega) only [s201_0, s201_1, s201_4, s201_7, s201_8, s201_11, s201_14, s201_16, s201_17, s201_18, s201_19, s201_22, s201_25, s201_26, s201_27, s201_30, s201_33, s201_35, s201_36, s201_37, s201_38, s201_39, s201_43, s201_44, s201_45, s201_48, s201_51, s201_52, s201_55, s201_56, s201_59, s201_61, s201_62, s201_63, s201_65, s201_66, s201_67, s201_68, s201_71, s201_73, s201_74, s201_75, s201_77, s201_78, s201_79, s201_82, s201_83, s201_86, s201_87, s201_88, s201_91, s201_94, s201_95, s201_98, s201_99, s201_102, s201_103, List.cons_append, List.nil_append, if_true, if_false, true_and, and_true, and_self, eq_self, true_or, or_true, false_or, or_false, tIn, tLe, fLe, tLt, fLt, tEq, fEq, c130, c131 hp, zp, ep, List.length_nil, Int.natCast_zero]
        exact ⟨hR, fun _ _ => rfl⟩
      have pp : 0 < (sv S p).length := List.length_pos_iff.mpr ep
      by_cases eq : sv S q = []
      · rw [if_pos (Or.inr eq)]
        simp (disch := omega) only [s201_0, s201_1, s201_4, s201_7, s201_8, s201_11, s201_14, s201_16, s201_17, s201_18, s201_19, s201_22, s201_25, s201_26, s201_27, s201_30, s201_33, s201_35, s201_36, s201_37, s201_38, s201_39, s201_43, s201_44, s201_45, s201_48, s201_51, s201_52, s201_55, s201_56, s201_59, s201_61, s201_62, s201_63, s201_65, s201_66, s201_67, s201_68, s201_71, s201_73, s201_74, s201_75, s201_77, s201_78, s201_79, s201_82, s201_83, s201_86, s201_87, s201_88, s201_91, s201_94, s201_95, s201_98, s201_99, s201_102, s201_103, List.cons_append, List.nil_append, if_true, if_false, true_and, and_true, and_self, eq_self, true_or, or_true, false_or, or_false, tIn, tLe, fLe, tLt, fLt, tEq, fEq, c130, c131 hp, c131 hq, zp, zq, eq, List.length_nil, Int.natCast_zero]
        exact ⟨hR, fun _ _ => rfl⟩
      have pq : 0 < (sv S q).length := List.length_pos_iff.mpr eq
      rw [if_neg (by simp [ep, eq])]
      simp (disch := omega) only [s201_0, s201_1, s201_4, s201_7, s201_8, s201_11, s201_14, s201_16, s201_17, s201_18, s201_19, s201_22, s201_25, s201_26, s201_27, s201_30, s201_33, s201_35, s201_36, s201_37, s201_38, s201_39, s201_43, s201_44, s201_45, s201_48, s201_51, s201_52, s201_55, s201_56, s201_59, s201_61, s201_62, s201_63, s201_65, s201_66, s201_67, s201_68, s201_71, s201_73, s201_74, s201_75, s201_77, s201_78, s201_79, s201_82, s201_83, s201_86, s201_87, s201_88, s201_91, s201_94, s201_95, s201_98, s201_99, s201_102, s201_103, List.cons_append, List.nil_append, if_true, if_false, true_and, and_true, and_self, eq_self, true_or, or_true, false_or, or_false, tIn, tLe, fLe, tLt, fLt, tEq, fEq, c130, c131 hp, c131 hq, zp, zq, isL]
      have l0 := ln131
      have sp := hR.sh hp
      have sq := hR.sh hq
      have wp := sh_wf (hR.1.2.2.1 p hp) ep
      have wq := sh_wf (hR.1.2.2.1 q hq) eq
      -- the place k of both
      have dif : (∃ k, k ≤ (sv S p).length ∧ ¬ σ 131 (121 * p + k) = σ 131 (121 * q + k)) ↔ ¬ sv S p = sv S q := by
        constructor
        · rintro ⟨k, hk, hne⟩ he
          apply hne
          cases k with
          | zero => rw [Nat.add_zero, Nat.add_zero, zp, zq, he]
          | succ k =>
            have hkl : k < (sv S p).length := by omega
            have a1 := sp.2 k _ (List.getElem?_eq_getElem hkl)
            have a2 := sq.2 k (sv S p)[k] (by rw [← he]; exact List.getElem?_eq_getElem hkl)
            rw [show 121 * p + (k + 1) = 121 * p + 1 + k by omega, show 121 * q + (k + 1) = 121 * q + 1 + k by omega, a1, a2]
        · intro hne
          apply Classical.byContradiction
          intro hall
          apply hne
          have hall' : ∀ k, k ≤ (sv S p).length → σ 131 (121 * p + k) = σ 131 (121 * q + k) := fun k hk => Classical.byContradiction fun h => hall ⟨k, hk, h⟩
          have hlen : (sv S p).length = (sv S q).length := by
            have := hall' 0 (by omega)
            rw [Nat.add_zero, Nat.add_zero, zp, zq] at this
            omega
          apply List.ext_getElem hlen
          intro k h1 h2
          have a0 := hall' (k + 1) (by omega)
          have a1 := sp.2 k _ (List.getElem?_eq_getElem h1)
          have a2 := sq.2 k _ (List.getElem?_eq_getElem h2)
          rw [show 121 * p + (k + 1) = 121 * p + 1 + k by omega, show 121 * q + (k + 1) = 121 * q + 1 + k by omega, a1, a2] at a0
          exact tau_inj (wp.2 _ (List.getElem_mem h1)) (wq.2 _ (List.getElem_mem h2)) a0
      have fin : ∀ (k : Nat) (b : Int), (b = 0 ∧ ¬ sv S p = sv S q) ∨ (b = 1 ∧ (sv S p).length < k ∧ sv S p = sv S q) → WP m201 41 [.inr (.inl 130), .inl (p : Int), .inl (q : Int), .inl b, .inl (k : Int)] [] σ (fun v σ' => v = [.inl (if sv S p = sv S q then 1 else 0)] ∧ RepM σ' S ∧ FrM σ σ') := by
        intro k b hb
        rw [s201_41]
        rcases hb with ⟨rfl, hb⟩ | ⟨rfl, hk, hb⟩
        · by_cases hk : ((sv S p).length : Int) < (k : Int)
          · simp (disch := omega) only [s201_0, s201_1, s201_4, s201_7, s201_8, s201_11, s201_14, s201_16, s201_17, s201_18, s201_19, s201_22, s201_25, s201_26, s201_27, s201_30, s201_33, s201_35, s201_36, s201_37, s201_38, s201_39, s201_43, s201_44, s201_45, s201_48, s201_51, s201_52, s201_55, s201_56, s201_59, s201_61, s201_62, s201_63, s201_65, s201_66, s201_67, s201_68, s201_71, s201_73, s201_74, s201_75, s201_77, s201_78, s201_79, s201_82, s201_83, s201_86, s201_87, s201_88, s201_91, s201_94, s201_95, s201_98, s201_99, s201_102, s201_103, List.cons_append, List.nil_append, if_true, if_false, true_and, and_true, and_self, eq_self, true_or, or_true, false_or, or_false, tIn, tLe, fLe, tLt, fLt, tEq, fEq, c131 hp, zp, hb]
            exact ⟨hR, fun _ _ => rfl⟩
          · simp (disch := omega) only [s201_0, s201_1, s201_4, s201_7, s201_8, s201_11, s201_14, s201_16, s201_17, s201_18, s201_19, s201_22, s201_25, s201_26, s201_27, s201_30, s201_33, s201_35, s201_36, s201_37, s201_38, s201_39, s201_43, s201_44, s201_45, s201_48, s201_51, s201_52, s201_55, s201_56, s201_59, s201_61, s201_62, s201_63, s201_65, s201_66, s201_67, s201_68, s201_71, s201_73, s201_74, s201_75, s201_77, s201_78, s201_79, s201_82, s201_83, s201_86, s201_87, s201_88, s201_91, s201_94, s201_95, s201_98, s201_99, s201_102, s201_103, List.cons_append, List.nil_append, if_true, if_false, true_and, and_true, and_self, eq_self, true_or, or_true, false_or, or_false, tIn, tLe, fLe, tLt, fLt, tEq, fEq, c131 hp, zp, hb]
            exact ⟨hR, fun _ _ => rfl⟩
        · have hk' : (sv S q).length < k := by rw [← hb]; exact hk
          simp (disch := omega) only [s201_0, s201_1, s201_4, s201_7, s201_8, s201_11, s201_14, s201_16, s201_17, s201_18, s201_19, s201_22, s201_25, s201_26, s201_27, s201_30, s201_33, s201_35, s201_36, s201_37, s201_38, s201_39, s201_43, s201_44, s201_45, s201_48, s201_51, s201_52, s201_55, s201_56, s201_59, s201_61, s201_62, s201_63, s201_65, s201_66, s201_67, s201_68, s201_71, s201_73, s201_74, s201_75, s201_77, s201_78, s201_79, s201_82, s201_83, s201_86, s201_87, s201_88, s201_91, s201_94, s201_95, s201_98, s201_99, s201_102, s201_103, List.cons_append, List.nil_append, if_true, if_false, true_and, and_true, and_self, eq_self, true_or, or_true, false_or, or_false, tIn, tLe, fLe, tLt, fLt, tEq, fEq, c131 hp, zp, hb]
          exact ⟨hR, fun _ _ => rfl⟩
      have lp : ∀ (n k : Nat), (sv S p).length + 1 - k = n → (∀ j, j < k → σ 131 (121 * p + j) = σ 131 (121 * q + j)) → WP m201 41 [.inr (.inl 130), .inl (p : Int), .inl (q : Int), .inl 1, .inl (k : Int)] [] σ (fun v σ' => v = [.inl (if sv S p = sv S q then 1 else 0)] ∧ RepM σ' S ∧ FrM σ σ') := by
        intro n
        induction n with
        | zero =>
          intro k hn hj
          refine fin k 1 (Or.inr ⟨rfl, by omega, ?_⟩)
          apply Classical.byContradiction
          intro hne
          obtain ⟨j, hj1, hj2⟩ := dif.mpr hne
          exact hj2 (hj j (by omega))
        | succ n ih =>
          intro k hn hj
          have e1 : (121 * (p : Int) + (k : Int)).toNat = 121 * p + k := by omega
          have e2 : (121 * (q : Int) + (k : Int)).toNat = 121 * q + k := by omega
          rw [s201_41]
          by_cases he : σ 131 (121 * p + k) = σ 131 (121 * q + k)
          · simp (disch := omega) only [s201_0, s201_1, s201_4, s201_7, s201_8, s201_11, s201_14, s201_16, s201_17, s201_18, s201_19, s201_22, s201_25, s201_26, s201_27, s201_30, s201_33, s201_35, s201_36, s201_37, s201_38, s201_39, s201_43, s201_44, s201_45, s201_48, s201_51, s201_52, s201_55, s201_56, s201_59, s201_61, s201_62, s201_63, s201_65, s201_66, s201_67, s201_68, s201_71, s201_73, s201_74, s201_75, s201_77, s201_78, s201_79, s201_82, s201_83, s201_86, s201_87, s201_88, s201_91, s201_94, s201_95, s201_98, s201_99, s201_102, s201_103, List.cons_append, List.nil_append, if_true, if_false, true_and, and_true, and_self, eq_self, true_or, or_true, false_or, or_false, tIn, tLe, fLe, tLt, fLt, tEq, fEq, c131 hp, zp, kd131, ln131, e1, e2, he]
            refine ih (k + 1) (by omega) (fun j hj2 => ?_)
            by_cases e : j = k
            · rw [e]; exact he
            · exact hj j (by omega)
          · simp (disch := omega) only [s201_0, s201_1, s201_4, s201_7, s201_8, s201_11, s201_14, s201_16, s201_17, s201_18, s201_19, s201_22, s201_25, s201_26, s201_27, s201_30, s201_33, s201_35, s201_36, s201_37, s201_38, s201_39, s201_43, s201_44, s201_45, s201_48, s201_51, s201_52, s201_55, s201_56, s201_59, s201_61, s201_62, s201_63, s201_65, s201_66, s201_67, s201_68, s201_71, s201_73, s201_74, s201_75, s201_77, s201_78, s201_79, s201_82, s201_83, s201_86, s201_87, s201_88, s201_91, s201_94, s201_95, s201_98, s201_99, s201_102, s201_103, List.cons_append, List.nil_append, if_true, if_false, true_and, and_true, and_self, eq_self, true_or, or_true, false_or, or_false, tIn, tLe, fLe, tLt, fLt, tEq, fEq, c131 hp, zp, kd131, ln131, e1, e2, he]
            exact fin (k + 1) 0 (Or.inl ⟨rfl, dif.mp ⟨k, by omega, he⟩⟩)
      exact lp ((sv S p).length + 1) 0 rfl (fun j hj => by omega)
    · rw [if_pos (fun q => hy q.2)]
      have gy : ¬ (0 ≤ y ∧ y ≤ 3) := by omega
      simp (disch := omega) only [s201_0, s201_1, s201_4, s201_7, s201_8, s201_11, s201_14, s201_16, s201_17, s201_18, s201_19, s201_22, s201_25, s201_26, s201_27, s201_30, s201_33, s201_35, s201_36, s201_37, s201_38, s201_39, s201_43, s201_44, s201_45, s201_48, s201_51, s201_52, s201_55, s201_56, s201_59, s201_61, s201_62, s201_63, s201_65, s201_66, s201_67, s201_68, s201_71, s201_73, s201_74, s201_75, s201_77, s201_78, s201_79, s201_82, s201_83, s201_86, s201_87, s201_88, s201_91, s201_94, s201_95, s201_98, s201_99, s201_102, s201_103, List.cons_append, List.nil_append, if_true, if_false, true_and, and_true, and_self, eq_self, true_or, or_true, false_or, or_false, tIn, tLe, fLe, tLt, fLt, tEq, fEq, c130, gy]
      exact ⟨hR, fun _ _ => rfl⟩
  · rw [if_pos (fun q => hx q.1)]
    have gx : ¬ (0 ≤ x ∧ x ≤ 3) := by omega
    simp (disch := omega) only [s201_0, s201_1, s201_4, s201_7, s201_8, s201_11, s201_14, s201_16, s201_17, s201_18, s201_19, s201_22, s201_25, s201_26, s201_27, s201_30, s201_33, s201_35, s201_36, s201_37, s201_38, s201_39, s201_43, s201_44, s201_45, s201_48, s201_51, s201_52, s201_55, s201_56, s201_59, s201_61, s201_62, s201_63, s201_65, s201_66, s201_67, s201_68, s201_71, s201_73, s201_74, s201_75, s201_77, s201_78, s201_79, s201_82, s201_83, s201_86, s201_87, s201_88, s201_91, s201_94, s201_95, s201_98, s201_99, s201_102, s201_103, List.cons_append, List.nil_append, if_true, if_false, true_and, and_true, and_self, eq_self, true_or, or_true, false_or, or_false, tIn, tLe, fLe, tLt, fLt, tEq, fEq, c130, gx]
    exact ⟨hR, fun _ _ => rfl⟩
end ME
