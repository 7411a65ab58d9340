/-! kind, sameKind, of: the reference's part -/
section KPR
variable {σ σ0 σ' : aSg} {K : List AV → aSg → Prop} {x y z i w : Int} {S : SS} {T W st : List Int} {r q t a j b k : Nat}
theorem FrJ_M (h : FrJ σ σ') : FrM σ σ' := fun a ha => h.1 a (by omega) (by omega)
theorem RepM_J (hR : RepM σ S) (h : FrJ σ σ') : RepM σ' S := RepM_G hR (FrJ_G h)
theorem m200_ok (hR : RepM σ S) : MM m200 [.inr (.inl 130), .inl x, .inl i] σ (f101 S x i).1 (f101 S x i).2 := by
  unfold MM
  rw [e200]
  unfold f101
  by_cases hx : 0 ≤ x ∧ x < 4
  · rw [if_neg (fun q => q hx)]
    obtain ⟨p, rfl⟩ := Int.eq_ofNat_of_zero_le hx.1
    have hp : p < 4 := by omega
    have sp := hR.sh hp
    have op := hR.1.2.2.1 p hp
    have lp := sh_len op
    have hsz : σ 131 (121 * p) = ((sv S p).length : Int) := sp.1
    simp only [Int.toNat_natCast]
    by_cases hi : i < 0
    · rw [if_pos hi]
      simp (disch := omega) only [s200_0, s200_1, s200_4, s200_7, s200_9, s200_10, s200_11, s200_14, s200_16, s200_17, s200_18, s200_19, s200_22, s200_25, s200_27, s200_28, s200_29, s200_30, s200_33, s200_34, s200_35, s200_38, s200_39, s200_42, s200_43, s200_44, s200_47, s200_48, s200_51, s200_52, s200_53, s200_56, s200_57, List.cons_append, List.nil_append, if_true, if_false, true_and, and_true, and_self, eq_self, true_or, or_true, false_or, or_false, tIn, tLe, fLe, tLt, fLt, tEq, fEq, isL, c130]
      exact ⟨hR, fun _ _ => rfl⟩
    · rw [if_neg hi]
      by_cases ep : sv S p = []
      · rw [if_pos ep]
        have z0 : ((sv S p).length : Int) = 0 := by rw [ep]; rfl
        simp (disch := omega) only [s200_0, s200_1, s200_4, s200_7, s200_9, s200_10, s200_11, s200_14, s200_16, s200_17, s200_18, s200_19, s200_22, s200_25, s200_27, s200_28, s200_29, s200_30, s200_33, s200_34, s200_35, s200_38, s200_39, s200_42, s200_43, s200_44, s200_47, s200_48, s200_51, s200_52, s200_53, s200_56, s200_57, List.cons_append, List.nil_append, if_true, if_false, true_and, and_true, and_self, eq_self, true_or, or_true, false_or, or_false, tIn, tLe, fLe, tLt, fLt, tEq, fEq, isL, c130, c131 hp, hsz]
        exact ⟨hR, fun _ _ => rfl⟩
      · rw [if_neg ep]
        have z0 : 0 < (sv S p).length := List.length_pos_iff.mpr ep
        have wf := sh_wf op ep
        generalize hQ : (fun (v : List AV) (σ' : aSg) => v = [.inl (kdA (sv S p) i)] ∧ RepM σ' S ∧ FrM σ σ') = Q
        unfold kdA at hQ
        simp (disch := omega) only [s200_0, s200_1, s200_4, s200_7, s200_9, s200_10, s200_11, s200_14, s200_16, s200_17, s200_18, s200_19, s200_22, s200_25, s200_27, s200_28, s200_29, s200_30, s200_33, s200_34, s200_35, s200_38, s200_39, s200_42, s200_43, s200_44, s200_47, s200_48, s200_51, s200_52, s200_53, s200_56, s200_57, List.cons_append, List.nil_append, if_true, if_false, true_and, and_true, and_self, eq_self, true_or, or_true, false_or, or_false, tIn, tLe, fLe, tLt, fLt, tEq, fEq, isL, c130, c131 hp, hsz]
        refine wr189 hp sp wf.1 wf.2 lp _ (fun hno σ1 f1 => ?_) (fun hh hb σ1 f1 w1 => ?_) (fun hh hb σ1 f1 => ?_)
        · simp (disch := omega) only [s200_0, s200_1, s200_4, s200_7, s200_9, s200_10, s200_11, s200_14, s200_16, s200_17, s200_18, s200_19, s200_22, s200_25, s200_27, s200_28, s200_29, s200_30, s200_33, s200_34, s200_35, s200_38, s200_39, s200_42, s200_43, s200_44, s200_47, s200_48, s200_51, s200_52, s200_53, s200_56, s200_57, List.cons_append, List.nil_append, if_true, if_false, true_and, and_true, and_self, eq_self, true_or, or_true, false_or, or_false, tIn, tLe, fLe, tLt, fLt, tEq, fEq, isL]
          rw [← hQ, iteC_f hno]
          exact ⟨rfl, RepM_J hR f1, FrJ_M f1⟩
        · have l0 := ln151
          rw [iteC_t hh, iteC_t hb] at hQ
          unfold latOr at hQ
          have b1 := hb.1
          by_cases hg : i < ((kW (sv S p)).length : Int)
          · rw [if_pos ⟨by omega, hg⟩] at hQ
            obtain ⟨k, rfl⟩ := Int.eq_ofNat_of_zero_le (show 0 ≤ i by omega)
            have hkl : k < (kW (sv S p)).length := by omega
            have ev := w1.2 k _ (List.getElem?_eq_getElem hkl)
            simp (disch := omega) only [s200_0, s200_1, s200_4, s200_7, s200_9, s200_10, s200_11, s200_14, s200_16, s200_17, s200_18, s200_19, s200_22, s200_25, s200_27, s200_28, s200_29, s200_30, s200_33, s200_34, s200_35, s200_38, s200_39, s200_42, s200_43, s200_44, s200_47, s200_48, s200_51, s200_52, s200_53, s200_56, s200_57, List.cons_append, List.nil_append, if_true, if_false, true_and, and_true, and_self, eq_self, true_or, or_true, false_or, or_false, tIn, tLe, fLe, tLt, fLt, tEq, fEq, isL, kd151, ln151, Int.toNat_natCast, ev]
            rw [← hQ]
            refine ⟨?_, RepM_J hR f1, FrJ_M f1⟩
            rw [Int.toNat_natCast, List.getD_eq_getElem?_getD, List.getElem?_eq_getElem hkl]
            rfl
          · rw [if_neg (fun q => hg q.2)] at hQ
            simp (disch := omega) only [s200_0, s200_1, s200_4, s200_7, s200_9, s200_10, s200_11, s200_14, s200_16, s200_17, s200_18, s200_19, s200_22, s200_25, s200_27, s200_28, s200_29, s200_30, s200_33, s200_34, s200_35, s200_38, s200_39, s200_42, s200_43, s200_44, s200_47, s200_48, s200_51, s200_52, s200_53, s200_56, s200_57, List.cons_append, List.nil_append, if_true, if_false, true_and, and_true, and_self, eq_self, true_or, or_true, false_or, or_false, tIn, tLe, fLe, tLt, fLt, tEq, fEq, isL]
            rw [← hQ]
            exact ⟨rfl, RepM_J hR f1, FrJ_M f1⟩
        · simp (disch := omega) only [s200_0, s200_1, s200_4, s200_7, s200_9, s200_10, s200_11, s200_14, s200_16, s200_17, s200_18, s200_19, s200_22, s200_25, s200_27, s200_28, s200_29, s200_30, s200_33, s200_34, s200_35, s200_38, s200_39, s200_42, s200_43, s200_44, s200_47, s200_48, s200_51, s200_52, s200_53, s200_56, s200_57, List.cons_append, List.nil_append, if_true, if_false, true_and, and_true, and_self, eq_self, true_or, or_true, false_or, or_false, tIn, tLe, fLe, tLt, fLt, tEq, fEq, isL]
          rw [← hQ, iteC_t hh, iteC_f hb]
          exact ⟨rfl, RepM_J hR f1, FrJ_M f1⟩
  · rw [if_pos hx]
    have gx : ¬ (0 ≤ x ∧ x ≤ 3) := by omega
    simp (disch := omega) only [s200_0, s200_1, s200_4, s200_7, s200_9, s200_10, s200_11, s200_14, s200_16, s200_17, s200_18, s200_19, s200_22, s200_25, s200_27, s200_28, s200_29, s200_30, s200_33, s200_34, s200_35, s200_38, s200_39, s200_42, s200_43, s200_44, s200_47, s200_48, s200_51, s200_52, s200_53, s200_56, s200_57, List.cons_append, List.nil_append, if_true, if_false, true_and, and_true, and_self, eq_self, true_or, or_true, false_or, or_false, tIn, tLe, fLe, tLt, fLt, tEq, fEq, isL, c130, gx]
    exact ⟨hR, fun _ _ => rfl⟩
theorem m202_ok (hR : RepM σ S) : MM m202 [.inr (.inl 130), .inl x, .inl y] σ (f104 S x y).1 (f104 S x y).2 := by
  unfold MM
  rw [e202]
  unfold f104
  by_cases hx : 0 ≤ x ∧ x < 4
  · by_cases hy : 0 ≤ y ∧ y < 4
    · rw [if_neg (fun q => q ⟨hx, hy⟩)]
      obtain ⟨p, rfl⟩ := Int.eq_ofNat_of_zero_le hx.1
      obtain ⟨q, rfl⟩ := Int.eq_ofNat_of_zero_le hy.1
      have hp : p < 4 := by omega
      have hq : q < 4 := by omega
      have zp := shl hR hp
      have zq := shl hR hq
      have sp := hR.sh hp
      have sq := hR.sh hq
      have op := hR.1.2.2.1 p hp
      have oq := hR.1.2.2.1 q hq
      have lp := sh_len op
      have lq := sh_len oq
      have l1 := ln151
      have l3 := ln153
      simp only [Int.toNat_natCast]
      by_cases ep : sv S p = []
      · rw [if_pos (Or.inl ep)]
        simp (disch := omega) only [s202_0, s202_1, s202_4, s202_7, s202_8, s202_11, s202_14, s202_16, s202_17, s202_18, s202_19, s202_22, s202_25, s202_26, s202_27, s202_30, s202_33, s202_35, s202_36, s202_37, s202_38, s202_41, s202_42, s202_43, s202_47, s202_48, s202_51, s202_52, s202_55, s202_57, s202_58, s202_61, s202_63, s202_64, s202_65, s202_68, s202_71, s202_72, s202_73, s202_76, s202_78, s202_79, s202_81, s202_84, s202_86, s202_88, s202_91, s202_93, s202_94, s202_95, s202_97, s202_100, s202_101, s202_104, s202_105, s202_107, s202_108, s202_112, s202_113, s202_116, s202_118, s202_121, s202_122, s202_125, s202_127, s202_128, s202_129, s202_132, s202_134, s202_135, s202_138, s202_139, s202_142, s202_143, s202_145, s202_148, s202_151, s202_153, s202_156, s202_157, s202_160, s202_161, List.cons_append, List.nil_append, if_true, if_false, true_and, and_true, and_self, eq_self, true_or, or_true, false_or, or_false, tIn, tLe, fLe, tLt, fLt, tEq, fEq, isL, c130, c131 hp, zp, ep, List.length_nil, Int.natCast_zero]
        exact ⟨hR, fun _ _ => rfl⟩
      have pp : 0 < (sv S p).length := List.length_pos_iff.mpr ep
      by_cases eq : sv S q = []
      · rw [if_pos (Or.inr eq)]
        simp (disch := omega) only [s202_0, s202_1, s202_4, s202_7, s202_8, s202_11, s202_14, s202_16, s202_17, s202_18, s202_19, s202_22, s202_25, s202_26, s202_27, s202_30, s202_33, s202_35, s202_36, s202_37, s202_38, s202_41, s202_42, s202_43, s202_47, s202_48, s202_51, s202_52, s202_55, s202_57, s202_58, s202_61, s202_63, s202_64, s202_65, s202_68, s202_71, s202_72, s202_73, s202_76, s202_78, s202_79, s202_81, s202_84, s202_86, s202_88, s202_91, s202_93, s202_94, s202_95, s202_97, s202_100, s202_101, s202_104, s202_105, s202_107, s202_108, s202_112, s202_113, s202_116, s202_118, s202_121, s202_122, s202_125, s202_127, s202_128, s202_129, s202_132, s202_134, s202_135, s202_138, s202_139, s202_142, s202_143, s202_145, s202_148, s202_151, s202_153, s202_156, s202_157, s202_160, s202_161, List.cons_append, List.nil_append, if_true, if_false, true_and, and_true, and_self, eq_self, true_or, or_true, false_or, or_false, tIn, tLe, fLe, tLt, fLt, tEq, fEq, isL, c130, c131 hp, c131 hq, zp, zq, eq, List.length_nil, Int.natCast_zero]
        exact ⟨hR, fun _ _ => rfl⟩
      have pq : 0 < (sv S q).length := List.length_pos_iff.mpr eq
      rw [if_neg (by simp [ep, eq])]
      have wp := sh_wf op ep
      have wq := sh_wf oq eq
      generalize hQ : (fun (v : List AV) (σ' : aSg) => v = [.inl (skA (sv S p) (sv S q))] ∧ RepM σ' S ∧ FrM σ σ') = Q
      unfold skA at hQ
      have fin : ∀ (σ5 : aSg) (A B : List Int) (m3 m4 : Int) (l5 l6 : AV), FrJ σ σ5 ∨ (RepM σ5 S ∧ FrM σ σ5) → ¬ (hasK (sv S p) ∧ ¬ kB (sv S p)) → ¬ (hasK (sv S q) ∧ ¬ kB (sv S q)) → kwL (sv S p) = A → kwL (sv S q) = B → A.length ≤ 200 → B.length ≤ 200 → (m3 = (A.length : Int) ∨ (m3 = -1 ∧ A = [])) → (m4 = (B.length : Int) ∨ (m4 = -1 ∧ B = [])) → (m3 = m4 ↔ A.length = B.length) → (∀ (k : Nat) (c : Int), A[k]? = some c → σ5 153 k = c) → (∀ (k : Nat) (c : Int), B[k]? = some c → σ5 151 k = c) → WP m202 94 [.inr (.inl 130), .inl (p : Int), .inl (q : Int), .inl m3, .inl m4, l5, l6] [] σ5 Q := by
        intro σ5 A B m3 m4 l5 l6 F5 nf1 nf2 eA eB bA bB h3 h4 h34 hA hB
        have done : ∀ v : Int, (v = if A = B then 1 else 0) → Q [.inl v] σ5 := by
          intro v hv
          rw [← hQ, iteC_f (fun z => z.elim nf1 nf2), eA, eB]
          refine ⟨by rw [hv], ?_, ?_⟩
          · rcases F5 with f | f
            · exact RepM_J hR f
            · exact f.1
          · rcases F5 with f | f
            · exact FrJ_M f
            · exact f.2
        have lp2 : ∀ (m c : Nat) (b : Int), c + m = A.length → A.length = B.length → (b = 1 → ∀ k, k < c → A[k]? = B[k]?) → (b = 0 → ¬ A = B) → b = 0 ∨ b = 1 → m3 = (A.length : Int) ∨ A.length = 0 ∧ m3 ≤ 0 → WP m202 110 [.inr (.inl 130), .inl (p : Int), .inl (q : Int), .inl m3, .inl m4, .inl b, .inl (c : Int)] [] σ5 Q := by
          intro m
          induction m with
          | zero =>
            intro c b hc hl hb1 hb0 hb hm
            rw [s202_110]
            rcases hb with rfl | rfl
            · simp (disch := omega) only [s202_0, s202_1, s202_4, s202_7, s202_8, s202_11, s202_14, s202_16, s202_17, s202_18, s202_19, s202_22, s202_25, s202_26, s202_27, s202_30, s202_33, s202_35, s202_36, s202_37, s202_38, s202_41, s202_42, s202_43, s202_47, s202_48, s202_51, s202_52, s202_55, s202_57, s202_58, s202_61, s202_63, s202_64, s202_65, s202_68, s202_71, s202_72, s202_73, s202_76, s202_78, s202_79, s202_81, s202_84, s202_86, s202_88, s202_91, s202_93, s202_94, s202_95, s202_97, s202_100, s202_101, s202_104, s202_105, s202_107, s202_108, s202_112, s202_113, s202_116, s202_118, s202_121, s202_122, s202_125, s202_127, s202_128, s202_129, s202_132, s202_134, s202_135, s202_138, s202_139, s202_142, s202_143, s202_145, s202_148, s202_151, s202_153, s202_156, s202_157, s202_160, s202_161, List.cons_append, List.nil_append, if_true, if_false, true_and, and_true, and_self, eq_self, true_or, or_true, false_or, or_false, tIn, tLe, fLe, tLt, fLt, tEq, fEq, isL]
              exact done 0 (by rw [if_neg (hb0 rfl)])
            · have e : A = B := List.ext_getElem? (fun k => by
                by_cases g : k < c
                · exact hb1 rfl k g
                · rw [List.getElem?_eq_none (by omega), List.getElem?_eq_none (by omega)])
              simp (disch := omega) only [s202_0, s202_1, s202_4, s202_7, s202_8, s202_11, s202_14, s202_16, s202_17, s202_18, s202_19, s202_22, s202_25, s202_26, s202_27, s202_30, s202_33, s202_35, s202_36, s202_37, s202_38, s202_41, s202_42, s202_43, s202_47, s202_48, s202_51, s202_52, s202_55, s202_57, s202_58, s202_61, s202_63, s202_64, s202_65, s202_68, s202_71, s202_72, s202_73, s202_76, s202_78, s202_79, s202_81, s202_84, s202_86, s202_88, s202_91, s202_93, s202_94, s202_95, s202_97, s202_100, s202_101, s202_104, s202_105, s202_107, s202_108, s202_112, s202_113, s202_116, s202_118, s202_121, s202_122, s202_125, s202_127, s202_128, s202_129, s202_132, s202_134, s202_135, s202_138, s202_139, s202_142, s202_143, s202_145, s202_148, s202_151, s202_153, s202_156, s202_157, s202_160, s202_161, List.cons_append, List.nil_append, if_true, if_false, true_and, and_true, and_self, eq_self, true_or, or_true, false_or, or_false, tIn, tLe, fLe, tLt, fLt, tEq, fEq, isL]
              exact done 1 (by rw [if_pos e])
          | succ m ih =>
            intro c b hc hl hb1 hb0 hb hm
            have ec : (c : Int) + 1 = ((c + 1 : Nat) : Int) := by omega
            have m3e : m3 = (A.length : Int) := by omega
            rw [s202_110]
            rcases hb with rfl | rfl
            · simp (disch := omega) only [s202_0, s202_1, s202_4, s202_7, s202_8, s202_11, s202_14, s202_16, s202_17, s202_18, s202_19, s202_22, s202_25, s202_26, s202_27, s202_30, s202_33, s202_35, s202_36, s202_37, s202_38, s202_41, s202_42, s202_43, s202_47, s202_48, s202_51, s202_52, s202_55, s202_57, s202_58, s202_61, s202_63, s202_64, s202_65, s202_68, s202_71, s202_72, s202_73, s202_76, s202_78, s202_79, s202_81, s202_84, s202_86, s202_88, s202_91, s202_93, s202_94, s202_95, s202_97, s202_100, s202_101, s202_104, s202_105, s202_107, s202_108, s202_112, s202_113, s202_116, s202_118, s202_121, s202_122, s202_125, s202_127, s202_128, s202_129, s202_132, s202_134, s202_135, s202_138, s202_139, s202_142, s202_143, s202_145, s202_148, s202_151, s202_153, s202_156, s202_157, s202_160, s202_161, List.cons_append, List.nil_append, if_true, if_false, true_and, and_true, and_self, eq_self, true_or, or_true, false_or, or_false, tIn, tLe, fLe, tLt, fLt, tEq, fEq, isL]
              exact done 0 (by rw [if_neg (hb0 rfl)])
            · have hcA : c < A.length := by omega
              have hcB : c < B.length := by omega
              have vA := hA c _ (List.getElem?_eq_getElem hcA)
              have vB := hB c _ (List.getElem?_eq_getElem hcB)
              by_cases g : A[c] = B[c]
              · simp (disch := omega) only [s202_0, s202_1, s202_4, s202_7, s202_8, s202_11, s202_14, s202_16, s202_17, s202_18, s202_19, s202_22, s202_25, s202_26, s202_27, s202_30, s202_33, s202_35, s202_36, s202_37, s202_38, s202_41, s202_42, s202_43, s202_47, s202_48, s202_51, s202_52, s202_55, s202_57, s202_58, s202_61, s202_63, s202_64, s202_65, s202_68, s202_71, s202_72, s202_73, s202_76, s202_78, s202_79, s202_81, s202_84, s202_86, s202_88, s202_91, s202_93, s202_94, s202_95, s202_97, s202_100, s202_101, s202_104, s202_105, s202_107, s202_108, s202_112, s202_113, s202_116, s202_118, s202_121, s202_122, s202_125, s202_127, s202_128, s202_129, s202_132, s202_134, s202_135, s202_138, s202_139, s202_142, s202_143, s202_145, s202_148, s202_151, s202_153, s202_156, s202_157, s202_160, s202_161, List.cons_append, List.nil_append, if_true, if_false, true_and, and_true, and_self, eq_self, true_or, or_true, false_or, or_false, tIn, tLe, fLe, tLt, fLt, tEq, fEq, isL, kd153, ln153, kd151, ln151, Int.toNat_natCast, vA, vB, g, ec]
                exact ih (c + 1) 1 (by omega) hl (fun _ k hk => by
                  by_cases e : k = c
                  · rw [e, List.getElem?_eq_getElem hcA, List.getElem?_eq_getElem hcB, g]
                  · exact hb1 rfl k (by omega)) (fun z => by omega) (Or.inr rfl) hm
              · simp (disch := omega) only [s202_0, s202_1, s202_4, s202_7, s202_8, s202_11, s202_14, s202_16, s202_17, s202_18, s202_19, s202_22, s202_25, s202_26, s202_27, s202_30, s202_33, s202_35, s202_36, s202_37, s202_38, s202_41, s202_42, s202_43, s202_47, s202_48, s202_51, s202_52, s202_55, s202_57, s202_58, s202_61, s202_63, s202_64, s202_65, s202_68, s202_71, s202_72, s202_73, s202_76, s202_78, s202_79, s202_81, s202_84, s202_86, s202_88, s202_91, s202_93, s202_94, s202_95, s202_97, s202_100, s202_101, s202_104, s202_105, s202_107, s202_108, s202_112, s202_113, s202_116, s202_118, s202_121, s202_122, s202_125, s202_127, s202_128, s202_129, s202_132, s202_134, s202_135, s202_138, s202_139, s202_142, s202_143, s202_145, s202_148, s202_151, s202_153, s202_156, s202_157, s202_160, s202_161, List.cons_append, List.nil_append, if_true, if_false, true_and, and_true, and_self, eq_self, true_or, or_true, false_or, or_false, tIn, tLe, fLe, tLt, fLt, tEq, fEq, isL, kd153, ln153, kd151, ln151, Int.toNat_natCast, vA, vB, g, ec]
                exact ih (c + 1) 0 (by omega) hl (fun z => by omega) (fun _ z => g (by simp [z])) (Or.inl rfl) hm
        rw [s202_94]
        by_cases g : A.length = B.length
        · have g' := h34.mpr g
          subst g'
          simp (disch := omega) only [s202_0, s202_1, s202_4, s202_7, s202_8, s202_11, s202_14, s202_16, s202_17, s202_18, s202_19, s202_22, s202_25, s202_26, s202_27, s202_30, s202_33, s202_35, s202_36, s202_37, s202_38, s202_41, s202_42, s202_43, s202_47, s202_48, s202_51, s202_52, s202_55, s202_57, s202_58, s202_61, s202_63, s202_64, s202_65, s202_68, s202_71, s202_72, s202_73, s202_76, s202_78, s202_79, s202_81, s202_84, s202_86, s202_88, s202_91, s202_93, s202_94, s202_95, s202_97, s202_100, s202_101, s202_104, s202_105, s202_107, s202_108, s202_112, s202_113, s202_116, s202_118, s202_121, s202_122, s202_125, s202_127, s202_128, s202_129, s202_132, s202_134, s202_135, s202_138, s202_139, s202_142, s202_143, s202_145, s202_148, s202_151, s202_153, s202_156, s202_157, s202_160, s202_161, List.cons_append, List.nil_append, if_true, if_false, true_and, and_true, and_self, eq_self, true_or, or_true, false_or, or_false, tIn, tLe, fLe, tLt, fLt, tEq, fEq, isL]
          exact lp2 A.length 0 1 (by omega) g (fun _ k hk => by omega) (fun z => by omega) (Or.inr rfl) (by
            rcases h3 with z | z
            · exact Or.inl z
            · right; rw [z.2, z.1]; simp)
        · have g' : ¬ m3 = m4 := fun z => g (h34.mp z)
          have z0 : (0 : Int) = ((0 : Nat) : Int) := rfl
          simp (disch := omega) only [s202_0, s202_1, s202_4, s202_7, s202_8, s202_11, s202_14, s202_16, s202_17, s202_18, s202_19, s202_22, s202_25, s202_26, s202_27, s202_30, s202_33, s202_35, s202_36, s202_37, s202_38, s202_41, s202_42, s202_43, s202_47, s202_48, s202_51, s202_52, s202_55, s202_57, s202_58, s202_61, s202_63, s202_64, s202_65, s202_68, s202_71, s202_72, s202_73, s202_76, s202_78, s202_79, s202_81, s202_84, s202_86, s202_88, s202_91, s202_93, s202_94, s202_95, s202_97, s202_100, s202_101, s202_104, s202_105, s202_107, s202_108, s202_112, s202_113, s202_116, s202_118, s202_121, s202_122, s202_125, s202_127, s202_128, s202_129, s202_132, s202_134, s202_135, s202_138, s202_139, s202_142, s202_143, s202_145, s202_148, s202_151, s202_153, s202_156, s202_157, s202_160, s202_161, List.cons_append, List.nil_append, if_true, if_false, true_and, and_true, and_self, eq_self, true_or, or_true, false_or, or_false, tIn, tLe, fLe, tLt, fLt, tEq, fEq, isL, g']
          have nAB : ¬ A = B := fun z => g (by rw [z])
          rw [s202_110]
          by_cases gm : m3 ≤ 0
          · simp (disch := omega) only [s202_0, s202_1, s202_4, s202_7, s202_8, s202_11, s202_14, s202_16, s202_17, s202_18, s202_19, s202_22, s202_25, s202_26, s202_27, s202_30, s202_33, s202_35, s202_36, s202_37, s202_38, s202_41, s202_42, s202_43, s202_47, s202_48, s202_51, s202_52, s202_55, s202_57, s202_58, s202_61, s202_63, s202_64, s202_65, s202_68, s202_71, s202_72, s202_73, s202_76, s202_78, s202_79, s202_81, s202_84, s202_86, s202_88, s202_91, s202_93, s202_94, s202_95, s202_97, s202_100, s202_101, s202_104, s202_105, s202_107, s202_108, s202_112, s202_113, s202_116, s202_118, s202_121, s202_122, s202_125, s202_127, s202_128, s202_129, s202_132, s202_134, s202_135, s202_138, s202_139, s202_142, s202_143, s202_145, s202_148, s202_151, s202_153, s202_156, s202_157, s202_160, s202_161, List.cons_append, List.nil_append, if_true, if_false, true_and, and_true, and_self, eq_self, true_or, or_true, false_or, or_false, tIn, tLe, fLe, tLt, fLt, tEq, fEq, isL]
            exact done 0 (by rw [if_neg nAB])
          · simp (disch := omega) only [s202_0, s202_1, s202_4, s202_7, s202_8, s202_11, s202_14, s202_16, s202_17, s202_18, s202_19, s202_22, s202_25, s202_26, s202_27, s202_30, s202_33, s202_35, s202_36, s202_37, s202_38, s202_41, s202_42, s202_43, s202_47, s202_48, s202_51, s202_52, s202_55, s202_57, s202_58, s202_61, s202_63, s202_64, s202_65, s202_68, s202_71, s202_72, s202_73, s202_76, s202_78, s202_79, s202_81, s202_84, s202_86, s202_88, s202_91, s202_93, s202_94, s202_95, s202_97, s202_100, s202_101, s202_104, s202_105, s202_107, s202_108, s202_112, s202_113, s202_116, s202_118, s202_121, s202_122, s202_125, s202_127, s202_128, s202_129, s202_132, s202_134, s202_135, s202_138, s202_139, s202_142, s202_143, s202_145, s202_148, s202_151, s202_153, s202_156, s202_157, s202_160, s202_161, List.cons_append, List.nil_append, if_true, if_false, true_and, and_true, and_self, eq_self, true_or, or_true, false_or, or_false, tIn, tLe, fLe, tLt, fLt, tEq, fEq, isL]
            exact done 0 (by rw [if_neg nAB])
      have nFul : ∀ (A : List Int), A.length ≤ 200 → ¬ (A.length : Int) = -1000000004 := fun A _ => by omega
      have two : ∀ (σ4 : aSg) (A : List Int) (m3 l4 : Int) (l5 l6 : AV), RepM σ4 S → FrM σ σ4 → ¬ (hasK (sv S p) ∧ ¬ kB (sv S p)) → kwL (sv S p) = A → A.length ≤ 200 → (m3 = (A.length : Int) ∧ A ≠ [] ∨ (m3 = -1 ∧ A = [])) → (∀ (k : Nat) (c : Int), A[k]? = some c → σ4 153 k = c) → WP m202 71 [.inr (.inl 130), .inl (p : Int), .inl (q : Int), .inl m3, .inl l4, l5, l6] [] σ4 Q := by
        intro σ4 A m3 l4 l5 l6 R4 F4 nf1 eA bA h3 hA
        have sq4 := R4.sh hq
        have h3' : m3 = (A.length : Int) ∨ (m3 = -1 ∧ A = []) := by
          rcases h3 with z | z
          · exact Or.inl z.1
          · exact Or.inr z
        have n3 : ¬ m3 = -1000000004 := by
          rcases h3 with z | z
          · omega
          · omega
        rw [s202_71]
        simp (disch := omega) only [s202_0, s202_1, s202_4, s202_7, s202_8, s202_11, s202_14, s202_16, s202_17, s202_18, s202_19, s202_22, s202_25, s202_26, s202_27, s202_30, s202_33, s202_35, s202_36, s202_37, s202_38, s202_41, s202_42, s202_43, s202_47, s202_48, s202_51, s202_52, s202_55, s202_57, s202_58, s202_61, s202_63, s202_64, s202_65, s202_68, s202_71, s202_72, s202_73, s202_76, s202_78, s202_79, s202_81, s202_84, s202_86, s202_88, s202_91, s202_93, s202_95, s202_97, s202_100, s202_101, s202_104, s202_105, s202_107, s202_108, s202_112, s202_113, s202_116, s202_118, s202_121, s202_122, s202_125, s202_127, s202_128, s202_129, s202_132, s202_134, s202_135, s202_138, s202_139, s202_142, s202_143, s202_145, s202_148, s202_151, s202_153, s202_156, s202_157, s202_160, s202_161, List.cons_append, List.nil_append, if_true, if_false, true_and, and_true, and_self, eq_self, true_or, or_true, false_or, or_false, tIn, tLe, fLe, tLt, fLt, tEq, fEq, isL]
        refine wr189 hq sq4 wq.1 wq.2 lq _ (fun hno σ5 f5 => ?_) (fun hh hb σ5 f5 w5 => ?_) (fun hh hb σ5 f5 => ?_)
        · simp (disch := omega) only [s202_0, s202_1, s202_4, s202_7, s202_8, s202_11, s202_14, s202_16, s202_17, s202_18, s202_19, s202_22, s202_25, s202_26, s202_27, s202_30, s202_33, s202_35, s202_36, s202_37, s202_38, s202_41, s202_42, s202_43, s202_47, s202_48, s202_51, s202_52, s202_55, s202_57, s202_58, s202_61, s202_63, s202_64, s202_65, s202_68, s202_71, s202_72, s202_73, s202_76, s202_78, s202_79, s202_81, s202_84, s202_86, s202_88, s202_91, s202_93, s202_95, s202_97, s202_100, s202_101, s202_104, s202_105, s202_107, s202_108, s202_112, s202_113, s202_116, s202_118, s202_121, s202_122, s202_125, s202_127, s202_128, s202_129, s202_132, s202_134, s202_135, s202_138, s202_139, s202_142, s202_143, s202_145, s202_148, s202_151, s202_153, s202_156, s202_157, s202_160, s202_161, List.cons_append, List.nil_append, if_true, if_false, true_and, and_true, and_self, eq_self, true_or, or_true, false_or, or_false, tIn, tLe, fLe, tLt, fLt, tEq, fEq, isL, n3]
          refine fin σ5 A [] m3 (-1) _ _ (Or.inr ⟨RepM_J R4 f5, fun a ha => (FrJ_M f5 a ha).trans (F4 a ha)⟩) nf1 (fun z => hno z.1) eA (by unfold kwL; rw [iteC_f hno]) bA (by simp) h3' (Or.inr ⟨rfl, rfl⟩) ?_ (fun k c hc => by rw [f5.1 153 (by omega) (by omega)]; exact hA k c hc) (fun k c hc => by simp at hc)
          rcases h3 with ⟨z1, z2⟩ | ⟨z1, z2⟩
          · have := List.length_pos_iff.mpr z2
            constructor
            · intro e; omega
            · intro e; simp at e; exact absurd e z2
          · rw [z1, z2]; simp
        · have n4 : ¬ ((kW (sv S q)).length : Int) = -1000000004 := by omega
          have kn := kW_ne (T := sv S q)
          have kp := List.length_pos_iff.mpr kn
          simp (disch := omega) only [s202_0, s202_1, s202_4, s202_7, s202_8, s202_11, s202_14, s202_16, s202_17, s202_18, s202_19, s202_22, s202_25, s202_26, s202_27, s202_30, s202_33, s202_35, s202_36, s202_37, s202_38, s202_41, s202_42, s202_43, s202_47, s202_48, s202_51, s202_52, s202_55, s202_57, s202_58, s202_61, s202_63, s202_64, s202_65, s202_68, s202_71, s202_72, s202_73, s202_76, s202_78, s202_79, s202_81, s202_84, s202_86, s202_88, s202_91, s202_93, s202_95, s202_97, s202_100, s202_101, s202_104, s202_105, s202_107, s202_108, s202_112, s202_113, s202_116, s202_118, s202_121, s202_122, s202_125, s202_127, s202_128, s202_129, s202_132, s202_134, s202_135, s202_138, s202_139, s202_142, s202_143, s202_145, s202_148, s202_151, s202_153, s202_156, s202_157, s202_160, s202_161, List.cons_append, List.nil_append, if_true, if_false, true_and, and_true, and_self, eq_self, true_or, or_true, false_or, or_false, tIn, tLe, fLe, tLt, fLt, tEq, fEq, isL, n3, n4]
          refine fin σ5 A (kW (sv S q)) m3 _ _ _ (Or.inr ⟨RepM_J R4 f5, fun a ha => (FrJ_M f5 a ha).trans (F4 a ha)⟩) nf1 (fun z => z.2 hb) eA (by unfold kwL; rw [iteC_t hh]) bA hb.1 h3' (Or.inl rfl) ?_ (fun k c hc => by rw [f5.1 153 (by omega) (by omega)]; exact hA k c hc) (fun k c hc => w5.2 k c hc)
          rcases h3 with ⟨z1, z2⟩ | ⟨z1, z2⟩
          · omega
          · rw [z2, z1]; simp only [List.length_nil]; omega
        · simp (disch := omega) only [s202_0, s202_1, s202_4, s202_7, s202_8, s202_11, s202_14, s202_16, s202_17, s202_18, s202_19, s202_22, s202_25, s202_26, s202_27, s202_30, s202_33, s202_35, s202_36, s202_37, s202_38, s202_41, s202_42, s202_43, s202_47, s202_48, s202_51, s202_52, s202_55, s202_57, s202_58, s202_61, s202_63, s202_64, s202_65, s202_68, s202_71, s202_72, s202_73, s202_76, s202_78, s202_79, s202_81, s202_84, s202_86, s202_88, s202_91, s202_93, s202_95, s202_97, s202_100, s202_101, s202_104, s202_105, s202_107, s202_108, s202_112, s202_113, s202_116, s202_118, s202_121, s202_122, s202_125, s202_127, s202_128, s202_129, s202_132, s202_134, s202_135, s202_138, s202_139, s202_142, s202_143, s202_145, s202_148, s202_151, s202_153, s202_156, s202_157, s202_160, s202_161, List.cons_append, List.nil_append, if_true, if_false, true_and, and_true, and_self, eq_self, true_or, or_true, false_or, or_false, tIn, tLe, fLe, tLt, fLt, tEq, fEq, isL, n3]
          rw [← hQ, iteC_t (Or.inr ⟨hh, hb⟩)]
          exact ⟨rfl, RepM_J R4 f5, fun a ha => (FrJ_M f5 a ha).trans (F4 a ha)⟩
      have cpy : ∀ (A : List Int) (σ1 : aSg), A.length ≤ 200 → RepM σ1 S → FrM σ σ1 → wrM σ1 A → ¬ (hasK (sv S p) ∧ ¬ kB (sv S p)) → kwL (sv S p) = A → A ≠ [] → ∀ (m c : Nat) (σ4 : aSg) (l5 l6 : AV), c + m = A.length → (∀ a, a ≠ 153 → σ4 a = σ1 a) → (∀ (k : Nat) (x : Int), k < c → A[k]? = some x → σ4 153 k = x) → WP m202 45 [.inr (.inl 130), .inl (p : Int), .inl (q : Int), .inl (A.length : Int), .inl (c : Int), l5, l6] [] σ4 Q := by
        intro A σ1 bA R1 F1 w1 nf1 eA nA m
        induction m with
        | zero =>
          intro c σ4 l5 l6 hc f4 h4
          have ec : (c : Int) = (A.length : Int) := by omega
          rw [s202_45]
          simp (disch := omega) only [s202_0, s202_1, s202_4, s202_7, s202_8, s202_11, s202_14, s202_16, s202_17, s202_18, s202_19, s202_22, s202_25, s202_26, s202_27, s202_30, s202_33, s202_35, s202_36, s202_37, s202_38, s202_41, s202_42, s202_43, s202_47, s202_48, s202_51, s202_52, s202_55, s202_57, s202_58, s202_61, s202_63, s202_64, s202_65, s202_68, s202_72, s202_73, s202_76, s202_78, s202_79, s202_81, s202_84, s202_86, s202_88, s202_91, s202_93, s202_94, s202_95, s202_97, s202_100, s202_101, s202_104, s202_105, s202_107, s202_108, s202_112, s202_113, s202_116, s202_118, s202_121, s202_122, s202_125, s202_127, s202_128, s202_129, s202_132, s202_134, s202_135, s202_138, s202_139, s202_142, s202_143, s202_145, s202_148, s202_151, s202_153, s202_156, s202_157, s202_160, s202_161, List.cons_append, List.nil_append, if_true, if_false, true_and, and_true, and_self, eq_self, true_or, or_true, false_or, or_false, tIn, tLe, fLe, tLt, fLt, tEq, fEq, isL, ec]
          refine two σ4 A _ _ _ _ (R1.keep (f4 131 (by omega)) (f4 132 (by omega)) (f4 133 (by omega)) ⟨by rw [f4 130 (by omega)], by rw [f4 130 (by omega)], by rw [f4 130 (by omega)]⟩) (fun a ha => (f4 a (by omega)).trans (F1 a ha)) nf1 eA bA (Or.inl ⟨rfl, nA⟩) (fun k x hk => h4 k x ?_ hk)
          rcases Nat.lt_or_ge k c with z | z
          · exact z
          · rw [List.getElem?_eq_none (by omega)] at hk; exact absurd hk (by simp)
        | succ m ih =>
          intro c σ4 l5 l6 hc f4 h4
          have ec : (c : Int) + 1 = ((c + 1 : Nat) : Int) := by omega
          have hcA : c < A.length := by omega
          have vA : σ4 151 c = A[c] := by rw [f4 151 (by omega)]; exact w1.2 c _ (List.getElem?_eq_getElem hcA)
          rw [s202_45]
          simp (disch := omega) only [s202_0, s202_1, s202_4, s202_7, s202_8, s202_11, s202_14, s202_16, s202_17, s202_18, s202_19, s202_22, s202_25, s202_26, s202_27, s202_30, s202_33, s202_35, s202_36, s202_37, s202_38, s202_41, s202_42, s202_43, s202_47, s202_48, s202_51, s202_52, s202_55, s202_57, s202_58, s202_61, s202_63, s202_64, s202_65, s202_68, s202_72, s202_73, s202_76, s202_78, s202_79, s202_81, s202_84, s202_86, s202_88, s202_91, s202_93, s202_94, s202_95, s202_97, s202_100, s202_101, s202_104, s202_105, s202_107, s202_108, s202_112, s202_113, s202_116, s202_118, s202_121, s202_122, s202_125, s202_127, s202_128, s202_129, s202_132, s202_134, s202_135, s202_138, s202_139, s202_142, s202_143, s202_145, s202_148, s202_151, s202_153, s202_156, s202_157, s202_160, s202_161, List.cons_append, List.nil_append, if_true, if_false, true_and, and_true, and_self, eq_self, true_or, or_true, false_or, or_false, tIn, tLe, fLe, tLt, fLt, tEq, fEq, isL, kd153, ln153, kd151, ln151, Int.toNat_natCast, vA, ec]
          refine ih (c + 1) (aup σ4 153 c A[c]) _ _ (by omega) (fun a ha => by rw [aup_f ha]; exact f4 a ha) (fun k x hk hx => ?_)
          by_cases e : k = c
          · subst e
            rw [aup_s]
            rw [List.getElem?_eq_getElem hcA] at hx
            simpa using hx
          · rw [aup_n2 e]; exact h4 k x (by omega) hx
      simp (disch := omega) only [s202_0, s202_1, s202_4, s202_7, s202_8, s202_11, s202_14, s202_16, s202_17, s202_18, s202_19, s202_22, s202_25, s202_26, s202_27, s202_30, s202_33, s202_35, s202_36, s202_37, s202_38, s202_41, s202_42, s202_43, s202_47, s202_48, s202_51, s202_52, s202_55, s202_57, s202_58, s202_61, s202_63, s202_64, s202_65, s202_68, s202_72, s202_73, s202_76, s202_78, s202_79, s202_81, s202_84, s202_86, s202_88, s202_91, s202_93, s202_94, s202_95, s202_97, s202_100, s202_101, s202_104, s202_105, s202_107, s202_108, s202_112, s202_113, s202_116, s202_118, s202_121, s202_122, s202_125, s202_127, s202_128, s202_129, s202_132, s202_134, s202_135, s202_138, s202_139, s202_142, s202_143, s202_145, s202_148, s202_151, s202_153, s202_156, s202_157, s202_160, s202_161, List.cons_append, List.nil_append, if_true, if_false, true_and, and_true, and_self, eq_self, true_or, or_true, false_or, or_false, tIn, tLe, fLe, tLt, fLt, tEq, fEq, isL, c130, c131 hp, c131 hq, zp, zq]
      refine wr189 hp sp wp.1 wp.2 lp _ (fun hno σ1 f1 => ?_) (fun hh hb σ1 f1 w1 => ?_) (fun hh hb σ1 f1 => ?_)
      · simp (disch := omega) only [s202_0, s202_1, s202_4, s202_7, s202_8, s202_11, s202_14, s202_16, s202_17, s202_18, s202_19, s202_22, s202_25, s202_26, s202_27, s202_30, s202_33, s202_35, s202_36, s202_37, s202_38, s202_41, s202_42, s202_43, s202_47, s202_48, s202_51, s202_52, s202_55, s202_57, s202_58, s202_61, s202_63, s202_64, s202_65, s202_68, s202_72, s202_73, s202_76, s202_78, s202_79, s202_81, s202_84, s202_86, s202_88, s202_91, s202_93, s202_94, s202_95, s202_97, s202_100, s202_101, s202_104, s202_105, s202_107, s202_108, s202_112, s202_113, s202_116, s202_118, s202_121, s202_122, s202_125, s202_127, s202_128, s202_129, s202_132, s202_134, s202_135, s202_138, s202_139, s202_142, s202_143, s202_145, s202_148, s202_151, s202_153, s202_156, s202_157, s202_160, s202_161, List.cons_append, List.nil_append, if_true, if_false, true_and, and_true, and_self, eq_self, true_or, or_true, false_or, or_false, tIn, tLe, fLe, tLt, fLt, tEq, fEq, isL]
        rw [s202_45]
        simp (disch := omega) only [s202_0, s202_1, s202_4, s202_7, s202_8, s202_11, s202_14, s202_16, s202_17, s202_18, s202_19, s202_22, s202_25, s202_26, s202_27, s202_30, s202_33, s202_35, s202_36, s202_37, s202_38, s202_41, s202_42, s202_43, s202_47, s202_48, s202_51, s202_52, s202_55, s202_57, s202_58, s202_61, s202_63, s202_64, s202_65, s202_68, s202_72, s202_73, s202_76, s202_78, s202_79, s202_81, s202_84, s202_86, s202_88, s202_91, s202_93, s202_94, s202_95, s202_97, s202_100, s202_101, s202_104, s202_105, s202_107, s202_108, s202_112, s202_113, s202_116, s202_118, s202_121, s202_122, s202_125, s202_127, s202_128, s202_129, s202_132, s202_134, s202_135, s202_138, s202_139, s202_142, s202_143, s202_145, s202_148, s202_151, s202_153, s202_156, s202_157, s202_160, s202_161, List.cons_append, List.nil_append, if_true, if_false, true_and, and_true, and_self, eq_self, true_or, or_true, false_or, or_false, tIn, tLe, fLe, tLt, fLt, tEq, fEq, isL]
        exact two σ1 [] (-1) _ _ _ (RepM_J hR f1) (FrJ_M f1) (fun z => hno z.1) (by unfold kwL; rw [iteC_f hno]) (by simp) (Or.inr ⟨rfl, rfl⟩) (fun k c hc => by simp at hc)
      · simp (disch := omega) only [s202_0, s202_1, s202_4, s202_7, s202_8, s202_11, s202_14, s202_16, s202_17, s202_18, s202_19, s202_22, s202_25, s202_26, s202_27, s202_30, s202_33, s202_35, s202_36, s202_37, s202_38, s202_41, s202_42, s202_43, s202_47, s202_48, s202_51, s202_52, s202_55, s202_57, s202_58, s202_61, s202_63, s202_64, s202_65, s202_68, s202_72, s202_73, s202_76, s202_78, s202_79, s202_81, s202_84, s202_86, s202_88, s202_91, s202_93, s202_94, s202_95, s202_97, s202_100, s202_101, s202_104, s202_105, s202_107, s202_108, s202_112, s202_113, s202_116, s202_118, s202_121, s202_122, s202_125, s202_127, s202_128, s202_129, s202_132, s202_134, s202_135, s202_138, s202_139, s202_142, s202_143, s202_145, s202_148, s202_151, s202_153, s202_156, s202_157, s202_160, s202_161, List.cons_append, List.nil_append, if_true, if_false, true_and, and_true, and_self, eq_self, true_or, or_true, false_or, or_false, tIn, tLe, fLe, tLt, fLt, tEq, fEq, isL]
        exact cpy (kW (sv S p)) σ1 hb.1 (RepM_J hR f1) (FrJ_M f1) w1 (fun z => z.2 hb) (by unfold kwL; rw [iteC_t hh]) kW_ne (kW (sv S p)).length 0 σ1 _ _ (by omega) (fun _ _ => rfl) (fun k x hk => by omega)
      · have sq1 := (RepM_J hR f1).sh hq
        have R1 := RepM_J hR f1
        have F1 := FrJ_M f1
        have ff : ∀ (σ5 : aSg), FrJ σ1 σ5 → Q [.inl (-1000000004)] σ5 := by
          intro σ5 f5
          rw [← hQ, iteC_t (Or.inl ⟨hh, hb⟩)]
          exact ⟨rfl, RepM_J R1 f5, fun a ha => (FrJ_M f5 a ha).trans (F1 a ha)⟩
        simp (disch := omega) only [s202_0, s202_1, s202_4, s202_7, s202_8, s202_11, s202_14, s202_16, s202_17, s202_18, s202_19, s202_22, s202_25, s202_26, s202_27, s202_30, s202_33, s202_35, s202_36, s202_37, s202_38, s202_41, s202_42, s202_43, s202_47, s202_48, s202_51, s202_52, s202_55, s202_57, s202_58, s202_61, s202_63, s202_64, s202_65, s202_68, s202_72, s202_73, s202_76, s202_78, s202_79, s202_81, s202_84, s202_86, s202_88, s202_91, s202_93, s202_94, s202_95, s202_97, s202_100, s202_101, s202_104, s202_105, s202_107, s202_108, s202_112, s202_113, s202_116, s202_118, s202_121, s202_122, s202_125, s202_127, s202_128, s202_129, s202_132, s202_134, s202_135, s202_138, s202_139, s202_142, s202_143, s202_145, s202_148, s202_151, s202_153, s202_156, s202_157, s202_160, s202_161, List.cons_append, List.nil_append, if_true, if_false, true_and, and_true, and_self, eq_self, true_or, or_true, false_or, or_false, tIn, tLe, fLe, tLt, fLt, tEq, fEq, isL]
        rw [s202_45]
        simp (disch := omega) only [s202_0, s202_1, s202_4, s202_7, s202_8, s202_11, s202_14, s202_16, s202_17, s202_18, s202_19, s202_22, s202_25, s202_26, s202_27, s202_30, s202_33, s202_35, s202_36, s202_37, s202_38, s202_41, s202_42, s202_43, s202_47, s202_48, s202_51, s202_52, s202_55, s202_57, s202_58, s202_61, s202_63, s202_64, s202_65, s202_68, s202_71, s202_72, s202_73, s202_76, s202_78, s202_79, s202_81, s202_84, s202_86, s202_88, s202_91, s202_93, s202_94, s202_95, s202_97, s202_100, s202_101, s202_104, s202_105, s202_107, s202_108, s202_112, s202_113, s202_116, s202_118, s202_121, s202_122, s202_125, s202_127, s202_128, s202_129, s202_132, s202_134, s202_135, s202_138, s202_139, s202_142, s202_143, s202_145, s202_148, s202_151, s202_153, s202_156, s202_157, s202_160, s202_161, List.cons_append, List.nil_append, if_true, if_false, true_and, and_true, and_self, eq_self, true_or, or_true, false_or, or_false, tIn, tLe, fLe, tLt, fLt, tEq, fEq, isL]
        refine wr189 hq sq1 wq.1 wq.2 lq _ (fun _ σ5 f5 => ?_) (fun _ hb5 σ5 f5 _ => ?_) (fun _ _ σ5 f5 => ?_)
        · simp (disch := omega) only [s202_0, s202_1, s202_4, s202_7, s202_8, s202_11, s202_14, s202_16, s202_17, s202_18, s202_19, s202_22, s202_25, s202_26, s202_27, s202_30, s202_33, s202_35, s202_36, s202_37, s202_38, s202_41, s202_42, s202_43, s202_47, s202_48, s202_51, s202_52, s202_55, s202_57, s202_58, s202_61, s202_63, s202_64, s202_65, s202_68, s202_71, s202_72, s202_73, s202_76, s202_78, s202_79, s202_81, s202_84, s202_86, s202_88, s202_91, s202_93, s202_94, s202_95, s202_97, s202_100, s202_101, s202_104, s202_105, s202_107, s202_108, s202_112, s202_113, s202_116, s202_118, s202_121, s202_122, s202_125, s202_127, s202_128, s202_129, s202_132, s202_134, s202_135, s202_138, s202_139, s202_142, s202_143, s202_145, s202_148, s202_151, s202_153, s202_156, s202_157, s202_160, s202_161, List.cons_append, List.nil_append, if_true, if_false, true_and, and_true, and_self, eq_self, true_or, or_true, false_or, or_false, tIn, tLe, fLe, tLt, fLt, tEq, fEq, isL]
          exact ff σ5 f5
        · simp (disch := omega) only [s202_0, s202_1, s202_4, s202_7, s202_8, s202_11, s202_14, s202_16, s202_17, s202_18, s202_19, s202_22, s202_25, s202_26, s202_27, s202_30, s202_33, s202_35, s202_36, s202_37, s202_38, s202_41, s202_42, s202_43, s202_47, s202_48, s202_51, s202_52, s202_55, s202_57, s202_58, s202_61, s202_63, s202_64, s202_65, s202_68, s202_71, s202_72, s202_73, s202_76, s202_78, s202_79, s202_81, s202_84, s202_86, s202_88, s202_91, s202_93, s202_94, s202_95, s202_97, s202_100, s202_101, s202_104, s202_105, s202_107, s202_108, s202_112, s202_113, s202_116, s202_118, s202_121, s202_122, s202_125, s202_127, s202_128, s202_129, s202_132, s202_134, s202_135, s202_138, s202_139, s202_142, s202_143, s202_145, s202_148, s202_151, s202_153, s202_156, s202_157, s202_160, s202_161, List.cons_append, List.nil_append, if_true, if_false, true_and, and_true, and_self, eq_self, true_or, or_true, false_or, or_false, tIn, tLe, fLe, tLt, fLt, tEq, fEq, isL]
          exact ff σ5 f5
        · simp (disch := omega) only [s202_0, s202_1, s202_4, s202_7, s202_8, s202_11, s202_14, s202_16, s202_17, s202_18, s202_19, s202_22, s202_25, s202_26, s202_27, s202_30, s202_33, s202_35, s202_36, s202_37, s202_38, s202_41, s202_42, s202_43, s202_47, s202_48, s202_51, s202_52, s202_55, s202_57, s202_58, s202_61, s202_63, s202_64, s202_65, s202_68, s202_71, s202_72, s202_73, s202_76, s202_78, s202_79, s202_81, s202_84, s202_86, s202_88, s202_91, s202_93, s202_94, s202_95, s202_97, s202_100, s202_101, s202_104, s202_105, s202_107, s202_108, s202_112, s202_113, s202_116, s202_118, s202_121, s202_122, s202_125, s202_127, s202_128, s202_129, s202_132, s202_134, s202_135, s202_138, s202_139, s202_142, s202_143, s202_145, s202_148, s202_151, s202_153, s202_156, s202_157, s202_160, s202_161, List.cons_append, List.nil_append, if_true, if_false, true_and, and_true, and_self, eq_self, true_or, or_true, false_or, or_false, tIn, tLe, fLe, tLt, fLt, tEq, fEq, isL]
          exact ff σ5 f5
    · rw [if_pos (fun q => hy q.2)]
      have gx : 0 ≤ x ∧ x ≤ 3 := by omega
      have gy : ¬ (0 ≤ y ∧ y ≤ 3) := by omega
      simp (disch := omega) only [s202_0, s202_1, s202_4, s202_7, s202_8, s202_11, s202_14, s202_16, s202_17, s202_18, s202_19, s202_22, s202_25, s202_26, s202_27, s202_30, s202_33, s202_35, s202_36, s202_37, s202_38, s202_41, s202_42, s202_43, s202_47, s202_48, s202_51, s202_52, s202_55, s202_57, s202_58, s202_61, s202_63, s202_64, s202_65, s202_68, s202_71, s202_72, s202_73, s202_76, s202_78, s202_79, s202_81, s202_84, s202_86, s202_88, s202_91, s202_93, s202_94, s202_95, s202_97, s202_100, s202_101, s202_104, s202_105, s202_107, s202_108, s202_112, s202_113, s202_116, s202_118, s202_121, s202_122, s202_125, s202_127, s202_128, s202_129, s202_132, s202_134, s202_135, s202_138, s202_139, s202_142, s202_143, s202_145, s202_148, s202_151, s202_153, s202_156, s202_157, s202_160, s202_161, List.cons_append, List.nil_append, if_true, if_false, true_and, and_true, and_self, eq_self, true_or, or_true, false_or, or_false, tIn, tLe, fLe, tLt, fLt, tEq, fEq, isL, c130, gx, gy]
      exact ⟨hR, fun _ _ => rfl⟩
  · rw [if_pos (fun q => hx q.1)]
    have gx : ¬ (0 ≤ x ∧ x ≤ 3) := by omega
    simp (disch := omega) only [s202_0, s202_1, s202_4, s202_7, s202_8, s202_11, s202_14, s202_16, s202_17, s202_18, s202_19, s202_22, s202_25, s202_26, s202_27, s202_30, s202_33, s202_35, s202_36, s202_37, s202_38, s202_41, s202_42, s202_43, s202_47, s202_48, s202_51, s202_52, s202_55, s202_57, s202_58, s202_61, s202_63, s202_64, s202_65, s202_68, s202_71, s202_72, s202_73, s202_76, s202_78, s202_79, s202_81, s202_84, s202_86, s202_88, s202_91, s202_93, s202_94, s202_95, s202_97, s202_100, s202_101, s202_104, s202_105, s202_107, s202_108, s202_112, s202_113, s202_116, s202_118, s202_121, s202_122, s202_125, s202_127, s202_128, s202_129, s202_132, s202_134, s202_135, s202_138, s202_139, s202_142, s202_143, s202_145, s202_148, s202_151, s202_153, s202_156, s202_157, s202_160, s202_161, List.cons_append, List.nil_append, if_true, if_false, true_and, and_true, and_self, eq_self, true_or, or_true, false_or, or_false, tIn, tLe, fLe, tLt, fLt, tEq, fEq, isL, c130, gx]
    exact ⟨hR, fun _ _ => rfl⟩
theorem m198_ok (hR : RepM σ S) : MM m198 [.inr (.inl 130), .inl x, .inl w] σ (f99 S x w).1 (f99 S x w).2 := by
  unfold MM
  rw [e198]
  unfold f99
  by_cases hx : 0 ≤ x ∧ x < 4
  · rw [if_neg (fun q => q hx)]
    obtain ⟨p, rfl⟩ := Int.eq_ofNat_of_zero_le hx.1
    have hp : p < 4 := by omega
    have sp := hR.sh hp
    have op := hR.1.2.2.1 p hp
    have lp := sh_len op
    have hsz : σ 131 (121 * p) = ((sv S p).length : Int) := sp.1
    simp only [Int.toNat_natCast]
    by_cases hi : 0 ≤ w ∧ w ≤ 11
    · rw [if_neg (fun q => q hi)]
      by_cases ep : sv S p = []
      · rw [if_pos ep]
        have z0 : ((sv S p).length : Int) = 0 := by rw [ep]; rfl
        simp (disch := omega) only [s198_0, s198_1, s198_4, s198_7, s198_9, s198_10, s198_11, s198_12, s198_13, s198_16, s198_19, s198_22, s198_24, s198_25, s198_26, s198_27, s198_30, s198_33, s198_35, s198_36, s198_37, s198_38, s198_41, s198_42, s198_104, s198_105, s198_108, s198_109, s198_110, s198_113, s198_114, s198_115, s198_118, s198_121, s198_124, s198_125, s198_126, s198_127, s198_130, s198_131, s198_134, s198_135, s198_136, s198_139, s198_140, s198_141, s198_142, s198_145, s198_146, s198_149, s198_150, s198_153, s198_154, s198_155, s198_156, s198_157, s198_160, s198_161, s198_162, s198_163, s198_164, s198_165, s198_166, s198_167, s198_168, s198_171, List.cons_append, List.nil_append, if_true, if_false, true_and, and_true, and_self, eq_self, true_or, or_true, false_or, or_false, tIn, tLe, fLe, tLt, fLt, tEq, fEq, isL, tIL, c130, c127, hi, c131 hp, hsz]
        exact ⟨hR, fun _ _ => rfl⟩
      · rw [if_neg ep]
        have z0 : 0 < (sv S p).length := List.length_pos_iff.mpr ep
        have wf := sh_wf op ep
        have hu : AtT (sv S p) 0 (trA (sv S p) 0) := by
          obtain ⟨u, hu⟩ := At_ex wf.1 (isT_pos wf.1)
          rw [trA_eq hu]; exact hu
        have hfu : fl (trA (sv S p) 0) = sv S p := by
          obtain ⟨u, u1, u2⟩ := ex_fl _ wf.1
          have : AtT (sv S p) 0 u := by have := At_0 u1; rw [u2] at this; exact this
          rw [At_un hu this]; exact u2
        generalize hQ : (fun (v : List AV) (σ' : aSg) => v = [.inl (ofA (sv S p) w)] ∧ RepM σ' S ∧ FrM σ σ') = Q
        unfold ofA at hQ
        simp (disch := omega) only [s198_0, s198_1, s198_4, s198_7, s198_9, s198_10, s198_11, s198_12, s198_13, s198_16, s198_19, s198_22, s198_24, s198_25, s198_26, s198_27, s198_30, s198_33, s198_35, s198_36, s198_37, s198_38, s198_41, s198_104, s198_105, s198_108, s198_109, s198_110, s198_113, s198_114, s198_115, s198_118, s198_121, s198_124, s198_125, s198_126, s198_127, s198_130, s198_131, s198_134, s198_135, s198_136, s198_139, s198_140, s198_141, s198_142, s198_145, s198_146, s198_149, s198_150, s198_153, s198_154, s198_155, s198_156, s198_157, s198_160, s198_161, s198_162, s198_163, s198_164, s198_165, s198_166, s198_167, s198_168, s198_171, List.cons_append, List.nil_append, if_true, if_false, true_and, and_true, and_self, eq_self, true_or, or_true, false_or, or_false, tIn, tLe, fLe, tLt, fLt, tEq, fEq, isL, tIL, c130, c127, hi, c131 hp, hsz]
        refine c136 hp sp lp _ (fun σ1 t1 f1 f1' => ?_)
        have J1 : FrJ σ σ1 := ⟨fun a h1 h2 => f1 a (by omega) h2, f1' 1 (by omega), f1' 4 (by omega), f1' 5 (by omega)⟩
        have R1 := RepM_J hR J1
        have M1 := FrJ_M J1
        have sp1 := R1.sh hp
        by_cases w0 : w = 0
        · simp only [if_pos w0] at hQ
          have e7 := t1.1
          simp (disch := omega) only [s198_0, s198_1, s198_4, s198_7, s198_9, s198_10, s198_11, s198_12, s198_13, s198_16, s198_19, s198_22, s198_24, s198_25, s198_26, s198_27, s198_30, s198_33, s198_35, s198_36, s198_37, s198_38, s198_41, s198_42, s198_104, s198_105, s198_108, s198_109, s198_110, s198_113, s198_114, s198_115, s198_118, s198_121, s198_124, s198_125, s198_126, s198_127, s198_130, s198_131, s198_134, s198_135, s198_136, s198_139, s198_140, s198_141, s198_142, s198_145, s198_146, s198_149, s198_150, s198_153, s198_154, s198_155, s198_156, s198_157, s198_160, s198_161, s198_162, s198_163, s198_164, s198_165, s198_166, s198_167, s198_168, s198_171, List.cons_append, List.nil_append, if_true, if_false, true_and, and_true, and_self, eq_self, true_or, or_true, false_or, or_false, tIn, tLe, fLe, tLt, fLt, tEq, fEq, isL, e7]
          rw [← hQ]
          exact ⟨rfl, R1, M1⟩
        simp only [if_neg w0] at hQ
        by_cases w1 : w = 1
        · simp only [if_pos w1] at hQ
          have cc := fun K => c195 (K := K) t1 wf.1 wf.2 (by omega) hu
          rw [← vBt_r hu.1 (At_tks hu wf.2)] at cc
          simp (disch := omega) only [s198_0, s198_1, s198_4, s198_7, s198_9, s198_10, s198_11, s198_12, s198_13, s198_16, s198_19, s198_22, s198_24, s198_25, s198_26, s198_27, s198_30, s198_33, s198_35, s198_36, s198_37, s198_38, s198_41, s198_42, s198_104, s198_105, s198_108, s198_109, s198_110, s198_113, s198_114, s198_115, s198_118, s198_121, s198_124, s198_125, s198_126, s198_127, s198_130, s198_131, s198_134, s198_135, s198_136, s198_139, s198_140, s198_141, s198_142, s198_145, s198_146, s198_149, s198_150, s198_153, s198_154, s198_155, s198_156, s198_157, s198_160, s198_161, s198_162, s198_163, s198_164, s198_165, s198_166, s198_167, s198_168, s198_171, List.cons_append, List.nil_append, if_true, if_false, true_and, and_true, and_self, eq_self, true_or, or_true, false_or, or_false, tIn, tLe, fLe, tLt, fLt, tEq, fEq, isL, cc]
          rw [← hQ]
          exact ⟨rfl, R1, M1⟩
        simp only [if_neg w1] at hQ
        by_cases w2 : w = 2
        · simp only [if_pos w2] at hQ
          have cc := fun K => c196 (K := K) (x := 1000) (y := 1255) t1 lp
          rw [cnT_nb _ wf.2] at cc
          simp (disch := omega) only [s198_0, s198_1, s198_4, s198_7, s198_9, s198_10, s198_11, s198_12, s198_13, s198_16, s198_19, s198_22, s198_24, s198_25, s198_26, s198_27, s198_30, s198_33, s198_35, s198_36, s198_37, s198_38, s198_41, s198_42, s198_104, s198_105, s198_108, s198_109, s198_110, s198_113, s198_114, s198_115, s198_118, s198_121, s198_124, s198_125, s198_126, s198_127, s198_130, s198_131, s198_134, s198_135, s198_136, s198_139, s198_140, s198_141, s198_142, s198_145, s198_146, s198_149, s198_150, s198_153, s198_154, s198_155, s198_156, s198_157, s198_160, s198_161, s198_162, s198_163, s198_164, s198_165, s198_166, s198_167, s198_168, s198_171, List.cons_append, List.nil_append, if_true, if_false, true_and, and_true, and_self, eq_self, true_or, or_true, false_or, or_false, tIn, tLe, fLe, tLt, fLt, tEq, fEq, isL, cc]
          rw [← hQ]
          exact ⟨rfl, R1, M1⟩
        simp only [if_neg w2] at hQ
        by_cases w8 : w = 8
        · simp only [if_pos w8] at hQ
          simp (disch := omega) only [s198_0, s198_1, s198_4, s198_7, s198_9, s198_10, s198_11, s198_12, s198_13, s198_16, s198_19, s198_22, s198_24, s198_25, s198_26, s198_27, s198_30, s198_33, s198_35, s198_36, s198_37, s198_38, s198_41, s198_42, s198_104, s198_105, s198_108, s198_109, s198_110, s198_113, s198_114, s198_115, s198_118, s198_121, s198_124, s198_125, s198_126, s198_127, s198_130, s198_131, s198_134, s198_135, s198_136, s198_139, s198_140, s198_141, s198_142, s198_145, s198_146, s198_149, s198_150, s198_153, s198_154, s198_155, s198_156, s198_157, s198_160, s198_161, s198_162, s198_163, s198_164, s198_165, s198_166, s198_167, s198_168, s198_171, List.cons_append, List.nil_append, if_true, if_false, true_and, and_true, and_self, eq_self, true_or, or_true, false_or, or_false, tIn, tLe, fLe, tLt, fLt, tEq, fEq, isL]
          refine wr190 hp sp1 wf.1 wf.2 lp _ (fun σ2 v2 f2 f2' => ?_)
          have e34 := v2.1
          simp (disch := omega) only [s198_0, s198_1, s198_4, s198_7, s198_9, s198_10, s198_11, s198_12, s198_13, s198_16, s198_19, s198_22, s198_24, s198_25, s198_26, s198_27, s198_30, s198_33, s198_35, s198_36, s198_37, s198_38, s198_41, s198_42, s198_104, s198_105, s198_108, s198_109, s198_110, s198_113, s198_114, s198_115, s198_118, s198_121, s198_124, s198_125, s198_126, s198_127, s198_130, s198_131, s198_134, s198_135, s198_136, s198_139, s198_140, s198_141, s198_142, s198_145, s198_146, s198_149, s198_150, s198_153, s198_154, s198_155, s198_156, s198_157, s198_160, s198_161, s198_162, s198_163, s198_164, s198_165, s198_166, s198_167, s198_168, s198_171, List.cons_append, List.nil_append, if_true, if_false, true_and, and_true, and_self, eq_self, true_or, or_true, false_or, or_false, tIn, tLe, fLe, tLt, fLt, tEq, fEq, isL, e34]
          rw [← hQ]
          exact ⟨rfl, RepM_G R1 f2, fun a ha => (f2' a ha).trans (M1 a ha)⟩
        simp only [if_neg w8] at hQ
        by_cases w9 : w = 9
        · simp only [if_pos w9] at hQ
          simp (disch := omega) only [s198_0, s198_1, s198_4, s198_7, s198_9, s198_10, s198_11, s198_12, s198_13, s198_16, s198_19, s198_22, s198_24, s198_25, s198_26, s198_27, s198_30, s198_33, s198_35, s198_36, s198_37, s198_38, s198_41, s198_42, s198_104, s198_105, s198_108, s198_109, s198_110, s198_113, s198_114, s198_115, s198_118, s198_121, s198_124, s198_125, s198_126, s198_127, s198_130, s198_131, s198_134, s198_135, s198_136, s198_139, s198_140, s198_141, s198_142, s198_145, s198_146, s198_149, s198_150, s198_153, s198_154, s198_155, s198_156, s198_157, s198_160, s198_161, s198_162, s198_163, s198_164, s198_165, s198_166, s198_167, s198_168, s198_171, List.cons_append, List.nil_append, if_true, if_false, true_and, and_true, and_self, eq_self, true_or, or_true, false_or, or_false, tIn, tLe, fLe, tLt, fLt, tEq, fEq, isL]
          refine wr197 t1 wf.2 lp hu.1 hfu _ (fun σ2 f2 => ?_)
          have J2 := FrA_J f2 (by omega) (by omega)
          simp (disch := omega) only [s198_0, s198_1, s198_4, s198_7, s198_9, s198_10, s198_11, s198_12, s198_13, s198_16, s198_19, s198_22, s198_24, s198_25, s198_26, s198_27, s198_30, s198_33, s198_35, s198_36, s198_37, s198_38, s198_41, s198_42, s198_104, s198_105, s198_108, s198_109, s198_110, s198_113, s198_114, s198_115, s198_118, s198_121, s198_124, s198_125, s198_126, s198_127, s198_130, s198_131, s198_134, s198_135, s198_136, s198_139, s198_140, s198_141, s198_142, s198_145, s198_146, s198_149, s198_150, s198_153, s198_154, s198_155, s198_156, s198_157, s198_160, s198_161, s198_162, s198_163, s198_164, s198_165, s198_166, s198_167, s198_168, s198_171, List.cons_append, List.nil_append, if_true, if_false, true_and, and_true, and_self, eq_self, true_or, or_true, false_or, or_false, tIn, tLe, fLe, tLt, fLt, tEq, fEq, isL]
          rw [← hQ]
          exact ⟨rfl, RepM_J R1 J2, fun a ha => (FrJ_M J2 a ha).trans (M1 a ha)⟩
        simp only [if_neg w9] at hQ
        by_cases wa : w = 10
        · simp only [if_pos wa] at hQ
          simp (disch := omega) only [s198_0, s198_1, s198_4, s198_7, s198_9, s198_10, s198_11, s198_12, s198_13, s198_16, s198_19, s198_22, s198_24, s198_25, s198_26, s198_27, s198_30, s198_33, s198_35, s198_36, s198_37, s198_38, s198_41, s198_42, s198_104, s198_105, s198_108, s198_109, s198_110, s198_113, s198_114, s198_115, s198_118, s198_121, s198_124, s198_125, s198_126, s198_127, s198_130, s198_131, s198_134, s198_135, s198_136, s198_139, s198_140, s198_141, s198_142, s198_145, s198_146, s198_149, s198_150, s198_153, s198_154, s198_155, s198_156, s198_157, s198_160, s198_161, s198_162, s198_163, s198_164, s198_165, s198_166, s198_167, s198_168, s198_171, List.cons_append, List.nil_append, if_true, if_false, true_and, and_true, and_self, eq_self, true_or, or_true, false_or, or_false, tIn, tLe, fLe, tLt, fLt, tEq, fEq, isL]
          refine wr187 hp sp1 wf.1 wf.2 lp _ (fun hno σ2 f2 => ?_) (fun σ2 n fr to o ρ V k _ _ _ _ _ _ _ _ hpr _ f2 => ?_)
          · simp (disch := omega) only [s198_0, s198_1, s198_4, s198_7, s198_9, s198_10, s198_11, s198_12, s198_13, s198_16, s198_19, s198_22, s198_24, s198_25, s198_26, s198_27, s198_30, s198_33, s198_35, s198_36, s198_37, s198_38, s198_41, s198_42, s198_104, s198_105, s198_108, s198_109, s198_110, s198_113, s198_114, s198_115, s198_118, s198_121, s198_124, s198_125, s198_126, s198_127, s198_130, s198_131, s198_134, s198_135, s198_136, s198_139, s198_140, s198_141, s198_142, s198_145, s198_146, s198_149, s198_150, s198_153, s198_154, s198_155, s198_156, s198_157, s198_160, s198_161, s198_162, s198_163, s198_164, s198_165, s198_166, s198_167, s198_168, s198_171, List.cons_append, List.nil_append, if_true, if_false, true_and, and_true, and_self, eq_self, true_or, or_true, false_or, or_false, tIn, tLe, fLe, tLt, fLt, tEq, fEq, isL]
            rw [← hQ, iteC_f hno]
            exact ⟨rfl, RepM_J R1 f2, fun a ha => (FrJ_M f2 a ha).trans (M1 a ha)⟩
          · have hh : hasK (sv S p) := by obtain ⟨⟨β, γ, d⟩, -⟩ := hpr; exact ⟨β, γ, _, d⟩
            have nk : ¬ (k : Int) = -1 := by omega
            simp (disch := omega) only [s198_0, s198_1, s198_4, s198_7, s198_9, s198_10, s198_11, s198_12, s198_13, s198_16, s198_19, s198_22, s198_24, s198_25, s198_26, s198_27, s198_30, s198_33, s198_35, s198_36, s198_37, s198_38, s198_41, s198_42, s198_104, s198_105, s198_108, s198_109, s198_110, s198_113, s198_114, s198_115, s198_118, s198_121, s198_124, s198_125, s198_126, s198_127, s198_130, s198_131, s198_134, s198_135, s198_136, s198_139, s198_140, s198_141, s198_142, s198_145, s198_146, s198_149, s198_150, s198_153, s198_154, s198_155, s198_156, s198_157, s198_160, s198_161, s198_162, s198_163, s198_164, s198_165, s198_166, s198_167, s198_168, s198_171, List.cons_append, List.nil_append, if_true, if_false, true_and, and_true, and_self, eq_self, true_or, or_true, false_or, or_false, tIn, tLe, fLe, tLt, fLt, tEq, fEq, isL, nk]
            rw [← hQ, iteC_t hh]
            exact ⟨rfl, RepM_J R1 f2, fun a ha => (FrJ_M f2 a ha).trans (M1 a ha)⟩
        simp only [if_neg wa] at hQ
        by_cases wb : w = 11
        · simp only [if_pos wb] at hQ
          unfold knA at hQ
          simp (disch := omega) only [s198_0, s198_1, s198_4, s198_7, s198_9, s198_10, s198_11, s198_12, s198_13, s198_16, s198_19, s198_22, s198_24, s198_25, s198_26, s198_27, s198_30, s198_33, s198_35, s198_36, s198_37, s198_38, s198_41, s198_42, s198_104, s198_105, s198_108, s198_109, s198_110, s198_113, s198_114, s198_115, s198_118, s198_121, s198_124, s198_125, s198_126, s198_127, s198_130, s198_131, s198_134, s198_135, s198_136, s198_139, s198_140, s198_141, s198_142, s198_145, s198_146, s198_149, s198_150, s198_153, s198_154, s198_155, s198_156, s198_157, s198_160, s198_161, s198_162, s198_163, s198_164, s198_165, s198_166, s198_167, s198_168, s198_171, List.cons_append, List.nil_append, if_true, if_false, true_and, and_true, and_self, eq_self, true_or, or_true, false_or, or_false, tIn, tLe, fLe, tLt, fLt, tEq, fEq, isL]
          refine wr189 hp sp1 wf.1 wf.2 lp _ (fun hno σ2 f2 => ?_) (fun hh hb σ2 f2 _ => ?_) (fun hh hb σ2 f2 => ?_)
          · simp (disch := omega) only [s198_0, s198_1, s198_4, s198_7, s198_9, s198_10, s198_11, s198_12, s198_13, s198_16, s198_19, s198_22, s198_24, s198_25, s198_26, s198_27, s198_30, s198_33, s198_35, s198_36, s198_37, s198_38, s198_41, s198_42, s198_104, s198_105, s198_108, s198_109, s198_110, s198_113, s198_114, s198_115, s198_118, s198_121, s198_124, s198_125, s198_126, s198_127, s198_130, s198_131, s198_134, s198_135, s198_136, s198_139, s198_140, s198_141, s198_142, s198_145, s198_146, s198_149, s198_150, s198_153, s198_154, s198_155, s198_156, s198_157, s198_160, s198_161, s198_162, s198_163, s198_164, s198_165, s198_166, s198_167, s198_168, s198_171, List.cons_append, List.nil_append, if_true, if_false, true_and, and_true, and_self, eq_self, true_or, or_true, false_or, or_false, tIn, tLe, fLe, tLt, fLt, tEq, fEq, isL]
            rw [← hQ, iteC_f hno]
            exact ⟨rfl, RepM_J R1 f2, fun a ha => (FrJ_M f2 a ha).trans (M1 a ha)⟩
          · simp (disch := omega) only [s198_0, s198_1, s198_4, s198_7, s198_9, s198_10, s198_11, s198_12, s198_13, s198_16, s198_19, s198_22, s198_24, s198_25, s198_26, s198_27, s198_30, s198_33, s198_35, s198_36, s198_37, s198_38, s198_41, s198_42, s198_104, s198_105, s198_108, s198_109, s198_110, s198_113, s198_114, s198_115, s198_118, s198_121, s198_124, s198_125, s198_126, s198_127, s198_130, s198_131, s198_134, s198_135, s198_136, s198_139, s198_140, s198_141, s198_142, s198_145, s198_146, s198_149, s198_150, s198_153, s198_154, s198_155, s198_156, s198_157, s198_160, s198_161, s198_162, s198_163, s198_164, s198_165, s198_166, s198_167, s198_168, s198_171, List.cons_append, List.nil_append, if_true, if_false, true_and, and_true, and_self, eq_self, true_or, or_true, false_or, or_false, tIn, tLe, fLe, tLt, fLt, tEq, fEq, isL]
            rw [← hQ, iteC_t hh, iteC_t hb]
            exact ⟨rfl, RepM_J R1 f2, fun a ha => (FrJ_M f2 a ha).trans (M1 a ha)⟩
          · simp (disch := omega) only [s198_0, s198_1, s198_4, s198_7, s198_9, s198_10, s198_11, s198_12, s198_13, s198_16, s198_19, s198_22, s198_24, s198_25, s198_26, s198_27, s198_30, s198_33, s198_35, s198_36, s198_37, s198_38, s198_41, s198_42, s198_104, s198_105, s198_108, s198_109, s198_110, s198_113, s198_114, s198_115, s198_118, s198_121, s198_124, s198_125, s198_126, s198_127, s198_130, s198_131, s198_134, s198_135, s198_136, s198_139, s198_140, s198_141, s198_142, s198_145, s198_146, s198_149, s198_150, s198_153, s198_154, s198_155, s198_156, s198_157, s198_160, s198_161, s198_162, s198_163, s198_164, s198_165, s198_166, s198_167, s198_168, s198_171, List.cons_append, List.nil_append, if_true, if_false, true_and, and_true, and_self, eq_self, true_or, or_true, false_or, or_false, tIn, tLe, fLe, tLt, fLt, tEq, fEq, isL]
            rw [← hQ, iteC_t hh, iteC_f hb]
            exact ⟨rfl, RepM_J R1 f2, fun a ha => (FrJ_M f2 a ha).trans (M1 a ha)⟩
        simp only [if_neg wb] at hQ
        have cc := fun K => c196 (K := K) (x := w - 2) (y := w - 2) t1 lp
        rw [cnT_sg (by omega) _ wf.2] at cc
        simp (disch := omega) only [s198_0, s198_1, s198_4, s198_7, s198_9, s198_10, s198_11, s198_12, s198_13, s198_16, s198_19, s198_22, s198_24, s198_25, s198_26, s198_27, s198_30, s198_33, s198_35, s198_36, s198_37, s198_38, s198_41, s198_42, s198_104, s198_105, s198_108, s198_109, s198_110, s198_113, s198_114, s198_115, s198_118, s198_121, s198_124, s198_125, s198_126, s198_127, s198_130, s198_131, s198_134, s198_135, s198_136, s198_139, s198_140, s198_141, s198_142, s198_145, s198_146, s198_149, s198_150, s198_153, s198_154, s198_155, s198_156, s198_157, s198_160, s198_161, s198_162, s198_163, s198_164, s198_165, s198_166, s198_167, s198_168, s198_171, List.cons_append, List.nil_append, if_true, if_false, true_and, and_true, and_self, eq_self, true_or, or_true, false_or, or_false, tIn, tLe, fLe, tLt, fLt, tEq, fEq, isL, cc]
        rw [← hQ]
        exact ⟨rfl, R1, M1⟩
    · rw [if_pos hi]
      simp (disch := omega) only [s198_0, s198_1, s198_4, s198_7, s198_9, s198_10, s198_11, s198_12, s198_13, s198_16, s198_19, s198_22, s198_24, s198_25, s198_26, s198_27, s198_30, s198_33, s198_35, s198_36, s198_37, s198_38, s198_41, s198_42, s198_104, s198_105, s198_108, s198_109, s198_110, s198_113, s198_114, s198_115, s198_118, s198_121, s198_124, s198_125, s198_126, s198_127, s198_130, s198_131, s198_134, s198_135, s198_136, s198_139, s198_140, s198_141, s198_142, s198_145, s198_146, s198_149, s198_150, s198_153, s198_154, s198_155, s198_156, s198_157, s198_160, s198_161, s198_162, s198_163, s198_164, s198_165, s198_166, s198_167, s198_168, s198_171, List.cons_append, List.nil_append, if_true, if_false, true_and, and_true, and_self, eq_self, true_or, or_true, false_or, or_false, tIn, tLe, fLe, tLt, fLt, tEq, fEq, isL, tIL, c130, c127, hi]
      exact ⟨hR, fun _ _ => rfl⟩
  · rw [if_pos hx]
    have gx : ¬ (0 ≤ x ∧ x ≤ 3) := by omega
    simp (disch := omega) only [s198_0, s198_1, s198_4, s198_7, s198_9, s198_10, s198_11, s198_12, s198_13, s198_16, s198_19, s198_22, s198_24, s198_25, s198_26, s198_27, s198_30, s198_33, s198_35, s198_36, s198_37, s198_38, s198_41, s198_42, s198_104, s198_105, s198_108, s198_109, s198_110, s198_113, s198_114, s198_115, s198_118, s198_121, s198_124, s198_125, s198_126, s198_127, s198_130, s198_131, s198_134, s198_135, s198_136, s198_139, s198_140, s198_141, s198_142, s198_145, s198_146, s198_149, s198_150, s198_153, s198_154, s198_155, s198_156, s198_157, s198_160, s198_161, s198_162, s198_163, s198_164, s198_165, s198_166, s198_167, s198_168, s198_171, List.cons_append, List.nil_append, if_true, if_false, true_and, and_true, and_self, eq_self, true_or, or_true, false_or, or_false, tIn, tLe, fLe, tLt, fLt, tEq, fEq, isL, c130, gx]
    exact ⟨hR, fun _ _ => rfl⟩
end KPR
