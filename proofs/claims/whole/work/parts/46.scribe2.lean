/-! Scribe: the component's side -/
abbrev FrW (r : Nat) (σ σ' : aSg) : Prop := ∀ a, a ≠ r → a ≠ r + 1 → σ' a = σ a
def SCI (σ0 σ : aSg) (t : Nat) (T W st : List Int) : Prop := RK σ ∧ rv σ t = T ∧ rv σ 100 = endsT T ∧ rv σ 104 = W ∧ rv σ 106 = st.reverse ∧ ∀ a, (a < 98 ∨ 107 < a) → σ a = σ0 a
section SCC
variable {σ σ0 : aSg} {K : List AV → aSg → Prop} {x y z i : Int} {S : SS} {T W st : List Int} {r q t : Nat}
theorem FrW_rv {σ' : aSg} (h : FrW r σ σ') (hr : isRow r) (hq : isRow q) (hn : q ≠ r) : rv σ' q = rv σ q := rv_same (h q hn (row_sep hr hq)) (h (q + 1) (fun e => row_sep hq hr e.symm) (by omega))
theorem radd_ok {l : List Int} (h : isRow r) (hk : RK σ) (hl : rv σ r = l) (hc : l.length < cp r) (Q : List AV → aSg → Prop) (hq : ∀ σ', RK σ' → rv σ' r = l ++ [x] → FrW r σ σ' → Q [] σ') : CA m34 [.inr (.inl r), .inl x] σ Q := by
  rw [c34 h hk, hl]
  unfold ladd
  rw [if_pos hc]
  exact hq _ (RK_rs hk h (by simp; omega)) rv_rs (fun a h1 h2 => rs_at h1 h2)
theorem llast_app (l : List Int) (v : Int) : llast (l ++ [v]) = v := by simp [llast]
theorem rpop_ok {l : List Int} {v : Int} (h : isRow r) (hk : RK σ) (hl : rv σ r = l ++ [v]) (Q : List AV → aSg → Prop) (hq : ∀ σ', RK σ' → rv σ' r = l → FrW r σ σ' → Q [.inl v] σ') : CA m35 [.inr (.inl r)] σ Q := by
  have hle := rv_le hk h
  rw [hl] at hle
  rw [c35 h hk, hl, llast_app, List.dropLast_concat]
  exact hq _ (RK_rs hk h (by simp at hle; omega)) rv_rs (fun a h1 h2 => rs_at h1 h2)
theorem rclr_ok (h : isRow r) (hk : RK σ) (Q : List AV → aSg → Prop) (hq : ∀ σ', RK σ' → rv σ' r = [] → FrW r σ σ' → Q [] σ') : CA m29 [.inr (.inl r)] σ Q := by
  rw [c29 h hk]
  exact hq _ (RK_rs hk h (by simp)) rv_rs (fun a h1 h2 => rs_at h1 h2)
theorem FrW_tr {σ1 σ2 : aSg} (h : FrW r σ σ1) (h' : FrW r σ1 σ2) : FrW r σ σ2 := fun a h1 h2 => (h' a h1 h2).trans (h a h1 h2)
theorem c44 : CA m44 [.inr (.inl 98)] σ K = K [.inr (.inl 104)] σ := by
  rw [e44]
  simp (disch := omega) only [s44_0, s44_1, s44_4, List.cons_append, List.nil_append, if_true, if_false, true_and, and_true, and_self, eq_self, true_or, or_true, false_or, or_false, tIn, tLe, fLe, tLt, fLt, tEq, fEq, isL]
theorem op47 {st' : List Int} {v b : Int} (hk : RK σ) (hs : rv σ 106 = st.reverse) (hc : st.length + 3 ≤ 488) (hb : (b = 1 ∧ st' = -40 :: v :: -41 :: st) ∨ (b = 0 ∧ st' = v :: st)) (Q : List AV → aSg → Prop) (hq : ∀ σ', RK σ' → rv σ' 106 = st'.reverse → FrW 106 σ σ' → Q [] σ') : CA m47 [.inr (.inl 98), .inl v, .inl b] σ Q := by
  rw [e47]
  rcases hb with ⟨rfl, rfl⟩ | ⟨rfl, rfl⟩
  · simp (disch := omega) only [s47_0, s47_1, s47_4, s47_5, s47_8, s47_10, s47_13, s47_14, s47_17, s47_18, s47_21, s47_22, s47_25, s47_26, s47_29, s47_31, s47_34, List.cons_append, List.nil_append, if_true, if_false, true_and, and_true, and_self, eq_self, true_or, or_true, false_or, or_false, tIn, tLe, fLe, tLt, fLt, tEq, fEq, isL, row106.1]
    refine radd_ok row106 hk hs (by rw [cp106]; simp; omega) _ (fun σ1 k1 w1 f1 => ?_)
    simp (disch := omega) only [s47_0, s47_1, s47_4, s47_5, s47_8, s47_10, s47_13, s47_14, s47_17, s47_18, s47_21, s47_22, s47_25, s47_26, s47_29, s47_31, s47_34, List.cons_append, List.nil_append, if_true, if_false, true_and, and_true, and_self, eq_self, true_or, or_true, false_or, or_false, tIn, tLe, fLe, tLt, fLt, tEq, fEq, isL, row106.1]
    refine radd_ok row106 k1 w1 (by rw [cp106]; simp; omega) _ (fun σ2 k2 w2 f2 => ?_)
    simp (disch := omega) only [s47_0, s47_1, s47_4, s47_5, s47_8, s47_10, s47_13, s47_14, s47_17, s47_18, s47_21, s47_22, s47_25, s47_26, s47_29, s47_31, s47_34, List.cons_append, List.nil_append, if_true, if_false, true_and, and_true, and_self, eq_self, true_or, or_true, false_or, or_false, tIn, tLe, fLe, tLt, fLt, tEq, fEq, isL, row106.1]
    refine radd_ok row106 k2 w2 (by rw [cp106]; simp; omega) _ (fun σ3 k3 w3 f3 => ?_)
    simp (disch := omega) only [s47_0, s47_1, s47_4, s47_5, s47_8, s47_10, s47_13, s47_14, s47_17, s47_18, s47_21, s47_22, s47_25, s47_26, s47_29, s47_31, s47_34, List.cons_append, List.nil_append, if_true, if_false, true_and, and_true, and_self, eq_self, true_or, or_true, false_or, or_false, tIn, tLe, fLe, tLt, fLt, tEq, fEq, isL]
    exact hq σ3 k3 (by rw [w3]; simp) (FrW_tr (FrW_tr f1 f2) f3)
  · simp (disch := omega) only [s47_0, s47_1, s47_4, s47_5, s47_8, s47_10, s47_13, s47_14, s47_17, s47_18, s47_21, s47_22, s47_25, s47_26, s47_29, s47_31, s47_34, List.cons_append, List.nil_append, if_true, if_false, true_and, and_true, and_self, eq_self, true_or, or_true, false_or, or_false, tIn, tLe, fLe, tLt, fLt, tEq, fEq, isL, row106.1]
    refine radd_ok row106 hk hs (by rw [cp106]; simp; omega) _ (fun σ1 k1 w1 f1 => ?_)
    simp (disch := omega) only [s47_0, s47_1, s47_4, s47_5, s47_8, s47_10, s47_13, s47_14, s47_17, s47_18, s47_21, s47_22, s47_25, s47_26, s47_29, s47_31, s47_34, List.cons_append, List.nil_append, if_true, if_false, true_and, and_true, and_self, eq_self, true_or, or_true, false_or, or_false, tIn, tLe, fLe, tLt, fLt, tEq, fEq, isL, row106.1]
    exact hq σ1 k1 (by rw [w1]; simp) f1
theorem SCI_w {σ' : aSg} {W' : List Int} (h : SCI σ0 σ t T W st) (ht : isRow t) (ht2 : t < 53) (hk : RK σ') (hw : rv σ' 104 = W') (hf : FrW 104 σ σ') : SCI σ0 σ' t T W' st := by
  obtain ⟨h1, h2, h3, h4, h5, h6⟩ := h
  exact ⟨hk, (FrW_rv hf row104 ht (by omega)).trans h2, (FrW_rv hf row104 row100 (by omega)).trans h3, hw, (FrW_rv hf row104 row106 (by omega)).trans h5, fun a ha => (hf a (by omega) (by omega)).trans (h6 a ha)⟩
theorem SCI_s {σ' : aSg} {st' : List Int} (h : SCI σ0 σ t T W st) (ht : isRow t) (ht2 : t < 53) (hk : RK σ') (hw : rv σ' 106 = st'.reverse) (hf : FrW 106 σ σ') : SCI σ0 σ' t T W st' := by
  obtain ⟨h1, h2, h3, h4, h5, h6⟩ := h
  exact ⟨hk, (FrW_rv hf row106 ht (by omega)).trans h2, (FrW_rv hf row106 row100 (by omega)).trans h3, (FrW_rv hf row106 row104 (by omega)).trans h4, hw, fun a ha => (hf a (by omega) (by omega)).trans (h6 a ha)⟩
theorem wr46 (h : SCI σ0 σ t T W st) (ht : isRow t) (ht2 : t < 53) (hT : isT T) (hkT : tks T) (hl : T.length ≤ 120) {p : Nat} (hp : p < T.length) (hw : W.length + (scW T (p : Int)).length ≤ 368) (hs : st.length ≤ 400) (Q : List AV → aSg → Prop) (hq : ∀ σ', SCI σ0 σ' t T (W ++ scW T (p : Int)) (scS T (p : Int) st) → Q [] σ') : CA m46 [.inr (.inl 98), .inr (.inl t), .inl (p : Int)] σ Q := by
  rw [e46]
  obtain ⟨h1, h2, h3, h4, h5, h6⟩ := id h
  have el := lat_i2 hp
  have hg := List.getElem?_eq_getElem hp
  have tk := hkT _ (List.getElem_mem hp)
  have n0 : ¬ ((p : Int) < 0) := by omega
  unfold scW at hw hq
  unfold scS at hq
  rw [if_neg n0] at hw
  simp only [if_neg n0, el] at hw hq
  by_cases g1 : T[p] = 1
  · simp only [if_pos g1, List.append_nil] at hq
    obtain ⟨a1, a2, a3⟩ := te_2 hT hg (by rw [g1]; rfl)
    have t1 := te_gt hT a1
    have l1 := lat_i2 a1
    have l2 := lat_i2 a2
    have eq : scQ T (p : Int) = ((te T (p + 1) : Nat) : Int) := by unfold scQ; rw [Int.toNat_natCast]
    have e1 : lat (endsT T) ((p : Int) + 1) = ((te T (p + 1) : Nat) : Int) := by
      rw [show (p : Int) + 1 = ((p + 1 : Nat) : Int) by omega]; exact endsT_at a1
    rw [show ((p + 1 : Nat) : Int) = (p : Int) + 1 by omega] at l1
    unfold scP at hq
    rw [eq, l1, l2] at hq
    have fin : ∀ (b1 : Int) (s1 : List Int), ((b1 = 1 ∧ s1 = -40 :: (te T (p + 1) : Int) :: -41 :: st) ∨ (b1 = 0 ∧ s1 = (te T (p + 1) : Int) :: st)) → s1.length ≤ st.length + 3 → (∀ σ', SCI σ0 σ' t T W (scO ((p : Int) + 1) (1000 < T[p + 1]) s1) → Q [] σ') → CA m47 [.inr (.inl 98), .inl (te T (p + 1) : Int), .inl b1] σ (fun v σ2 => WP m46 56 [.inr (.inl 98), .inr (.inl t), .inl (p : Int), .inl 1, .inl (te T (p + 1) : Int)] (v ++ []) σ2 Q) := by
      intro b1 s1 q1 q3 q4
      refine op47 h1 h5 (by omega) q1 _ (fun σ1 k1 w1 f1 => ?_)
      have i1 := SCI_s h ht ht2 k1 w1 f1
      by_cases g : 1000 < T[p + 1]
      · simp (disch := omega) only [s46_0, s46_1, s46_2, s46_5, s46_6, s46_7, s46_8, s46_11, s46_12, s46_15, s46_16, s46_17, s46_18, s46_21, s46_23, s46_24, s46_26, s46_27, s46_29, s46_32, s46_33, s46_36, s46_37, s46_39, s46_42, s46_45, s46_48, s46_49, s46_52, s46_53, s46_56, s46_57, s46_58, s46_59, s46_60, s46_61, s46_62, s46_63, s46_64, s46_67, s46_70, s46_73, s46_76, s46_77, s46_80, s46_83, s46_84, s46_87, s46_89, s46_92, s46_93, s46_96, s46_97, s46_100, s46_103, s46_104, s46_107, s46_109, s46_112, s46_113, s46_116, s46_117, s46_118, s46_119, s46_122, s46_125, s46_126, s46_129, s46_130, s46_133, List.cons_append, List.nil_append, if_true, if_false, true_and, and_true, and_self, eq_self, true_or, or_true, false_or, or_false, tIn, tLe, fLe, tLt, fLt, tEq, fEq, isL, ht.1, c30 ht k1, i1.2.1, l1, c117]
        refine op47 k1 w1 (by omega) (Or.inl ⟨rfl, rfl⟩) _ (fun σ2 k2 w2 f2 => ?_)
        simp (disch := omega) only [s46_0, s46_1, s46_2, s46_5, s46_6, s46_7, s46_8, s46_11, s46_12, s46_15, s46_16, s46_17, s46_18, s46_21, s46_23, s46_24, s46_26, s46_27, s46_29, s46_32, s46_33, s46_36, s46_37, s46_39, s46_42, s46_45, s46_48, s46_49, s46_52, s46_53, s46_56, s46_57, s46_58, s46_59, s46_60, s46_61, s46_62, s46_63, s46_64, s46_67, s46_70, s46_73, s46_76, s46_77, s46_80, s46_83, s46_84, s46_87, s46_89, s46_92, s46_93, s46_96, s46_97, s46_100, s46_103, s46_104, s46_107, s46_109, s46_112, s46_113, s46_116, s46_117, s46_118, s46_119, s46_122, s46_125, s46_126, s46_129, s46_130, s46_133, List.cons_append, List.nil_append, if_true, if_false, true_and, and_true, and_self, eq_self, true_or, or_true, false_or, or_false, tIn, tLe, fLe, tLt, fLt, tEq, fEq, isL]
        exact q4 σ2 (by unfold scO; rw [if_pos g]; exact SCI_s i1 ht ht2 k2 w2 f2)
      · simp (disch := omega) only [s46_0, s46_1, s46_2, s46_5, s46_6, s46_7, s46_8, s46_11, s46_12, s46_15, s46_16, s46_17, s46_18, s46_21, s46_23, s46_24, s46_26, s46_27, s46_29, s46_32, s46_33, s46_36, s46_37, s46_39, s46_42, s46_45, s46_48, s46_49, s46_52, s46_53, s46_56, s46_57, s46_58, s46_59, s46_60, s46_61, s46_62, s46_63, s46_64, s46_67, s46_70, s46_73, s46_76, s46_77, s46_80, s46_83, s46_84, s46_87, s46_89, s46_92, s46_93, s46_96, s46_97, s46_100, s46_103, s46_104, s46_107, s46_109, s46_112, s46_113, s46_116, s46_117, s46_118, s46_119, s46_122, s46_125, s46_126, s46_129, s46_130, s46_133, List.cons_append, List.nil_append, if_true, if_false, true_and, and_true, and_self, eq_self, true_or, or_true, false_or, or_false, tIn, tLe, fLe, tLt, fLt, tEq, fEq, isL, ht.1, c30 ht k1, i1.2.1, l1, c117]
        refine op47 k1 w1 (by omega) (Or.inr ⟨rfl, rfl⟩) _ (fun σ2 k2 w2 f2 => ?_)
        simp (disch := omega) only [s46_0, s46_1, s46_2, s46_5, s46_6, s46_7, s46_8, s46_11, s46_12, s46_15, s46_16, s46_17, s46_18, s46_21, s46_23, s46_24, s46_26, s46_27, s46_29, s46_32, s46_33, s46_36, s46_37, s46_39, s46_42, s46_45, s46_48, s46_49, s46_52, s46_53, s46_56, s46_57, s46_58, s46_59, s46_60, s46_61, s46_62, s46_63, s46_64, s46_67, s46_70, s46_73, s46_76, s46_77, s46_80, s46_83, s46_84, s46_87, s46_89, s46_92, s46_93, s46_96, s46_97, s46_100, s46_103, s46_104, s46_107, s46_109, s46_112, s46_113, s46_116, s46_117, s46_118, s46_119, s46_122, s46_125, s46_126, s46_129, s46_130, s46_133, List.cons_append, List.nil_append, if_true, if_false, true_and, and_true, and_self, eq_self, true_or, or_true, false_or, or_false, tIn, tLe, fLe, tLt, fLt, tEq, fEq, isL]
        exact q4 σ2 (by unfold scO; rw [if_neg g]; exact SCI_s i1 ht ht2 k2 w2 f2)
    by_cases n1 : T[te T (p + 1)] = 1
    · have e2 : scO (te T (p + 1) : Int) (T[te T (p + 1)] = 1 ∨ 1000 < T[te T (p + 1)]) st = -40 :: (te T (p + 1) : Int) :: -41 :: st := by unfold scO; rw [if_pos (Or.inl n1)]
      rw [e2] at hq
      simp (disch := omega) only [s46_0, s46_1, s46_2, s46_5, s46_6, s46_7, s46_8, s46_11, s46_12, s46_15, s46_16, s46_17, s46_18, s46_21, s46_23, s46_24, s46_26, s46_27, s46_29, s46_32, s46_33, s46_36, s46_37, s46_39, s46_42, s46_45, s46_48, s46_49, s46_52, s46_53, s46_56, s46_57, s46_58, s46_59, s46_60, s46_61, s46_62, s46_63, s46_64, s46_67, s46_70, s46_73, s46_76, s46_77, s46_80, s46_83, s46_84, s46_87, s46_89, s46_92, s46_93, s46_96, s46_97, s46_100, s46_103, s46_104, s46_107, s46_109, s46_112, s46_113, s46_116, s46_117, s46_118, s46_119, s46_122, s46_125, s46_126, s46_129, s46_130, s46_133, List.cons_append, List.nil_append, if_true, if_false, true_and, and_true, and_self, eq_self, true_or, or_true, false_or, or_false, tIn, tLe, fLe, tLt, fLt, tEq, fEq, isL, ht.1, c30 ht h1, h2, el, g1, oS99, c68 sp99 h1, h3, e1, l2, n1]
      exact fin 1 _ (Or.inl ⟨rfl, rfl⟩) (by simp) hq
    · by_cases n2 : 1000 < T[te T (p + 1)]
      · have e2 : scO (te T (p + 1) : Int) (T[te T (p + 1)] = 1 ∨ 1000 < T[te T (p + 1)]) st = -40 :: (te T (p + 1) : Int) :: -41 :: st := by unfold scO; rw [if_pos (Or.inr n2)]
        rw [e2] at hq
        simp (disch := omega) only [s46_0, s46_1, s46_2, s46_5, s46_6, s46_7, s46_8, s46_11, s46_12, s46_15, s46_16, s46_17, s46_18, s46_21, s46_23, s46_24, s46_26, s46_27, s46_29, s46_32, s46_33, s46_36, s46_37, s46_39, s46_42, s46_45, s46_48, s46_49, s46_52, s46_53, s46_56, s46_57, s46_58, s46_59, s46_60, s46_61, s46_62, s46_63, s46_64, s46_67, s46_70, s46_73, s46_76, s46_77, s46_80, s46_83, s46_84, s46_87, s46_89, s46_92, s46_93, s46_96, s46_97, s46_100, s46_103, s46_104, s46_107, s46_109, s46_112, s46_113, s46_116, s46_117, s46_118, s46_119, s46_122, s46_125, s46_126, s46_129, s46_130, s46_133, List.cons_append, List.nil_append, if_true, if_false, true_and, and_true, and_self, eq_self, true_or, or_true, false_or, or_false, tIn, tLe, fLe, tLt, fLt, tEq, fEq, isL, ht.1, c30 ht h1, h2, el, g1, oS99, c68 sp99 h1, h3, e1, l2, n1, c117]
        exact fin 1 _ (Or.inl ⟨rfl, rfl⟩) (by simp) hq
      · have e2 : scO (te T (p + 1) : Int) (T[te T (p + 1)] = 1 ∨ 1000 < T[te T (p + 1)]) st = (te T (p + 1) : Int) :: st := by unfold scO; rw [if_neg (by rintro (q | q) <;> contradiction)]
        rw [e2] at hq
        simp (disch := omega) only [s46_0, s46_1, s46_2, s46_5, s46_6, s46_7, s46_8, s46_11, s46_12, s46_15, s46_16, s46_17, s46_18, s46_21, s46_23, s46_24, s46_26, s46_27, s46_29, s46_32, s46_33, s46_36, s46_37, s46_39, s46_42, s46_45, s46_48, s46_49, s46_52, s46_53, s46_56, s46_57, s46_58, s46_59, s46_60, s46_61, s46_62, s46_63, s46_64, s46_67, s46_70, s46_73, s46_76, s46_77, s46_80, s46_83, s46_84, s46_87, s46_89, s46_92, s46_93, s46_96, s46_97, s46_100, s46_103, s46_104, s46_107, s46_109, s46_112, s46_113, s46_116, s46_117, s46_118, s46_119, s46_122, s46_125, s46_126, s46_129, s46_130, s46_133, List.cons_append, List.nil_append, if_true, if_false, true_and, and_true, and_self, eq_self, true_or, or_true, false_or, or_false, tIn, tLe, fLe, tLt, fLt, tEq, fEq, isL, ht.1, c30 ht h1, h2, el, g1, oS99, c68 sp99 h1, h3, e1, l2, n1, c117]
        exact fin 0 _ (Or.inr ⟨rfl, rfl⟩) (by simp) hq
  · simp only [if_neg g1] at hw hq
    by_cases g2 : 1000 < T[p]
    · simp only [if_pos g2] at hw hq
      have b1 : (W ++ [94] ++ [T[p] - 1000] ++ [46]) = W ++ [94, T[p] - 1000, 46] := by simp
      simp only [List.length_cons, List.length_nil] at hw
      have tb : T[p] ≤ 1122 := by unfold tok at tk; omega
      simp (disch := omega) only [s46_0, s46_1, s46_2, s46_5, s46_6, s46_7, s46_8, s46_11, s46_12, s46_15, s46_16, s46_17, s46_18, s46_21, s46_23, s46_24, s46_26, s46_27, s46_29, s46_32, s46_33, s46_36, s46_37, s46_39, s46_42, s46_45, s46_48, s46_49, s46_52, s46_53, s46_56, s46_57, s46_58, s46_59, s46_60, s46_61, s46_62, s46_63, s46_64, s46_67, s46_70, s46_73, s46_76, s46_77, s46_80, s46_83, s46_84, s46_87, s46_89, s46_92, s46_93, s46_96, s46_97, s46_100, s46_103, s46_104, s46_107, s46_109, s46_112, s46_113, s46_116, s46_117, s46_118, s46_119, s46_122, s46_125, s46_126, s46_129, s46_130, s46_133, List.cons_append, List.nil_append, if_true, if_false, true_and, and_true, and_self, eq_self, true_or, or_true, false_or, or_false, tIn, tLe, fLe, tLt, fLt, tEq, fEq, isL, ht.1, c30 ht h1, h2, el, c117, row104.1, row106.1]
      refine radd_ok row104 h1 h4 (by rw [cp104]; omega) _ (fun σ1 k1 w1 f1 => ?_)
      simp (disch := omega) only [s46_0, s46_1, s46_2, s46_5, s46_6, s46_7, s46_8, s46_11, s46_12, s46_15, s46_16, s46_17, s46_18, s46_21, s46_23, s46_24, s46_26, s46_27, s46_29, s46_32, s46_33, s46_36, s46_37, s46_39, s46_42, s46_45, s46_48, s46_49, s46_52, s46_53, s46_56, s46_57, s46_58, s46_59, s46_60, s46_61, s46_62, s46_63, s46_64, s46_67, s46_70, s46_73, s46_76, s46_77, s46_80, s46_83, s46_84, s46_87, s46_89, s46_92, s46_93, s46_96, s46_97, s46_100, s46_103, s46_104, s46_107, s46_109, s46_112, s46_113, s46_116, s46_117, s46_118, s46_119, s46_122, s46_125, s46_126, s46_129, s46_130, s46_133, List.cons_append, List.nil_append, if_true, if_false, true_and, and_true, and_self, eq_self, true_or, or_true, false_or, or_false, tIn, tLe, fLe, tLt, fLt, tEq, fEq, isL, c118, row104.1, row106.1]
      refine radd_ok row104 k1 w1 (by rw [cp104]; simp; omega) _ (fun σ2 k2 w2 f2 => ?_)
      simp (disch := omega) only [s46_0, s46_1, s46_2, s46_5, s46_6, s46_7, s46_8, s46_11, s46_12, s46_15, s46_16, s46_17, s46_18, s46_21, s46_23, s46_24, s46_26, s46_27, s46_29, s46_32, s46_33, s46_36, s46_37, s46_39, s46_42, s46_45, s46_48, s46_49, s46_52, s46_53, s46_56, s46_57, s46_58, s46_59, s46_60, s46_61, s46_62, s46_63, s46_64, s46_67, s46_70, s46_73, s46_76, s46_77, s46_80, s46_83, s46_84, s46_87, s46_89, s46_92, s46_93, s46_96, s46_97, s46_100, s46_103, s46_104, s46_107, s46_109, s46_112, s46_113, s46_116, s46_117, s46_118, s46_119, s46_122, s46_125, s46_126, s46_129, s46_130, s46_133, List.cons_append, List.nil_append, if_true, if_false, true_and, and_true, and_self, eq_self, true_or, or_true, false_or, or_false, tIn, tLe, fLe, tLt, fLt, tEq, fEq, isL, row104.1, row106.1]
      refine radd_ok row104 k2 w2 (by rw [cp104]; simp; omega) _ (fun σ3 k3 w3 f3 => ?_)
      have i3 := SCI_w h ht ht2 k3 w3 (FrW_tr (FrW_tr f1 f2) f3)
      rw [b1] at i3
      simp (disch := omega) only [s46_0, s46_1, s46_2, s46_5, s46_6, s46_7, s46_8, s46_11, s46_12, s46_15, s46_16, s46_17, s46_18, s46_21, s46_23, s46_24, s46_26, s46_27, s46_29, s46_32, s46_33, s46_36, s46_37, s46_39, s46_42, s46_45, s46_48, s46_49, s46_52, s46_53, s46_56, s46_57, s46_58, s46_59, s46_60, s46_61, s46_62, s46_63, s46_64, s46_67, s46_70, s46_73, s46_76, s46_77, s46_80, s46_83, s46_84, s46_87, s46_89, s46_92, s46_93, s46_96, s46_97, s46_100, s46_103, s46_104, s46_107, s46_109, s46_112, s46_113, s46_116, s46_117, s46_118, s46_119, s46_122, s46_125, s46_126, s46_129, s46_130, s46_133, List.cons_append, List.nil_append, if_true, if_false, true_and, and_true, and_self, eq_self, true_or, or_true, false_or, or_false, tIn, tLe, fLe, tLt, fLt, tEq, fEq, isL, row104.1, row106.1]
      refine radd_ok row106 k3 i3.2.2.2.2.1 (by rw [cp106]; simp; omega) _ (fun σ4 k4 w4 f4 => ?_)
      simp (disch := omega) only [s46_0, s46_1, s46_2, s46_5, s46_6, s46_7, s46_8, s46_11, s46_12, s46_15, s46_16, s46_17, s46_18, s46_21, s46_23, s46_24, s46_26, s46_27, s46_29, s46_32, s46_33, s46_36, s46_37, s46_39, s46_42, s46_45, s46_48, s46_49, s46_52, s46_53, s46_56, s46_57, s46_58, s46_59, s46_60, s46_61, s46_62, s46_63, s46_64, s46_67, s46_70, s46_73, s46_76, s46_77, s46_80, s46_83, s46_84, s46_87, s46_89, s46_92, s46_93, s46_96, s46_97, s46_100, s46_103, s46_104, s46_107, s46_109, s46_112, s46_113, s46_116, s46_117, s46_118, s46_119, s46_122, s46_125, s46_126, s46_129, s46_130, s46_133, List.cons_append, List.nil_append, if_true, if_false, true_and, and_true, and_self, eq_self, true_or, or_true, false_or, or_false, tIn, tLe, fLe, tLt, fLt, tEq, fEq, isL]
      exact hq σ4 (SCI_s i3 ht ht2 k4 (by rw [w4]; simp) f4)
    · simp only [if_neg g2] at hw hq
      simp only [List.length_cons, List.length_nil] at hw
      simp (disch := omega) only [s46_0, s46_1, s46_2, s46_5, s46_6, s46_7, s46_8, s46_11, s46_12, s46_15, s46_16, s46_17, s46_18, s46_21, s46_23, s46_24, s46_26, s46_27, s46_29, s46_32, s46_33, s46_36, s46_37, s46_39, s46_42, s46_45, s46_48, s46_49, s46_52, s46_53, s46_56, s46_57, s46_58, s46_59, s46_60, s46_61, s46_62, s46_63, s46_64, s46_67, s46_70, s46_73, s46_76, s46_77, s46_80, s46_83, s46_84, s46_87, s46_89, s46_92, s46_93, s46_96, s46_97, s46_100, s46_103, s46_104, s46_107, s46_109, s46_112, s46_113, s46_116, s46_117, s46_118, s46_119, s46_122, s46_125, s46_126, s46_129, s46_130, s46_133, List.cons_append, List.nil_append, if_true, if_false, true_and, and_true, and_self, eq_self, true_or, or_true, false_or, or_false, tIn, tLe, fLe, tLt, fLt, tEq, fEq, isL, ht.1, c30 ht h1, h2, el, c117, row104.1, row106.1]
      refine radd_ok row104 h1 h4 (by rw [cp104]; omega) _ (fun σ1 k1 w1 f1 => ?_)
      simp (disch := omega) only [s46_0, s46_1, s46_2, s46_5, s46_6, s46_7, s46_8, s46_11, s46_12, s46_15, s46_16, s46_17, s46_18, s46_21, s46_23, s46_24, s46_26, s46_27, s46_29, s46_32, s46_33, s46_36, s46_37, s46_39, s46_42, s46_45, s46_48, s46_49, s46_52, s46_53, s46_56, s46_57, s46_58, s46_59, s46_60, s46_61, s46_62, s46_63, s46_64, s46_67, s46_70, s46_73, s46_76, s46_77, s46_80, s46_83, s46_84, s46_87, s46_89, s46_92, s46_93, s46_96, s46_97, s46_100, s46_103, s46_104, s46_107, s46_109, s46_112, s46_113, s46_116, s46_117, s46_118, s46_119, s46_122, s46_125, s46_126, s46_129, s46_130, s46_133, List.cons_append, List.nil_append, if_true, if_false, true_and, and_true, and_self, eq_self, true_or, or_true, false_or, or_false, tIn, tLe, fLe, tLt, fLt, tEq, fEq, isL]
      exact hq σ1 (SCI_w h ht ht2 k1 w1 f1)
def sgL (T : List Int) : List Int := scR T 488 [0]
theorem scR_irr (hT : isT T) (hk : tks T) : ∀ (n m : Nat) (st : List Int), (∀ u ∈ st, scI T u) → scM T st ≤ n → scM T st ≤ m → scR T n st = scR T m st := by
  intro n
  induction n with
  | zero =>
    intro m st hs h1 h2
    have := scM_len hT st hs
    have e : st = [] := List.length_eq_zero_iff.mp (by omega)
    subst e
    cases m <;> rfl
  | succ n ih =>
    intro m st hs h1 h2
    cases st with
    | nil => cases m <;> rfl
    | cons v st =>
      have hv := hs v (List.mem_cons_self ..)
      have hs' : ∀ u ∈ st, scI T u := fun u hu => hs u (List.mem_cons_of_mem _ hu)
      obtain ⟨s1, s2, s3⟩ := sc_step hT hk hv hs'
      simp only [scM] at h1 h2
      cases m with
      | zero => omega
      | succ m =>
        simp only [scR]
        rw [ih m _ s1 (by omega) (by omega)]
theorem wr45 (ht : isRow t) (ht2 : t < 53) (hk : RK σ) (hv : rv σ t = T) (hT : isT T) (hkT : tks T) (hl : T.length ≤ 120) (Q : List AV → aSg → Prop) (hq : ∀ σ', RK σ' → rv σ' 104 = sgL T → (∀ a, (a < 98 ∨ 107 < a) → σ' a = σ a) → Q [] σ') : CA m45 [.inr (.inl 98), .inr (.inl t)] σ Q := by
  rw [e45]
  have i0 : scI T 0 := Or.inr (Or.inr ⟨by omega, isT_pos hT⟩)
  have m0 : scM T [0] ≤ 358 := by
    have h1 := scG_n (T := T) 0
    have h2 := te_gt hT (isT_pos hT)
    simp only [scM]
    rw [show ((0 : Nat) : Int) = 0 from rfl] at h1
    omega
  simp (disch := omega) only [s45_0, s45_1, s45_4, s45_5, s45_8, s45_9, s45_12, s45_15, s45_16, s45_19, s45_22, s45_23, s45_26, s45_27, s45_30, s45_31, s45_33, s45_36, s45_39, s45_40, s45_43, s45_46, s45_49, s45_50, s45_53, s45_56, s45_57, s45_58, s45_61, s45_62, s45_65, s45_66, s45_67, s45_70, s45_73, s45_74, s45_75, s45_76, s45_79, s45_82, s45_85, List.cons_append, List.nil_append, if_true, if_false, true_and, and_true, and_self, eq_self, true_or, or_true, false_or, or_false, tIn, tLe, fLe, tLt, fLt, tEq, fEq, isL, oS99, c67 sp99 ht (show t ≠ 99 + 1 by omega) hk hv hT (show T.length ≤ cp (99 + 1) by rw [cp100]; exact hl), row104.1, row106.1]
  have k0 : RK (rs σ (99 + 1) (endsT T)) := RK_rs hk row100 (by rw [endsT_len, cp100]; exact hl)
  refine rclr_ok row104 k0 _ (fun σ1 k1 w1 f1 => ?_)
  simp (disch := omega) only [s45_0, s45_1, s45_4, s45_5, s45_8, s45_9, s45_12, s45_15, s45_16, s45_19, s45_22, s45_23, s45_26, s45_27, s45_30, s45_31, s45_33, s45_36, s45_39, s45_40, s45_43, s45_46, s45_49, s45_50, s45_53, s45_56, s45_57, s45_58, s45_61, s45_62, s45_65, s45_66, s45_67, s45_70, s45_73, s45_74, s45_75, s45_76, s45_79, s45_82, s45_85, List.cons_append, List.nil_append, if_true, if_false, true_and, and_true, and_self, eq_self, true_or, or_true, false_or, or_false, tIn, tLe, fLe, tLt, fLt, tEq, fEq, isL, row104.1, row106.1]
  refine rclr_ok row106 k1 _ (fun σ2 k2 w2 f2 => ?_)
  simp (disch := omega) only [s45_0, s45_1, s45_4, s45_5, s45_8, s45_9, s45_12, s45_15, s45_16, s45_19, s45_22, s45_23, s45_26, s45_27, s45_30, s45_31, s45_33, s45_36, s45_39, s45_40, s45_43, s45_46, s45_49, s45_50, s45_53, s45_56, s45_57, s45_58, s45_61, s45_62, s45_65, s45_66, s45_67, s45_70, s45_73, s45_74, s45_75, s45_76, s45_79, s45_82, s45_85, List.cons_append, List.nil_append, if_true, if_false, true_and, and_true, and_self, eq_self, true_or, or_true, false_or, or_false, tIn, tLe, fLe, tLt, fLt, tEq, fEq, isL, row104.1, row106.1]
  refine radd_ok row106 k2 w2 (by rw [cp106]; simp) _ (fun σ3 k3 w3 f3 => ?_)
  have I0 : SCI σ σ3 t T [] [0] := by
    refine ⟨k3, ?_, ?_, ?_, by rw [w3]; rfl, fun a ha => ?_⟩
    · rw [FrW_rv (FrW_tr f2 f3) row106 ht (by omega), FrW_rv f1 row104 ht (by omega), rv_ne row100 ht (by omega)]; exact hv
    · rw [FrW_rv (FrW_tr f2 f3) row106 row100 (by omega), FrW_rv f1 row104 row100 (by omega)]; exact rv_rs
    · rw [FrW_rv (FrW_tr f2 f3) row106 row104 (by omega)]; exact w1
    · rw [f3 a (by omega) (by omega), f2 a (by omega) (by omega), f1 a (by omega) (by omega), rs_at (by omega) (by omega)]
  simp (disch := omega) only [s45_0, s45_1, s45_4, s45_5, s45_8, s45_9, s45_12, s45_15, s45_16, s45_19, s45_22, s45_23, s45_26, s45_27, s45_30, s45_31, s45_33, s45_36, s45_39, s45_40, s45_43, s45_46, s45_49, s45_50, s45_53, s45_56, s45_57, s45_58, s45_61, s45_62, s45_65, s45_66, s45_67, s45_70, s45_73, s45_74, s45_75, s45_76, s45_79, s45_82, s45_85, List.cons_append, List.nil_append, if_true, if_false, true_and, and_true, and_self, eq_self, true_or, or_true, false_or, or_false, tIn, tLe, fLe, tLt, fLt, tEq, fEq, isL]
  have lp : ∀ (n k : Nat) (W st : List Int) (σ1 : aSg) (l3 : AV), k + n = 488 → scM T st ≤ n → (∀ u ∈ st, scI T u) → W.length + scM T st ≤ 358 → W ++ scR T n st = sgL T → SCI σ σ1 t T W st → WP m45 32 [.inr (.inl 98), .inr (.inl t), .inl (k : Int), l3] [] σ1 Q := by
    intro n
    induction n with
    | zero =>
      intro k W st σ1 l3 hn hm hs hw he hi
      have := scM_len hT st hs
      have e : st = [] := List.length_eq_zero_iff.mp (by omega)
      subst e
      rw [s45_32]
      simp (disch := omega) only [s45_0, s45_1, s45_4, s45_5, s45_8, s45_9, s45_12, s45_15, s45_16, s45_19, s45_22, s45_23, s45_26, s45_27, s45_30, s45_31, s45_33, s45_36, s45_39, s45_40, s45_43, s45_46, s45_49, s45_50, s45_53, s45_56, s45_57, s45_58, s45_61, s45_62, s45_65, s45_66, s45_67, s45_70, s45_73, s45_74, s45_75, s45_76, s45_79, s45_82, s45_85, List.cons_append, List.nil_append, if_true, if_false, true_and, and_true, and_self, eq_self, true_or, or_true, false_or, or_false, tIn, tLe, fLe, tLt, fLt, tEq, fEq, isL]
      exact hq σ1 hi.1 (by rw [hi.2.2.2.1, ← he]; simp [scR]) hi.2.2.2.2.2
    | succ n ih =>
      intro k W st σ1 l3 hn hm hs hw he hi
      obtain ⟨h1, h2, h3, h4, h5, h6⟩ := id hi
      cases st with
      | nil =>
        rw [s45_32]
        simp (disch := omega) only [s45_0, s45_1, s45_4, s45_5, s45_8, s45_9, s45_12, s45_15, s45_16, s45_19, s45_22, s45_23, s45_26, s45_27, s45_30, s45_31, s45_33, s45_36, s45_39, s45_40, s45_43, s45_46, s45_49, s45_50, s45_53, s45_56, s45_57, s45_58, s45_61, s45_62, s45_65, s45_66, s45_67, s45_70, s45_73, s45_74, s45_75, s45_76, s45_79, s45_82, s45_85, List.cons_append, List.nil_append, if_true, if_false, true_and, and_true, and_self, eq_self, true_or, or_true, false_or, or_false, tIn, tLe, fLe, tLt, fLt, tEq, fEq, isL, row106.1, c28 row106 h1, h5, List.reverse_nil, List.length_nil, Int.natCast_zero]
        exact hq σ1 h1 (by rw [h4, ← he]; simp [scR]) h6
      | cons v st =>
        have hv := hs v (List.mem_cons_self ..)
        have hs' : ∀ u ∈ st, scI T u := fun u hu => hs u (List.mem_cons_of_mem _ hu)
        obtain ⟨s1, s2, s3⟩ := sc_step hT hkT hv hs'
        have hsl := scM_len hT st hs'
        simp only [scM] at hm hw
        simp only [scR, ← List.append_assoc] at he
        have hg := scG_pos hT hv
        have hrl : ((v :: st).reverse.length : Int) = (st.length : Int) + 1 := by simp
        rw [s45_32]
        simp (disch := omega) only [s45_0, s45_1, s45_4, s45_5, s45_8, s45_9, s45_12, s45_15, s45_16, s45_19, s45_22, s45_23, s45_26, s45_27, s45_30, s45_31, s45_33, s45_36, s45_39, s45_40, s45_43, s45_46, s45_49, s45_50, s45_53, s45_56, s45_57, s45_58, s45_61, s45_62, s45_65, s45_66, s45_67, s45_70, s45_73, s45_74, s45_75, s45_76, s45_79, s45_82, s45_85, List.cons_append, List.nil_append, if_true, if_false, true_and, and_true, and_self, eq_self, true_or, or_true, false_or, or_false, tIn, tLe, fLe, tLt, fLt, tEq, fEq, isL, row106.1, c28 row106 h1, h5, hrl]
        refine rpop_ok row106 h1 (by rw [h5, List.reverse_cons]) _ (fun σ2 k2 w2 f2 => ?_)
        have i2 := SCI_s hi ht ht2 k2 w2 f2
        by_cases g : v < 0
        · have hb : -41 ≤ v := by rcases hv with q | q | q <;> omega
          have e1 : scS T v st = st := by unfold scS; rw [if_pos g]
          have e2 : scW T v = [-v] := by unfold scW; rw [if_pos g]
          rw [e1, e2] at he s2
          simp (disch := omega) only [s45_0, s45_1, s45_4, s45_5, s45_8, s45_9, s45_12, s45_15, s45_16, s45_19, s45_22, s45_23, s45_26, s45_27, s45_30, s45_31, s45_33, s45_36, s45_39, s45_40, s45_43, s45_46, s45_49, s45_50, s45_53, s45_56, s45_57, s45_58, s45_61, s45_62, s45_65, s45_66, s45_67, s45_70, s45_73, s45_74, s45_75, s45_76, s45_79, s45_82, s45_85, List.cons_append, List.nil_append, if_true, if_false, true_and, and_true, and_self, eq_self, true_or, or_true, false_or, or_false, tIn, tLe, fLe, tLt, fLt, tEq, fEq, isL, row104.1]
          refine radd_ok row104 k2 i2.2.2.2.1 (by rw [cp104]; omega) _ (fun σ3 k3 w3 f3 => ?_)
          simp (disch := omega) only [s45_0, s45_1, s45_4, s45_5, s45_8, s45_9, s45_12, s45_15, s45_16, s45_19, s45_22, s45_23, s45_26, s45_27, s45_30, s45_31, s45_33, s45_36, s45_39, s45_40, s45_43, s45_46, s45_49, s45_50, s45_53, s45_56, s45_57, s45_58, s45_61, s45_62, s45_65, s45_66, s45_67, s45_70, s45_73, s45_74, s45_75, s45_76, s45_79, s45_82, s45_85, List.cons_append, List.nil_append, if_true, if_false, true_and, and_true, and_self, eq_self, true_or, or_true, false_or, or_false, tIn, tLe, fLe, tLt, fLt, tEq, fEq, isL]
          exact ih (k + 1) _ st σ3 _ (by omega) (by omega) hs' (by simp at s2 ⊢; omega) he (SCI_w i2 ht ht2 k3 w3 f3)
        · obtain ⟨p, rfl⟩ := Int.eq_ofNat_of_zero_le (show 0 ≤ v by omega)
          have hp : p < T.length := by
            rcases hv with q | q | q
            · omega
            · omega
            · simpa using q.2
          simp (disch := omega) only [s45_0, s45_1, s45_4, s45_5, s45_8, s45_9, s45_12, s45_15, s45_16, s45_19, s45_22, s45_23, s45_26, s45_27, s45_30, s45_31, s45_33, s45_36, s45_39, s45_40, s45_43, s45_46, s45_49, s45_50, s45_53, s45_56, s45_57, s45_58, s45_61, s45_62, s45_65, s45_66, s45_67, s45_70, s45_73, s45_74, s45_75, s45_76, s45_79, s45_82, s45_85, List.cons_append, List.nil_append, if_true, if_false, true_and, and_true, and_self, eq_self, true_or, or_true, false_or, or_false, tIn, tLe, fLe, tLt, fLt, tEq, fEq, isL]
          refine wr46 i2 ht ht2 hT hkT hl hp (by omega) (by omega) _ (fun σ3 i3 => ?_)
          simp (disch := omega) only [s45_0, s45_1, s45_4, s45_5, s45_8, s45_9, s45_12, s45_15, s45_16, s45_19, s45_22, s45_23, s45_26, s45_27, s45_30, s45_31, s45_33, s45_36, s45_39, s45_40, s45_43, s45_46, s45_49, s45_50, s45_53, s45_56, s45_57, s45_58, s45_61, s45_62, s45_65, s45_66, s45_67, s45_70, s45_73, s45_74, s45_75, s45_76, s45_79, s45_82, s45_85, List.cons_append, List.nil_append, if_true, if_false, true_and, and_true, and_self, eq_self, true_or, or_true, false_or, or_false, tIn, tLe, fLe, tLt, fLt, tEq, fEq, isL]
          exact ih (k + 1) _ _ σ3 _ (by omega) (by omega) s1 (by rw [List.length_append]; omega) he i3
  exact lp 488 0 [] [0] σ3 _ rfl (by omega) (fun u hu => by rcases List.mem_singleton.mp hu with rfl; exact i0) (by simpa using m0) (by simp [sgL]) I0
end SCC
