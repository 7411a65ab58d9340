/-! sums over a term, the component; how deep, how many, the reference -/
section DEE
variable {σ σ0 σ' : aSg} {K : List AV → aSg → Prop} {x y z i : Int} {S : SS} {T W st : List Int} {r q t a j b k : Nat}
theorem up_skip {n p : Nat} {F : Nat → Int} {d : Int} (h : F p = d) : upto n (p + 1) F d = upto n p F d := by
  unfold upto
  apply List.map_congr_left
  intro j _
  by_cases h1 : p + 1 ≤ j
  · rw [if_pos h1, if_pos (by omega)]
  · rw [if_neg h1]
    by_cases h2 : p ≤ j
    · rw [if_pos h2, show j = p by omega, h]
    · rw [if_neg h2]
theorem At_tks {p : Nat} {u : Tm} (h : AtT T p u) (hk : tks T) : tks (fl u) := by
  obtain ⟨_, r, e⟩ := h
  intro c hc
  exact hk c (List.mem_of_mem_drop (by rw [e]; exact List.mem_append_left _ hc))
theorem p60b : pt 60 1 = 63 := sp60.2.2.1.2
theorem z60b : 0 ≤ PT 60 1 := sp60.2.2.1.1
theorem c70 (hk : RK σ) (h1 : rv σ 61 = endsT T) {p : Nat} {u : Tm} (hu : AtT T p u) (hkT : tks T) (hl : T.length ≤ 10000) (hs : ∀ (j : Nat) (v : Tm), p < j → AtT T j v → lat (rv σ 63) (j : Int) = (vBt v).toInt) {c : Int} (hc : T[p]? = some c) : CA m70 [.inr (.inl 60), .inl c, .inl (p : Int)] σ K = K [.inl (vBt u).toInt] σ := by
  rw [e70]
  have hpl := At_lt hu
  have ep : (p : Int) + 1 = ((p + 1 : Nat) : Int) := by omega
  obtain ⟨hw, -⟩ := id hu
  have tk : tok c := hkT c (List.mem_of_getElem? hc)
  cases u with
  | num d =>
    obtain ⟨g1, g2⟩ := At_num hu
    rw [hc] at g1
    cases g1
    have g0 := arT_0' g2
    by_cases g : 97 ≤ c ∧ c ≤ 122
    · have e2 := tw_int (c - 97).toNat (by omega)
      have b3 := bv_in (BitVec.twoPow 32 (c - 97).toNat)
      simp only [vBt, if_pos g]
      simp (disch := omega) only [s70_0, s70_1, s70_2, s70_5, s70_6, s70_9, s70_10, s70_11, s70_12, s70_15, s70_16, s70_19, s70_20, s70_21, s70_22, s70_23, s70_26, s70_29, s70_30, s70_31, s70_32, s70_35, s70_38, s70_39, s70_42, s70_43, s70_44, s70_45, s70_48, s70_49, s70_50, s70_53, s70_55, s70_56, s70_57, s70_58, s70_59, s70_60, s70_61, s70_62, s70_65, s70_68, s70_69, s70_70, s70_72, s70_73, s70_74, s70_77, s70_78, List.cons_append, List.nil_append, if_true, if_false, true_and, and_true, and_self, eq_self, true_or, or_true, false_or, or_false, tIn, tLe, fLe, tLt, fLt, tEq, fEq, isL, c117, c116, g, e2]
    · have ez : (0 : Int) = (0 : BitVec 32).toInt := by decide
      simp only [vBt, if_neg g]
      simp (disch := omega) only [s70_0, s70_1, s70_2, s70_5, s70_6, s70_9, s70_10, s70_11, s70_12, s70_15, s70_16, s70_19, s70_20, s70_21, s70_22, s70_23, s70_26, s70_29, s70_30, s70_31, s70_32, s70_35, s70_38, s70_39, s70_42, s70_43, s70_44, s70_45, s70_48, s70_49, s70_50, s70_53, s70_55, s70_56, s70_57, s70_58, s70_59, s70_60, s70_61, s70_62, s70_65, s70_68, s70_69, s70_70, s70_72, s70_73, s70_74, s70_77, s70_78, List.cons_append, List.nil_append, if_true, if_false, true_and, and_true, and_self, eq_self, true_or, or_true, false_or, or_false, tIn, tLe, fLe, tLt, fLt, tEq, fEq, isL, c117, c116, g]
      rfl
  | add u v =>
    obtain ⟨g1, A1, A2, e1⟩ := At_add hu
    rw [hc] at g1
    cases g1
    have q1 := hs (p + 1) u (by omega) A1
    have q2 := hs (te T (p + 1)) v (by omega) A2
    have q3 := endsT_at (T := T) (At_lt A1)
    have b1 := bv_in (vBt u ||| vBt v)
    have tl := At_lt A2
    simp only [vBt]
    simp (disch := omega) only [s70_0, s70_1, s70_2, s70_5, s70_6, s70_9, s70_10, s70_11, s70_12, s70_15, s70_16, s70_19, s70_20, s70_21, s70_22, s70_23, s70_26, s70_29, s70_30, s70_31, s70_32, s70_35, s70_38, s70_39, s70_42, s70_43, s70_44, s70_45, s70_48, s70_49, s70_50, s70_53, s70_55, s70_56, s70_57, s70_58, s70_59, s70_60, s70_61, s70_62, s70_65, s70_68, s70_69, s70_70, s70_72, s70_73, s70_74, s70_77, s70_78, List.cons_append, List.nil_append, if_true, if_false, true_and, and_true, and_self, eq_self, true_or, or_true, false_or, or_false, tIn, tLe, fLe, tLt, fLt, tEq, fEq, isL, c30 row63 hk, oS60, z60b, p60b, row63.1, ep, q1, c68 sp60 hk, h1, q3, q2, bA_or]
  | mulL d u =>
    obtain ⟨g1, g2, A1⟩ := At_mul hu
    rw [hc] at g1
    cases g1
    have g0 := arT_1' g2
    have tr : 1097 ≤ c ∧ c ≤ 1122 := by unfold tok at tk; omega
    have q1 := hs (p + 1) u (by omega) A1
    have e2 := tw_int (c - 1000 - 97).toNat (by omega)
    have e3 : (c - 1000 - 97).toNat = (c - 1097).toNat := by omega
    rw [e3] at e2
    have b3 := bv_in (BitVec.twoPow 32 (c - 1097).toNat)
    have b4 := bv_in (BitVec.twoPow 32 (c - 1097).toNat ^^^ BitVec.allOnes 32)
    have b5 := bv_in (vBt u &&& (BitVec.twoPow 32 (c - 1097).toNat ^^^ BitVec.allOnes 32))
    have ez : (-1 : Int) = (BitVec.allOnes 32).toInt := by decide
    have bx := bA_xor (BitVec.twoPow 32 (c - 1097).toNat) (BitVec.allOnes 32)
    rw [← ez] at bx
    simp only [vBt]
    simp (disch := omega) only [s70_0, s70_1, s70_2, s70_5, s70_6, s70_9, s70_10, s70_11, s70_12, s70_15, s70_16, s70_19, s70_20, s70_21, s70_22, s70_23, s70_26, s70_29, s70_30, s70_31, s70_32, s70_35, s70_38, s70_39, s70_42, s70_43, s70_44, s70_45, s70_48, s70_49, s70_50, s70_53, s70_55, s70_56, s70_57, s70_58, s70_59, s70_60, s70_61, s70_62, s70_65, s70_68, s70_69, s70_70, s70_72, s70_73, s70_74, s70_77, s70_78, List.cons_append, List.nil_append, if_true, if_false, true_and, and_true, and_self, eq_self, true_or, or_true, false_or, or_false, tIn, tLe, fLe, tLt, fLt, tEq, fEq, isL, c117, c118, c30 row63 hk, oS60, z60b, p60b, row63.1, ep, q1, e3, e2, bx, bA_and]
  | var i => simp [wt] at hw
  | sub a b => simp [wt] at hw
  | neg a => simp [wt] at hw
  | mulR a d => simp [wt] at hw
theorem sums_ok (hk : RK σ) {r : Nat} {l : List Int} (hr : isRow r) (hl : l.length ≤ cp r) : RK (rs σ r l) ∧ rv (rs σ r l) r = l ∧ FrW r σ (rs σ r l) := ⟨RK_rs hk hr hl, rv_rs, fun a h1 h2 => rs_at h1 h2⟩
theorem wr69 (ht : isRow t) (ht2 : t < 53) (hk : RK σ) (hv : rv σ t = T) (hT : isT T) (hkT : tks T) (hl : T.length ≤ 120) {u : Tm} (hu : AtT T 0 u) (Q : List AV → aSg → Prop) (hq : ∀ σ', RK σ' → (∀ a, (a < 60 ∨ 64 < a) → σ' a = σ a) → Q [.inl (vBt u).toInt] σ') : CA m69 [.inr (.inl 60), .inr (.inl t)] σ Q := by
  rw [e69]
  have k0 : RK (rs σ (60 + 1) (endsT T)) := RK_rs hk row61 (by rw [endsT_len, cp61]; exact hl)
  have v0 : rv (rs σ (60 + 1) (endsT T)) t = T := by rw [rv_ne row61 ht (by omega)]; exact hv
  have hc := cp63
  simp (disch := omega) only [s69_0, s69_1, s69_2, s69_5, s69_6, s69_9, s69_10, s69_13, s69_14, s69_17, s69_18, s69_21, s69_22, s69_23, s69_25, s69_28, s69_29, s69_32, s69_33, s69_34, s69_35, s69_36, s69_39, s69_40, s69_43, s69_46, s69_49, s69_52, s69_53, s69_56, s69_57, s69_60, List.cons_append, List.nil_append, if_true, if_false, true_and, and_true, and_self, eq_self, true_or, or_true, false_or, or_false, tIn, tLe, fLe, tLt, fLt, tEq, fEq, isL, c67 sp60 ht (show t ≠ 60 + 1 by omega) hk hv hT (show T.length ≤ cp (60 + 1) by rw [cp61]; exact hl), ht.1, c28 ht k0, v0, oS60, z60b, p60b, row63.1, c37 row63 k0, Int.toNat_natCast]
  rw [Nat.min_eq_left (by omega), ← up_top T.length (fun j => (vBt (trA T j)).toInt) 0]
  have I : ∀ p σ1, σ1 = rs (rs σ (60 + 1) (endsT T)) 63 (upto T.length p (fun j => (vBt (trA T j)).toInt) 0) → RK σ1 ∧ rv σ1 t = T ∧ rv σ1 61 = endsT T ∧ rv σ1 63 = upto T.length p (fun j => (vBt (trA T j)).toInt) 0 ∧ ∀ a, (a < 60 ∨ 64 < a) → σ1 a = σ a := by
    intro p σ1 h
    subst h
    refine ⟨RK_rs k0 row63 (by rw [up_len]; omega), by rw [rv_ne row63 ht (by omega)]; exact v0, by rw [rv_ne row63 row61 (by omega)]; exact rv_rs, rv_rs, fun a ha => ?_⟩
    rw [rs_at (by omega) (by omega), rs_at (by omega) (by omega)]
  have lp : ∀ (p : Nat), p ≤ T.length → WP m69 24 [.inr (.inl 60), .inr (.inl t), .inl ((p : Int) - 1)] [] (rs (rs σ (60 + 1) (endsT T)) 63 (upto T.length p (fun j => (vBt (trA T j)).toInt) 0)) Q := by
    intro p
    induction p with
    | zero =>
      intro hp
      obtain ⟨k1, v1, v2, v3, f1⟩ := I 0 _ rfl
      have e : lat (upto T.length 0 (fun j => (vBt (trA T j)).toInt) 0) (0 : Int) = (vBt (trA T 0)).toInt := up_at (j := 0) (F := fun j => (vBt (trA T j)).toInt) (by omega) (At_lt hu)
      rw [trA_eq hu] at e
      rw [s69_24]
      simp (disch := omega) only [s69_0, s69_1, s69_2, s69_5, s69_6, s69_9, s69_10, s69_13, s69_14, s69_17, s69_18, s69_21, s69_22, s69_23, s69_25, s69_28, s69_29, s69_32, s69_33, s69_34, s69_35, s69_36, s69_39, s69_40, s69_43, s69_46, s69_49, s69_52, s69_53, s69_56, s69_57, s69_60, List.cons_append, List.nil_append, if_true, if_false, true_and, and_true, and_self, eq_self, true_or, or_true, false_or, or_false, tIn, tLe, fLe, tLt, fLt, tEq, fEq, isL, oS60, z60b, p60b, row63.1, c30 row63 k1, v3]
      rw [e]
      exact hq _ k1 f1
    | succ p ih =>
      intro hp
      have hpl : p < T.length := by omega
      have eg : rs (rs (rs σ (60 + 1) (endsT T)) 63 (upto T.length (p + 1) (fun j => (vBt (trA T j)).toInt) 0)) 63 (upto T.length p (fun j => (vBt (trA T j)).toInt) 0) = rs (rs σ (60 + 1) (endsT T)) 63 (upto T.length p (fun j => (vBt (trA T j)).toInt) 0) := rs_grow (by rw [up_len, up_len]; omega)
      obtain ⟨σ1, hσ1⟩ : ∃ z, z = rs (rs σ (60 + 1) (endsT T)) 63 (upto T.length (p + 1) (fun j => (vBt (trA T j)).toInt) 0) := ⟨_, rfl⟩
      obtain ⟨k1, v1, v2, v3, f1⟩ := I (p + 1) σ1 hσ1
      obtain ⟨v, A⟩ := At_ex hT hpl
      have q1 : ((p + 1 : Nat) : Int) - 1 = (p : Int) := by omega
      have el := lat_i2 hpl
      have ust : lset (upto T.length (p + 1) (fun j => (vBt (trA T j)).toInt) 0) (p : Int) (vBt (trA T p)).toInt = upto T.length p (fun j => (vBt (trA T j)).toInt) 0 := up_set (F := fun j => (vBt (trA T j)).toInt) hpl
      rw [trA_eq A] at ust
      have cc := fun K => c70 (K := K) k1 v2 A hkT (by omega) (fun j w h1 h2 => by rw [v3, up_at (F := fun j => (vBt (trA T j)).toInt) (by omega) (At_lt h2), trA_eq h2]) (List.getElem?_eq_getElem hpl)
      rw [← hσ1] at eg ⊢
      rw [s69_24]
      simp (disch := omega) only [s69_0, s69_1, s69_2, s69_5, s69_6, s69_9, s69_10, s69_13, s69_14, s69_17, s69_18, s69_21, s69_22, s69_23, s69_25, s69_28, s69_29, s69_32, s69_33, s69_34, s69_35, s69_36, s69_39, s69_40, s69_43, s69_46, s69_49, s69_52, s69_53, s69_56, s69_57, s69_60, List.cons_append, List.nil_append, if_true, if_false, true_and, and_true, and_self, eq_self, true_or, or_true, false_or, or_false, tIn, tLe, fLe, tLt, fLt, tEq, fEq, isL, q1, ht.1, c30 ht k1, v1, el, cc, oS60, z60b, p60b, row63.1, c33 row63 k1, v3, ust, eg]
      exact ih (by omega)
  obtain ⟨k1, v1, -⟩ := I T.length _ rfl
  simp (disch := omega) only [s69_0, s69_1, s69_2, s69_5, s69_6, s69_9, s69_10, s69_13, s69_14, s69_17, s69_18, s69_21, s69_22, s69_23, s69_25, s69_28, s69_29, s69_32, s69_33, s69_34, s69_35, s69_36, s69_39, s69_40, s69_43, s69_46, s69_49, s69_52, s69_53, s69_56, s69_57, s69_60, List.cons_append, List.nil_append, if_true, if_false, true_and, and_true, and_self, eq_self, true_or, or_true, false_or, or_false, tIn, tLe, fLe, tLt, fLt, tEq, fEq, isL, ht.1, c28 ht k1, v1]
  exact lp T.length (Nat.le_refl _)
theorem dpT_le : ∀ t, wt t → dpT t ≤ (fl t).length := by
  apply wt_ind
  · intro c _; simp [dpT, fl]
  · intro a b _ _ ha hb; simp only [dpT, fl, List.length_cons, List.length_append]; omega
  · intro c a _ _ ha; simp only [dpT, fl, List.length_cons]; omega
theorem wr71 (ht : isRow t) (ht2 : t < 53) (hk : RK σ) (hv : rv σ t = T) (hT : isT T) (hkT : tks T) (hl : T.length ≤ 120) {u : Tm} (hu : AtT T 0 u) (Q : List AV → aSg → Prop) (hq : ∀ σ', RK σ' → (∀ a, (a < 60 ∨ 64 < a) → σ' a = σ a) → Q [.inl (dpT u : Int)] σ') : CA m71 [.inr (.inl 60), .inr (.inl t)] σ Q := by
  rw [e71]
  have k0 : RK (rs σ (60 + 1) (endsT T)) := RK_rs hk row61 (by rw [endsT_len, cp61]; exact hl)
  have v0 : rv (rs σ (60 + 1) (endsT T)) t = T := by rw [rv_ne row61 ht (by omega)]; exact hv
  have hc := cp63
  simp (disch := omega) only [s71_0, s71_1, s71_2, s71_5, s71_6, s71_9, s71_10, s71_13, s71_14, s71_17, s71_18, s71_21, s71_22, s71_23, s71_25, s71_28, s71_29, s71_30, s71_33, s71_34, s71_35, s71_36, s71_39, s71_40, s71_43, s71_44, s71_45, s71_46, s71_49, s71_50, s71_51, s71_52, s71_55, s71_56, s71_59, s71_60, s71_61, s71_62, s71_63, s71_66, s71_69, s71_72, s71_73, s71_76, s71_79, s71_80, s71_83, s71_86, s71_87, s71_90, s71_91, s71_92, s71_93, s71_96, s71_97, s71_98, s71_99, s71_102, s71_103, s71_106, s71_109, s71_112, s71_113, s71_116, s71_117, s71_120, List.cons_append, List.nil_append, if_true, if_false, true_and, and_true, and_self, eq_self, true_or, or_true, false_or, or_false, tIn, tLe, fLe, tLt, fLt, tEq, fEq, isL, c67 sp60 ht (show t ≠ 60 + 1 by omega) hk hv hT (show T.length ≤ cp (60 + 1) by rw [cp61]; exact hl), ht.1, c28 ht k0, v0, oS60, z60b, p60b, row63.1, c37 row63 k0, Int.toNat_natCast]
  rw [Nat.min_eq_left (by omega), ← up_top T.length (fun j => (dpT (trA T j) : Int)) 1]
  have I : ∀ p σ1, σ1 = rs (rs σ (60 + 1) (endsT T)) 63 (upto T.length p (fun j => (dpT (trA T j) : Int)) 1) → RK σ1 ∧ rv σ1 t = T ∧ rv σ1 61 = endsT T ∧ rv σ1 63 = upto T.length p (fun j => (dpT (trA T j) : Int)) 1 ∧ ∀ a, (a < 60 ∨ 64 < a) → σ1 a = σ a := by
    intro p σ1 h
    subst h
    refine ⟨RK_rs k0 row63 (by rw [up_len]; omega), by rw [rv_ne row63 ht (by omega)]; exact v0, by rw [rv_ne row63 row61 (by omega)]; exact rv_rs, rv_rs, fun a ha => ?_⟩
    rw [rs_at (by omega) (by omega), rs_at (by omega) (by omega)]
  have lp : ∀ (p : Nat) (l3 : AV), p ≤ T.length → WP m71 24 [.inr (.inl 60), .inr (.inl t), .inl ((p : Int) - 1), l3] [] (rs (rs σ (60 + 1) (endsT T)) 63 (upto T.length p (fun j => (dpT (trA T j) : Int)) 1)) Q := by
    intro p
    induction p with
    | zero =>
      intro l3 hp
      obtain ⟨k1, v1, v2, v3, f1⟩ := I 0 _ rfl
      have e : lat (upto T.length 0 (fun j => (dpT (trA T j) : Int)) 1) (0 : Int) = (dpT (trA T 0) : Int) := up_at (j := 0) (F := fun j => (dpT (trA T j) : Int)) (by omega) (At_lt hu)
      rw [trA_eq hu] at e
      rw [s71_24]
      simp (disch := omega) only [s71_0, s71_1, s71_2, s71_5, s71_6, s71_9, s71_10, s71_13, s71_14, s71_17, s71_18, s71_21, s71_22, s71_23, s71_25, s71_28, s71_29, s71_30, s71_33, s71_34, s71_35, s71_36, s71_39, s71_40, s71_43, s71_44, s71_45, s71_46, s71_49, s71_50, s71_51, s71_52, s71_55, s71_56, s71_59, s71_60, s71_61, s71_62, s71_63, s71_66, s71_69, s71_72, s71_73, s71_76, s71_79, s71_80, s71_83, s71_86, s71_87, s71_90, s71_91, s71_92, s71_93, s71_96, s71_97, s71_98, s71_99, s71_102, s71_103, s71_106, s71_109, s71_112, s71_113, s71_116, s71_117, s71_120, List.cons_append, List.nil_append, if_true, if_false, true_and, and_true, and_self, eq_self, true_or, or_true, false_or, or_false, tIn, tLe, fLe, tLt, fLt, tEq, fEq, isL, oS60, z60b, p60b, row63.1, c30 row63 k1, v3]
      rw [e]
      exact hq _ k1 f1
    | succ p ih =>
      intro l3 hp
      have hpl : p < T.length := by omega
      have eg : rs (rs (rs σ (60 + 1) (endsT T)) 63 (upto T.length (p + 1) (fun j => (dpT (trA T j) : Int)) 1)) 63 (upto T.length p (fun j => (dpT (trA T j) : Int)) 1) = rs (rs σ (60 + 1) (endsT T)) 63 (upto T.length p (fun j => (dpT (trA T j) : Int)) 1) := rs_grow (by rw [up_len, up_len]; omega)
      obtain ⟨σ1, hσ1⟩ : ∃ z, z = rs (rs σ (60 + 1) (endsT T)) 63 (upto T.length (p + 1) (fun j => (dpT (trA T j) : Int)) 1) := ⟨_, rfl⟩
      obtain ⟨k1, v1, v2, v3, f1⟩ := I (p + 1) σ1 hσ1
      obtain ⟨v, A⟩ := At_ex hT hpl
      have q1 : ((p + 1 : Nat) : Int) - 1 = (p : Int) := by omega
      have ep : (p : Int) + 1 = ((p + 1 : Nat) : Int) := by omega
      have el := lat_i2 hpl
      have ust : lset (upto T.length (p + 1) (fun j => (dpT (trA T j) : Int)) 1) (p : Int) (dpT (trA T p) : Int) = upto T.length p (fun j => (dpT (trA T j) : Int)) 1 := up_set (F := fun j => (dpT (trA T j) : Int)) hpl
      have usk := up_skip (n := T.length) (p := p) (F := fun j => (dpT (trA T j) : Int)) (d := 1)
      rw [trA_eq A] at ust usk
      have vs : ∀ (j : Nat) (w : Tm), p < j → AtT T j w → lat (upto T.length (p + 1) (fun j => (dpT (trA T j) : Int)) 1) (j : Int) = (dpT w : Int) := fun j w h1 h2 => by rw [up_at (F := fun j => (dpT (trA T j) : Int)) (by omega) (At_lt h2), trA_eq h2]
      have dl := dpT_le v A.1
      have al := At_le A
      obtain ⟨hw, -⟩ := id A
      rw [← hσ1] at eg ⊢
      rw [s71_24]
      cases v with
      | num d =>
        obtain ⟨g1, g2⟩ := At_num A
        obtain ⟨_, g3⟩ := List.getElem?_eq_some_iff.mp g1
        have g0 := arT_0' g2
        have s1 := usk rfl
        have ih' := ih
        rw [← s1, ← hσ1] at ih'
        simp (disch := omega) only [s71_0, s71_1, s71_2, s71_5, s71_6, s71_9, s71_10, s71_13, s71_14, s71_17, s71_18, s71_21, s71_22, s71_23, s71_25, s71_28, s71_29, s71_30, s71_33, s71_34, s71_35, s71_36, s71_39, s71_40, s71_43, s71_44, s71_45, s71_46, s71_49, s71_50, s71_51, s71_52, s71_55, s71_56, s71_59, s71_60, s71_61, s71_62, s71_63, s71_66, s71_69, s71_72, s71_73, s71_76, s71_79, s71_80, s71_83, s71_86, s71_87, s71_90, s71_91, s71_92, s71_93, s71_96, s71_97, s71_98, s71_99, s71_102, s71_103, s71_106, s71_109, s71_112, s71_113, s71_116, s71_117, s71_120, List.cons_append, List.nil_append, if_true, if_false, true_and, and_true, and_self, eq_self, true_or, or_true, false_or, or_false, tIn, tLe, fLe, tLt, fLt, tEq, fEq, isL, q1, ht.1, c30 ht k1, v1, el, g3, c117]
        exact ih' _ (by omega)
      | add u w =>
        obtain ⟨g1, A1, A2, e1⟩ := At_add A
        obtain ⟨_, g3⟩ := List.getElem?_eq_some_iff.mp g1
        have w1 := vs (p + 1) u (by omega) A1
        have w2 := vs (te T (p + 1)) w (by omega) A2
        have q3 := endsT_at (T := T) (At_lt A1)
        have tl := At_lt A2
        simp only [dpT] at ust dl
        rw [show ((1 + max (dpT u) (dpT w) : Nat) : Int) = 1 + max (dpT u : Int) (dpT w : Int) by omega] at ust
        simp (disch := omega) only [s71_0, s71_1, s71_2, s71_5, s71_6, s71_9, s71_10, s71_13, s71_14, s71_17, s71_18, s71_21, s71_22, s71_23, s71_25, s71_28, s71_29, s71_30, s71_33, s71_34, s71_35, s71_36, s71_39, s71_40, s71_43, s71_44, s71_45, s71_46, s71_49, s71_50, s71_51, s71_52, s71_55, s71_56, s71_59, s71_60, s71_61, s71_62, s71_63, s71_66, s71_69, s71_72, s71_73, s71_76, s71_79, s71_80, s71_83, s71_86, s71_87, s71_90, s71_91, s71_92, s71_93, s71_96, s71_97, s71_98, s71_99, s71_102, s71_103, s71_106, s71_109, s71_112, s71_113, s71_116, s71_117, s71_120, List.cons_append, List.nil_append, if_true, if_false, true_and, and_true, and_self, eq_self, true_or, or_true, false_or, or_false, tIn, tLe, fLe, tLt, fLt, tEq, fEq, isL, q1, ht.1, c30 ht k1, v1, el, g3, oS60, z60b, p60b, row63.1, c30 row63 k1, ep, v3, w1, c68 sp60 k1, v2, q3, w2, c33 row63 k1, ust, eg]
        exact ih _ (by omega)
      | mulL d u =>
        obtain ⟨g1, g2, A1⟩ := At_mul A
        obtain ⟨_, g3⟩ := List.getElem?_eq_some_iff.mp g1
        have g0 := arT_1' g2
        have w1 := vs (p + 1) u (by omega) A1
        simp only [dpT] at ust dl
        rw [show ((1 + dpT u : Nat) : Int) = 1 + (dpT u : Int) by omega] at ust
        simp (disch := omega) only [s71_0, s71_1, s71_2, s71_5, s71_6, s71_9, s71_10, s71_13, s71_14, s71_17, s71_18, s71_21, s71_22, s71_23, s71_25, s71_28, s71_29, s71_30, s71_33, s71_34, s71_35, s71_36, s71_39, s71_40, s71_43, s71_44, s71_45, s71_46, s71_49, s71_50, s71_51, s71_52, s71_55, s71_56, s71_59, s71_60, s71_61, s71_62, s71_63, s71_66, s71_69, s71_72, s71_73, s71_76, s71_79, s71_80, s71_83, s71_86, s71_87, s71_90, s71_91, s71_92, s71_93, s71_96, s71_97, s71_98, s71_99, s71_102, s71_103, s71_106, s71_109, s71_112, s71_113, s71_116, s71_117, s71_120, List.cons_append, List.nil_append, if_true, if_false, true_and, and_true, and_self, eq_self, true_or, or_true, false_or, or_false, tIn, tLe, fLe, tLt, fLt, tEq, fEq, isL, q1, ht.1, c30 ht k1, v1, el, g3, c117, oS60, z60b, p60b, row63.1, c30 row63 k1, ep, v3, w1, c33 row63 k1, ust, eg]
        exact ih _ (by omega)
      | var i => simp [wt] at hw
      | sub a b => simp [wt] at hw
      | neg a => simp [wt] at hw
      | mulR a d => simp [wt] at hw
  obtain ⟨k1, v1, -⟩ := I T.length _ rfl
  simp (disch := omega) only [s71_0, s71_1, s71_2, s71_5, s71_6, s71_9, s71_10, s71_13, s71_14, s71_17, s71_18, s71_21, s71_22, s71_23, s71_25, s71_28, s71_29, s71_30, s71_33, s71_34, s71_35, s71_36, s71_39, s71_40, s71_43, s71_44, s71_45, s71_46, s71_49, s71_50, s71_51, s71_52, s71_55, s71_56, s71_59, s71_60, s71_61, s71_62, s71_63, s71_66, s71_69, s71_72, s71_73, s71_76, s71_79, s71_80, s71_83, s71_86, s71_87, s71_90, s71_91, s71_92, s71_93, s71_96, s71_97, s71_98, s71_99, s71_102, s71_103, s71_106, s71_109, s71_112, s71_113, s71_116, s71_117, s71_120, List.cons_append, List.nil_append, if_true, if_false, true_and, and_true, and_self, eq_self, true_or, or_true, false_or, or_false, tIn, tLe, fLe, tLt, fLt, tEq, fEq, isL, ht.1, c28 ht k1, v1]
  exact lp T.length _ (Nat.le_refl _)
end DEE
