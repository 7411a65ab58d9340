/-! Sorter: the kinds of signs -/
section SGK
variable {σ σ0 σ' : aSg} {K : List AV → aSg → Prop} {x y z c : Int} {n : Nat} {fr to : Nat → Int} {o o' ρ : Nat → Nat} {i j r k l a b p q t : Nat} {v v' : Nat → Ty} {τ : Ty}
theorem Sl_agr (hG : GOK n fr to o) (h : Sl n fr to o v) (hv : ∀ i, i < n → v' i = v i) : Sl n fr to o v' := by
  obtain ⟨hK, ⟨ρ, hU⟩, hC⟩ := hG
  refine ⟨fun i hi hf => ?_, fun i hi => ?_⟩
  · obtain ⟨k1, k2⟩ := KG_at hK hi hf
    rw [hv i hi, hv _ k1, hv _ k2]
    exact h.1 i hi hf
  · rw [hv i hi, hv _ (hU i hi).1]
    exact h.2 i hi
theorem arw_e (h : KRo σ0 σ n fr to o) (hn : n < 720) (ha : a < n) (hb : b < n) (Q : List AV → aSg → Prop) (hq : ∀ (σ' : aSg) (fr' to' : Nat → Int) (o' : Nat → Nat), KRo σ0 σ' (n + 1) fr' to' o' → (∀ v, Sl (n + 1) fr' to' o' v ↔ Sl n fr to o v ∧ v n = .op (v a) (v b)) → Q [.inl (n : Int)] σ') : CA m59 [.inr (.inl 108), .inl (a : Int), .inl (b : Int)] σ Q := by
  have hx : ((a : Int) = -1) ∨ ∃ c d : Nat, (a : Int) = (c : Int) ∧ (b : Int) = (d : Int) ∧ c < n ∧ d < n := Or.inr ⟨a, b, rfl, rfl, ha, hb⟩
  refine wr59 h hn hx Q (fun σ1 i1 => hq σ1 _ _ _ i1 (fun v => ?_))
  rw [(ext_ok h.2.2.2.2.1 hx).2 v]
  simp only [Int.toNat_natCast]
  exact ⟨fun q => ⟨q.1, q.2 (by omega)⟩, fun q => ⟨q.1, fun _ => q.2⟩⟩
theorem unk_e (h : KRo σ0 σ n fr to o) (hn : n < 720) (Q : List AV → aSg → Prop) (hq : ∀ (σ' : aSg) (fr' to' : Nat → Int) (o' : Nat → Nat), KRo σ0 σ' (n + 1) fr' to' o' → (∀ v, Sl (n + 1) fr' to' o' v ↔ Sl n fr to o v) → Q [.inl (n : Int)] σ') : CA m58 [.inr (.inl 108)] σ Q := by
  refine wr58 h hn Q (fun σ1 i1 => hq σ1 _ _ _ i1 (fun v => ?_))
  rw [(ext_ok (y := -1) h.2.2.2.2.1 (Or.inl rfl)).2 v]
  exact ⟨fun q => q.1, fun q => ⟨q, fun z => absurd rfl z⟩⟩
theorem wr57 (h : KRo σ0 σ n fr to o) (hn : n + 9 ≤ 720) (hc : c = 73 ∨ c = 75 ∨ c = 83 ∨ c = 66 ∨ c = 67) (Q : List AV → aSg → Prop) (hq : ∀ (σ' : aSg) (n' : Nat) (fr' to' : Nat → Int) (o' : Nat → Nat) (κ : Nat), KRo σ0 σ' n' fr' to' o' → n ≤ n' → n' ≤ n + 9 → κ < n' → (∀ v, Sl n' fr' to' o' v → Sl n fr to o v ∧ sgK c (v κ)) → (∀ v τ, Sl n fr to o v → sgK c τ → ∃ v', Sl n' fr' to' o' v' ∧ (∀ i, i < n → v' i = v i) ∧ v' κ = τ) → Q [.inl (κ : Int)] σ') : CA m57 [.inr (.inl 108), .inl c] σ Q := by
  rw [e57]
  rcases hc with rfl | rfl | rfl | rfl | rfl
  · skip
    simp (disch := omega) only [s57_0, s57_1, s57_4, s57_5, s57_6, s57_8, s57_11, s57_12, s57_13, s57_14, s57_17, s57_18, s57_19, s57_22, s57_23, s57_24, s57_26, s57_29, s57_30, s57_31, s57_32, s57_33, s57_34, s57_37, s57_40, s57_41, s57_42, s57_45, s57_47, s57_48, s57_49, s57_51, s57_54, s57_56, s57_57, s57_59, s57_62, s57_63, s57_64, s57_65, s57_66, s57_67, s57_69, s57_72, s57_75, s57_76, s57_77, s57_78, s57_79, s57_82, s57_84, s57_87, s57_90, s57_91, s57_92, s57_94, s57_97, s57_98, s57_99, s57_100, s57_102, s57_105, s57_106, s57_107, s57_108, s57_109, s57_112, s57_114, s57_117, s57_120, s57_121, s57_122, s57_123, s57_124, s57_125, s57_126, s57_128, s57_131, s57_134, s57_135, s57_136, s57_138, s57_141, s57_144, List.cons_append, List.nil_append, if_true, if_false, true_and, and_true, and_self, eq_self, true_or, or_true, false_or, or_false, tIn, tLe, fLe, tLt, fLt, tEq, fEq, isL]
    refine unk_e h (by omega) _ (fun σ1 fr1 to1 o1 i1 E1 => ?_)
    simp (disch := omega) only [s57_0, s57_1, s57_4, s57_5, s57_6, s57_8, s57_11, s57_12, s57_13, s57_14, s57_17, s57_18, s57_19, s57_22, s57_23, s57_24, s57_26, s57_29, s57_30, s57_31, s57_32, s57_33, s57_34, s57_37, s57_40, s57_41, s57_42, s57_45, s57_47, s57_48, s57_49, s57_51, s57_54, s57_56, s57_57, s57_59, s57_62, s57_63, s57_64, s57_65, s57_66, s57_67, s57_69, s57_72, s57_75, s57_76, s57_77, s57_78, s57_79, s57_82, s57_84, s57_87, s57_90, s57_91, s57_92, s57_94, s57_97, s57_98, s57_99, s57_100, s57_102, s57_105, s57_106, s57_107, s57_108, s57_109, s57_112, s57_114, s57_117, s57_120, s57_121, s57_122, s57_123, s57_124, s57_125, s57_126, s57_128, s57_131, s57_134, s57_135, s57_136, s57_138, s57_141, s57_144, List.cons_append, List.nil_append, if_true, if_false, true_and, and_true, and_self, eq_self, true_or, or_true, false_or, or_false, tIn, tLe, fLe, tLt, fLt, tEq, fEq, isL]
    refine arw_e (a := n) (b := n) i1 (by omega) (by omega) (by omega) _ (fun σ2 fr2 to2 o2 i2 E2 => ?_)
    simp (disch := omega) only [s57_0, s57_1, s57_4, s57_5, s57_6, s57_8, s57_11, s57_12, s57_13, s57_14, s57_17, s57_18, s57_19, s57_22, s57_23, s57_24, s57_26, s57_29, s57_30, s57_31, s57_32, s57_33, s57_34, s57_37, s57_40, s57_41, s57_42, s57_45, s57_47, s57_48, s57_49, s57_51, s57_54, s57_56, s57_57, s57_59, s57_62, s57_63, s57_64, s57_65, s57_66, s57_67, s57_69, s57_72, s57_75, s57_76, s57_77, s57_78, s57_79, s57_82, s57_84, s57_87, s57_90, s57_91, s57_92, s57_94, s57_97, s57_98, s57_99, s57_100, s57_102, s57_105, s57_106, s57_107, s57_108, s57_109, s57_112, s57_114, s57_117, s57_120, s57_121, s57_122, s57_123, s57_124, s57_125, s57_126, s57_128, s57_131, s57_134, s57_135, s57_136, s57_138, s57_141, s57_144, List.cons_append, List.nil_append, if_true, if_false, true_and, and_true, and_self, eq_self, true_or, or_true, false_or, or_false, tIn, tLe, fLe, tLt, fLt, tEq, fEq, isL]
    refine hq σ2 (n + 2) fr2 to2 o2 (n + 1) i2 (by omega) (by omega) (by omega) (fun v hv => ?_) (fun v τ hv hτ => ?_)
    · obtain ⟨h1, c2⟩ := (E2 v).mp hv
      have h0 := (E1 v).mp h1
      refine ⟨h0, ?_⟩
      unfold sgK
      rw [if_pos rfl]
      exact ⟨v (n), by rw [c2]⟩
    · unfold sgK at hτ
      rw [if_pos rfl] at hτ
      obtain ⟨A, rfl⟩ := hτ
      have hV : ∃ w : Nat → Ty, (∀ i, i < n → w i = v i) ∧ w (n) = A ∧ w (n + 1) = (.op A A) := by
        refine ⟨fun i => if i = n then A else if i = n + 1 then (.op A A) else v i, fun i hi => ?_, ?_, ?_⟩
        · simp only [if_neg (show ¬ i = n by omega), if_neg (show ¬ i = n + 1 by omega)]
        · simp only [if_true]
        · simp only [if_neg (show ¬ n + 1 = n by omega), if_true]
      obtain ⟨w, w0, z0, z1⟩ := hV
      refine ⟨w, ?_, w0, z1⟩
      have s0 := Sl_agr h.2.2.2.2.1 hv w0
      have s1 := (E1 w).mpr s0
      have s2 := (E2 w).mpr ⟨s1, by rw [z1, z0]⟩
      exact s2
  · skip
    simp (disch := omega) only [s57_0, s57_1, s57_4, s57_5, s57_6, s57_8, s57_11, s57_12, s57_13, s57_14, s57_17, s57_18, s57_19, s57_22, s57_23, s57_24, s57_26, s57_29, s57_30, s57_31, s57_32, s57_33, s57_34, s57_37, s57_40, s57_41, s57_42, s57_45, s57_47, s57_48, s57_49, s57_51, s57_54, s57_56, s57_57, s57_59, s57_62, s57_63, s57_64, s57_65, s57_66, s57_67, s57_69, s57_72, s57_75, s57_76, s57_77, s57_78, s57_79, s57_82, s57_84, s57_87, s57_90, s57_91, s57_92, s57_94, s57_97, s57_98, s57_99, s57_100, s57_102, s57_105, s57_106, s57_107, s57_108, s57_109, s57_112, s57_114, s57_117, s57_120, s57_121, s57_122, s57_123, s57_124, s57_125, s57_126, s57_128, s57_131, s57_134, s57_135, s57_136, s57_138, s57_141, s57_144, List.cons_append, List.nil_append, if_true, if_false, true_and, and_true, and_self, eq_self, true_or, or_true, false_or, or_false, tIn, tLe, fLe, tLt, fLt, tEq, fEq, isL]
    refine unk_e h (by omega) _ (fun σ1 fr1 to1 o1 i1 E1 => ?_)
    simp (disch := omega) only [s57_0, s57_1, s57_4, s57_5, s57_6, s57_8, s57_11, s57_12, s57_13, s57_14, s57_17, s57_18, s57_19, s57_22, s57_23, s57_24, s57_26, s57_29, s57_30, s57_31, s57_32, s57_33, s57_34, s57_37, s57_40, s57_41, s57_42, s57_45, s57_47, s57_48, s57_49, s57_51, s57_54, s57_56, s57_57, s57_59, s57_62, s57_63, s57_64, s57_65, s57_66, s57_67, s57_69, s57_72, s57_75, s57_76, s57_77, s57_78, s57_79, s57_82, s57_84, s57_87, s57_90, s57_91, s57_92, s57_94, s57_97, s57_98, s57_99, s57_100, s57_102, s57_105, s57_106, s57_107, s57_108, s57_109, s57_112, s57_114, s57_117, s57_120, s57_121, s57_122, s57_123, s57_124, s57_125, s57_126, s57_128, s57_131, s57_134, s57_135, s57_136, s57_138, s57_141, s57_144, List.cons_append, List.nil_append, if_true, if_false, true_and, and_true, and_self, eq_self, true_or, or_true, false_or, or_false, tIn, tLe, fLe, tLt, fLt, tEq, fEq, isL]
    refine unk_e i1 (by omega) _ (fun σ2 fr2 to2 o2 i2 E2 => ?_)
    simp (disch := omega) only [s57_0, s57_1, s57_4, s57_5, s57_6, s57_8, s57_11, s57_12, s57_13, s57_14, s57_17, s57_18, s57_19, s57_22, s57_23, s57_24, s57_26, s57_29, s57_30, s57_31, s57_32, s57_33, s57_34, s57_37, s57_40, s57_41, s57_42, s57_45, s57_47, s57_48, s57_49, s57_51, s57_54, s57_56, s57_57, s57_59, s57_62, s57_63, s57_64, s57_65, s57_66, s57_67, s57_69, s57_72, s57_75, s57_76, s57_77, s57_78, s57_79, s57_82, s57_84, s57_87, s57_90, s57_91, s57_92, s57_94, s57_97, s57_98, s57_99, s57_100, s57_102, s57_105, s57_106, s57_107, s57_108, s57_109, s57_112, s57_114, s57_117, s57_120, s57_121, s57_122, s57_123, s57_124, s57_125, s57_126, s57_128, s57_131, s57_134, s57_135, s57_136, s57_138, s57_141, s57_144, List.cons_append, List.nil_append, if_true, if_false, true_and, and_true, and_self, eq_self, true_or, or_true, false_or, or_false, tIn, tLe, fLe, tLt, fLt, tEq, fEq, isL]
    refine arw_e (a := n + 1) (b := n) i2 (by omega) (by omega) (by omega) _ (fun σ3 fr3 to3 o3 i3 E3 => ?_)
    simp (disch := omega) only [s57_0, s57_1, s57_4, s57_5, s57_6, s57_8, s57_11, s57_12, s57_13, s57_14, s57_17, s57_18, s57_19, s57_22, s57_23, s57_24, s57_26, s57_29, s57_30, s57_31, s57_32, s57_33, s57_34, s57_37, s57_40, s57_41, s57_42, s57_45, s57_47, s57_48, s57_49, s57_51, s57_54, s57_56, s57_57, s57_59, s57_62, s57_63, s57_64, s57_65, s57_66, s57_67, s57_69, s57_72, s57_75, s57_76, s57_77, s57_78, s57_79, s57_82, s57_84, s57_87, s57_90, s57_91, s57_92, s57_94, s57_97, s57_98, s57_99, s57_100, s57_102, s57_105, s57_106, s57_107, s57_108, s57_109, s57_112, s57_114, s57_117, s57_120, s57_121, s57_122, s57_123, s57_124, s57_125, s57_126, s57_128, s57_131, s57_134, s57_135, s57_136, s57_138, s57_141, s57_144, List.cons_append, List.nil_append, if_true, if_false, true_and, and_true, and_self, eq_self, true_or, or_true, false_or, or_false, tIn, tLe, fLe, tLt, fLt, tEq, fEq, isL]
    refine arw_e (a := n) (b := n + 2) i3 (by omega) (by omega) (by omega) _ (fun σ4 fr4 to4 o4 i4 E4 => ?_)
    simp (disch := omega) only [s57_0, s57_1, s57_4, s57_5, s57_6, s57_8, s57_11, s57_12, s57_13, s57_14, s57_17, s57_18, s57_19, s57_22, s57_23, s57_24, s57_26, s57_29, s57_30, s57_31, s57_32, s57_33, s57_34, s57_37, s57_40, s57_41, s57_42, s57_45, s57_47, s57_48, s57_49, s57_51, s57_54, s57_56, s57_57, s57_59, s57_62, s57_63, s57_64, s57_65, s57_66, s57_67, s57_69, s57_72, s57_75, s57_76, s57_77, s57_78, s57_79, s57_82, s57_84, s57_87, s57_90, s57_91, s57_92, s57_94, s57_97, s57_98, s57_99, s57_100, s57_102, s57_105, s57_106, s57_107, s57_108, s57_109, s57_112, s57_114, s57_117, s57_120, s57_121, s57_122, s57_123, s57_124, s57_125, s57_126, s57_128, s57_131, s57_134, s57_135, s57_136, s57_138, s57_141, s57_144, List.cons_append, List.nil_append, if_true, if_false, true_and, and_true, and_self, eq_self, true_or, or_true, false_or, or_false, tIn, tLe, fLe, tLt, fLt, tEq, fEq, isL]
    refine hq σ4 (n + 4) fr4 to4 o4 (n + 3) i4 (by omega) (by omega) (by omega) (fun v hv => ?_) (fun v τ hv hτ => ?_)
    · obtain ⟨h3, c4⟩ := (E4 v).mp hv
      obtain ⟨h2, c3⟩ := (E3 v).mp h3
      have h1 := (E2 v).mp h2
      have h0 := (E1 v).mp h1
      refine ⟨h0, ?_⟩
      unfold sgK
      rw [if_neg (by omega), if_pos rfl]
      exact ⟨v (n), v (n + 1), by rw [c4, c3]⟩
    · unfold sgK at hτ
      rw [if_neg (by omega), if_pos rfl] at hτ
      obtain ⟨A, B, rfl⟩ := hτ
      have hV : ∃ w : Nat → Ty, (∀ i, i < n → w i = v i) ∧ w (n) = A ∧ w (n + 1) = B ∧ w (n + 2) = (.op B A) ∧ w (n + 3) = (.op A (.op B A)) := by
        refine ⟨fun i => if i = n then A else if i = n + 1 then B else if i = n + 2 then (.op B A) else if i = n + 3 then (.op A (.op B A)) else v i, fun i hi => ?_, ?_, ?_, ?_, ?_⟩
        · simp only [if_neg (show ¬ i = n by omega), if_neg (show ¬ i = n + 1 by omega), if_neg (show ¬ i = n + 2 by omega), if_neg (show ¬ i = n + 3 by omega)]
        · simp only [if_true]
        · simp only [if_neg (show ¬ n + 1 = n by omega), if_true]
        · simp only [if_neg (show ¬ n + 2 = n by omega), if_neg (show ¬ n + 2 = n + 1 by omega), if_true]
        · simp only [if_neg (show ¬ n + 3 = n by omega), if_neg (show ¬ n + 3 = n + 1 by omega), if_neg (show ¬ n + 3 = n + 2 by omega), if_true]
      obtain ⟨w, w0, z0, z1, z2, z3⟩ := hV
      refine ⟨w, ?_, w0, z3⟩
      have s0 := Sl_agr h.2.2.2.2.1 hv w0
      have s1 := (E1 w).mpr s0
      have s2 := (E2 w).mpr s1
      have s3 := (E3 w).mpr ⟨s2, by rw [z2, z1, z0]⟩
      have s4 := (E4 w).mpr ⟨s3, by rw [z3, z0, z2]⟩
      exact s4
  · skip
    simp (disch := omega) only [s57_0, s57_1, s57_4, s57_5, s57_6, s57_8, s57_11, s57_12, s57_13, s57_14, s57_17, s57_18, s57_19, s57_22, s57_23, s57_24, s57_26, s57_29, s57_30, s57_31, s57_32, s57_33, s57_34, s57_37, s57_40, s57_41, s57_42, s57_45, s57_47, s57_48, s57_49, s57_51, s57_54, s57_56, s57_57, s57_59, s57_62, s57_63, s57_64, s57_65, s57_66, s57_67, s57_69, s57_72, s57_75, s57_76, s57_77, s57_78, s57_79, s57_82, s57_84, s57_87, s57_90, s57_91, s57_92, s57_94, s57_97, s57_98, s57_99, s57_100, s57_102, s57_105, s57_106, s57_107, s57_108, s57_109, s57_112, s57_114, s57_117, s57_120, s57_121, s57_122, s57_123, s57_124, s57_125, s57_126, s57_128, s57_131, s57_134, s57_135, s57_136, s57_138, s57_141, s57_144, List.cons_append, List.nil_append, if_true, if_false, true_and, and_true, and_self, eq_self, true_or, or_true, false_or, or_false, tIn, tLe, fLe, tLt, fLt, tEq, fEq, isL]
    refine unk_e h (by omega) _ (fun σ1 fr1 to1 o1 i1 E1 => ?_)
    simp (disch := omega) only [s57_0, s57_1, s57_4, s57_5, s57_6, s57_8, s57_11, s57_12, s57_13, s57_14, s57_17, s57_18, s57_19, s57_22, s57_23, s57_24, s57_26, s57_29, s57_30, s57_31, s57_32, s57_33, s57_34, s57_37, s57_40, s57_41, s57_42, s57_45, s57_47, s57_48, s57_49, s57_51, s57_54, s57_56, s57_57, s57_59, s57_62, s57_63, s57_64, s57_65, s57_66, s57_67, s57_69, s57_72, s57_75, s57_76, s57_77, s57_78, s57_79, s57_82, s57_84, s57_87, s57_90, s57_91, s57_92, s57_94, s57_97, s57_98, s57_99, s57_100, s57_102, s57_105, s57_106, s57_107, s57_108, s57_109, s57_112, s57_114, s57_117, s57_120, s57_121, s57_122, s57_123, s57_124, s57_125, s57_126, s57_128, s57_131, s57_134, s57_135, s57_136, s57_138, s57_141, s57_144, List.cons_append, List.nil_append, if_true, if_false, true_and, and_true, and_self, eq_self, true_or, or_true, false_or, or_false, tIn, tLe, fLe, tLt, fLt, tEq, fEq, isL]
    refine unk_e i1 (by omega) _ (fun σ2 fr2 to2 o2 i2 E2 => ?_)
    simp (disch := omega) only [s57_0, s57_1, s57_4, s57_5, s57_6, s57_8, s57_11, s57_12, s57_13, s57_14, s57_17, s57_18, s57_19, s57_22, s57_23, s57_24, s57_26, s57_29, s57_30, s57_31, s57_32, s57_33, s57_34, s57_37, s57_40, s57_41, s57_42, s57_45, s57_47, s57_48, s57_49, s57_51, s57_54, s57_56, s57_57, s57_59, s57_62, s57_63, s57_64, s57_65, s57_66, s57_67, s57_69, s57_72, s57_75, s57_76, s57_77, s57_78, s57_79, s57_82, s57_84, s57_87, s57_90, s57_91, s57_92, s57_94, s57_97, s57_98, s57_99, s57_100, s57_102, s57_105, s57_106, s57_107, s57_108, s57_109, s57_112, s57_114, s57_117, s57_120, s57_121, s57_122, s57_123, s57_124, s57_125, s57_126, s57_128, s57_131, s57_134, s57_135, s57_136, s57_138, s57_141, s57_144, List.cons_append, List.nil_append, if_true, if_false, true_and, and_true, and_self, eq_self, true_or, or_true, false_or, or_false, tIn, tLe, fLe, tLt, fLt, tEq, fEq, isL]
    refine unk_e i2 (by omega) _ (fun σ3 fr3 to3 o3 i3 E3 => ?_)
    simp (disch := omega) only [s57_0, s57_1, s57_4, s57_5, s57_6, s57_8, s57_11, s57_12, s57_13, s57_14, s57_17, s57_18, s57_19, s57_22, s57_23, s57_24, s57_26, s57_29, s57_30, s57_31, s57_32, s57_33, s57_34, s57_37, s57_40, s57_41, s57_42, s57_45, s57_47, s57_48, s57_49, s57_51, s57_54, s57_56, s57_57, s57_59, s57_62, s57_63, s57_64, s57_65, s57_66, s57_67, s57_69, s57_72, s57_75, s57_76, s57_77, s57_78, s57_79, s57_82, s57_84, s57_87, s57_90, s57_91, s57_92, s57_94, s57_97, s57_98, s57_99, s57_100, s57_102, s57_105, s57_106, s57_107, s57_108, s57_109, s57_112, s57_114, s57_117, s57_120, s57_121, s57_122, s57_123, s57_124, s57_125, s57_126, s57_128, s57_131, s57_134, s57_135, s57_136, s57_138, s57_141, s57_144, List.cons_append, List.nil_append, if_true, if_false, true_and, and_true, and_self, eq_self, true_or, or_true, false_or, or_false, tIn, tLe, fLe, tLt, fLt, tEq, fEq, isL]
    refine arw_e (a := n) (b := n + 2) i3 (by omega) (by omega) (by omega) _ (fun σ4 fr4 to4 o4 i4 E4 => ?_)
    simp (disch := omega) only [s57_0, s57_1, s57_4, s57_5, s57_6, s57_8, s57_11, s57_12, s57_13, s57_14, s57_17, s57_18, s57_19, s57_22, s57_23, s57_24, s57_26, s57_29, s57_30, s57_31, s57_32, s57_33, s57_34, s57_37, s57_40, s57_41, s57_42, s57_45, s57_47, s57_48, s57_49, s57_51, s57_54, s57_56, s57_57, s57_59, s57_62, s57_63, s57_64, s57_65, s57_66, s57_67, s57_69, s57_72, s57_75, s57_76, s57_77, s57_78, s57_79, s57_82, s57_84, s57_87, s57_90, s57_91, s57_92, s57_94, s57_97, s57_98, s57_99, s57_100, s57_102, s57_105, s57_106, s57_107, s57_108, s57_109, s57_112, s57_114, s57_117, s57_120, s57_121, s57_122, s57_123, s57_124, s57_125, s57_126, s57_128, s57_131, s57_134, s57_135, s57_136, s57_138, s57_141, s57_144, List.cons_append, List.nil_append, if_true, if_false, true_and, and_true, and_self, eq_self, true_or, or_true, false_or, or_false, tIn, tLe, fLe, tLt, fLt, tEq, fEq, isL]
    refine arw_e (a := n + 1) (b := n + 2) i4 (by omega) (by omega) (by omega) _ (fun σ5 fr5 to5 o5 i5 E5 => ?_)
    simp (disch := omega) only [s57_0, s57_1, s57_4, s57_5, s57_6, s57_8, s57_11, s57_12, s57_13, s57_14, s57_17, s57_18, s57_19, s57_22, s57_23, s57_24, s57_26, s57_29, s57_30, s57_31, s57_32, s57_33, s57_34, s57_37, s57_40, s57_41, s57_42, s57_45, s57_47, s57_48, s57_49, s57_51, s57_54, s57_56, s57_57, s57_59, s57_62, s57_63, s57_64, s57_65, s57_66, s57_67, s57_69, s57_72, s57_75, s57_76, s57_77, s57_78, s57_79, s57_82, s57_84, s57_87, s57_90, s57_91, s57_92, s57_94, s57_97, s57_98, s57_99, s57_100, s57_102, s57_105, s57_106, s57_107, s57_108, s57_109, s57_112, s57_114, s57_117, s57_120, s57_121, s57_122, s57_123, s57_124, s57_125, s57_126, s57_128, s57_131, s57_134, s57_135, s57_136, s57_138, s57_141, s57_144, List.cons_append, List.nil_append, if_true, if_false, true_and, and_true, and_self, eq_self, true_or, or_true, false_or, or_false, tIn, tLe, fLe, tLt, fLt, tEq, fEq, isL]
    refine arw_e (a := n) (b := n + 4) i5 (by omega) (by omega) (by omega) _ (fun σ6 fr6 to6 o6 i6 E6 => ?_)
    simp (disch := omega) only [s57_0, s57_1, s57_4, s57_5, s57_6, s57_8, s57_11, s57_12, s57_13, s57_14, s57_17, s57_18, s57_19, s57_22, s57_23, s57_24, s57_26, s57_29, s57_30, s57_31, s57_32, s57_33, s57_34, s57_37, s57_40, s57_41, s57_42, s57_45, s57_47, s57_48, s57_49, s57_51, s57_54, s57_56, s57_57, s57_59, s57_62, s57_63, s57_64, s57_65, s57_66, s57_67, s57_69, s57_72, s57_75, s57_76, s57_77, s57_78, s57_79, s57_82, s57_84, s57_87, s57_90, s57_91, s57_92, s57_94, s57_97, s57_98, s57_99, s57_100, s57_102, s57_105, s57_106, s57_107, s57_108, s57_109, s57_112, s57_114, s57_117, s57_120, s57_121, s57_122, s57_123, s57_124, s57_125, s57_126, s57_128, s57_131, s57_134, s57_135, s57_136, s57_138, s57_141, s57_144, List.cons_append, List.nil_append, if_true, if_false, true_and, and_true, and_self, eq_self, true_or, or_true, false_or, or_false, tIn, tLe, fLe, tLt, fLt, tEq, fEq, isL]
    refine arw_e (a := n) (b := n + 1) i6 (by omega) (by omega) (by omega) _ (fun σ7 fr7 to7 o7 i7 E7 => ?_)
    simp (disch := omega) only [s57_0, s57_1, s57_4, s57_5, s57_6, s57_8, s57_11, s57_12, s57_13, s57_14, s57_17, s57_18, s57_19, s57_22, s57_23, s57_24, s57_26, s57_29, s57_30, s57_31, s57_32, s57_33, s57_34, s57_37, s57_40, s57_41, s57_42, s57_45, s57_47, s57_48, s57_49, s57_51, s57_54, s57_56, s57_57, s57_59, s57_62, s57_63, s57_64, s57_65, s57_66, s57_67, s57_69, s57_72, s57_75, s57_76, s57_77, s57_78, s57_79, s57_82, s57_84, s57_87, s57_90, s57_91, s57_92, s57_94, s57_97, s57_98, s57_99, s57_100, s57_102, s57_105, s57_106, s57_107, s57_108, s57_109, s57_112, s57_114, s57_117, s57_120, s57_121, s57_122, s57_123, s57_124, s57_125, s57_126, s57_128, s57_131, s57_134, s57_135, s57_136, s57_138, s57_141, s57_144, List.cons_append, List.nil_append, if_true, if_false, true_and, and_true, and_self, eq_self, true_or, or_true, false_or, or_false, tIn, tLe, fLe, tLt, fLt, tEq, fEq, isL]
    refine arw_e (a := n + 6) (b := n + 3) i7 (by omega) (by omega) (by omega) _ (fun σ8 fr8 to8 o8 i8 E8 => ?_)
    simp (disch := omega) only [s57_0, s57_1, s57_4, s57_5, s57_6, s57_8, s57_11, s57_12, s57_13, s57_14, s57_17, s57_18, s57_19, s57_22, s57_23, s57_24, s57_26, s57_29, s57_30, s57_31, s57_32, s57_33, s57_34, s57_37, s57_40, s57_41, s57_42, s57_45, s57_47, s57_48, s57_49, s57_51, s57_54, s57_56, s57_57, s57_59, s57_62, s57_63, s57_64, s57_65, s57_66, s57_67, s57_69, s57_72, s57_75, s57_76, s57_77, s57_78, s57_79, s57_82, s57_84, s57_87, s57_90, s57_91, s57_92, s57_94, s57_97, s57_98, s57_99, s57_100, s57_102, s57_105, s57_106, s57_107, s57_108, s57_109, s57_112, s57_114, s57_117, s57_120, s57_121, s57_122, s57_123, s57_124, s57_125, s57_126, s57_128, s57_131, s57_134, s57_135, s57_136, s57_138, s57_141, s57_144, List.cons_append, List.nil_append, if_true, if_false, true_and, and_true, and_self, eq_self, true_or, or_true, false_or, or_false, tIn, tLe, fLe, tLt, fLt, tEq, fEq, isL]
    refine arw_e (a := n + 5) (b := n + 7) i8 (by omega) (by omega) (by omega) _ (fun σ9 fr9 to9 o9 i9 E9 => ?_)
    simp (disch := omega) only [s57_0, s57_1, s57_4, s57_5, s57_6, s57_8, s57_11, s57_12, s57_13, s57_14, s57_17, s57_18, s57_19, s57_22, s57_23, s57_24, s57_26, s57_29, s57_30, s57_31, s57_32, s57_33, s57_34, s57_37, s57_40, s57_41, s57_42, s57_45, s57_47, s57_48, s57_49, s57_51, s57_54, s57_56, s57_57, s57_59, s57_62, s57_63, s57_64, s57_65, s57_66, s57_67, s57_69, s57_72, s57_75, s57_76, s57_77, s57_78, s57_79, s57_82, s57_84, s57_87, s57_90, s57_91, s57_92, s57_94, s57_97, s57_98, s57_99, s57_100, s57_102, s57_105, s57_106, s57_107, s57_108, s57_109, s57_112, s57_114, s57_117, s57_120, s57_121, s57_122, s57_123, s57_124, s57_125, s57_126, s57_128, s57_131, s57_134, s57_135, s57_136, s57_138, s57_141, s57_144, List.cons_append, List.nil_append, if_true, if_false, true_and, and_true, and_self, eq_self, true_or, or_true, false_or, or_false, tIn, tLe, fLe, tLt, fLt, tEq, fEq, isL]
    refine hq σ9 (n + 9) fr9 to9 o9 (n + 8) i9 (by omega) (by omega) (by omega) (fun v hv => ?_) (fun v τ hv hτ => ?_)
    · obtain ⟨h8, c9⟩ := (E9 v).mp hv
      obtain ⟨h7, c8⟩ := (E8 v).mp h8
      obtain ⟨h6, c7⟩ := (E7 v).mp h7
      obtain ⟨h5, c6⟩ := (E6 v).mp h6
      obtain ⟨h4, c5⟩ := (E5 v).mp h5
      obtain ⟨h3, c4⟩ := (E4 v).mp h4
      have h2 := (E3 v).mp h3
      have h1 := (E2 v).mp h2
      have h0 := (E1 v).mp h1
      refine ⟨h0, ?_⟩
      unfold sgK
      rw [if_neg (by omega), if_neg (by omega), if_pos rfl]
      exact ⟨v (n), v (n + 1), v (n + 2), by rw [c9, c8, c7, c6, c5, c4]⟩
    · unfold sgK at hτ
      rw [if_neg (by omega), if_neg (by omega), if_pos rfl] at hτ
      obtain ⟨A, B, D, rfl⟩ := hτ
      have hV : ∃ w : Nat → Ty, (∀ i, i < n → w i = v i) ∧ w (n) = A ∧ w (n + 1) = B ∧ w (n + 2) = D ∧ w (n + 3) = (.op A D) ∧ w (n + 4) = (.op B D) ∧ w (n + 5) = (.op A (.op B D)) ∧ w (n + 6) = (.op A B) ∧ w (n + 7) = (.op (.op A B) (.op A D)) ∧ w (n + 8) = (.op (.op A (.op B D)) (.op (.op A B) (.op A D))) := by
        refine ⟨fun i => if i = n then A else if i = n + 1 then B else if i = n + 2 then D else if i = n + 3 then (.op A D) else if i = n + 4 then (.op B D) else if i = n + 5 then (.op A (.op B D)) else if i = n + 6 then (.op A B) else if i = n + 7 then (.op (.op A B) (.op A D)) else if i = n + 8 then (.op (.op A (.op B D)) (.op (.op A B) (.op A D))) else v i, fun i hi => ?_, ?_, ?_, ?_, ?_, ?_, ?_, ?_, ?_, ?_⟩
        · simp only [if_neg (show ¬ i = n by omega), if_neg (show ¬ i = n + 1 by omega), if_neg (show ¬ i = n + 2 by omega), if_neg (show ¬ i = n + 3 by omega), if_neg (show ¬ i = n + 4 by omega), if_neg (show ¬ i = n + 5 by omega), if_neg (show ¬ i = n + 6 by omega), if_neg (show ¬ i = n + 7 by omega), if_neg (show ¬ i = n + 8 by omega)]
        · simp only [if_true]
        · simp only [if_neg (show ¬ n + 1 = n by omega), if_true]
        · simp only [if_neg (show ¬ n + 2 = n by omega), if_neg (show ¬ n + 2 = n + 1 by omega), if_true]
        · simp only [if_neg (show ¬ n + 3 = n by omega), if_neg (show ¬ n + 3 = n + 1 by omega), if_neg (show ¬ n + 3 = n + 2 by omega), if_true]
        · simp only [if_neg (show ¬ n + 4 = n by omega), if_neg (show ¬ n + 4 = n + 1 by omega), if_neg (show ¬ n + 4 = n + 2 by omega), if_neg (show ¬ n + 4 = n + 3 by omega), if_true]
        · simp only [if_neg (show ¬ n + 5 = n by omega), if_neg (show ¬ n + 5 = n + 1 by omega), if_neg (show ¬ n + 5 = n + 2 by omega), if_neg (show ¬ n + 5 = n + 3 by omega), if_neg (show ¬ n + 5 = n + 4 by omega), if_true]
        · simp only [if_neg (show ¬ n + 6 = n by omega), if_neg (show ¬ n + 6 = n + 1 by omega), if_neg (show ¬ n + 6 = n + 2 by omega), if_neg (show ¬ n + 6 = n + 3 by omega), if_neg (show ¬ n + 6 = n + 4 by omega), if_neg (show ¬ n + 6 = n + 5 by omega), if_true]
        · simp only [if_neg (show ¬ n + 7 = n by omega), if_neg (show ¬ n + 7 = n + 1 by omega), if_neg (show ¬ n + 7 = n + 2 by omega), if_neg (show ¬ n + 7 = n + 3 by omega), if_neg (show ¬ n + 7 = n + 4 by omega), if_neg (show ¬ n + 7 = n + 5 by omega), if_neg (show ¬ n + 7 = n + 6 by omega), if_true]
        · simp only [if_neg (show ¬ n + 8 = n by omega), if_neg (show ¬ n + 8 = n + 1 by omega), if_neg (show ¬ n + 8 = n + 2 by omega), if_neg (show ¬ n + 8 = n + 3 by omega), if_neg (show ¬ n + 8 = n + 4 by omega), if_neg (show ¬ n + 8 = n + 5 by omega), if_neg (show ¬ n + 8 = n + 6 by omega), if_neg (show ¬ n + 8 = n + 7 by omega), if_true]
      obtain ⟨w, w0, z0, z1, z2, z3, z4, z5, z6, z7, z8⟩ := hV
      refine ⟨w, ?_, w0, z8⟩
      have s0 := Sl_agr h.2.2.2.2.1 hv w0
      have s1 := (E1 w).mpr s0
      have s2 := (E2 w).mpr s1
      have s3 := (E3 w).mpr s2
      have s4 := (E4 w).mpr ⟨s3, by rw [z3, z0, z2]⟩
      have s5 := (E5 w).mpr ⟨s4, by rw [z4, z1, z2]⟩
      have s6 := (E6 w).mpr ⟨s5, by rw [z5, z0, z4]⟩
      have s7 := (E7 w).mpr ⟨s6, by rw [z6, z0, z1]⟩
      have s8 := (E8 w).mpr ⟨s7, by rw [z7, z6, z3]⟩
      have s9 := (E9 w).mpr ⟨s8, by rw [z8, z5, z7]⟩
      exact s9
  · skip
    simp (disch := omega) only [s57_0, s57_1, s57_4, s57_5, s57_6, s57_8, s57_11, s57_12, s57_13, s57_14, s57_17, s57_18, s57_19, s57_22, s57_23, s57_24, s57_26, s57_29, s57_30, s57_31, s57_32, s57_33, s57_34, s57_37, s57_40, s57_41, s57_42, s57_45, s57_47, s57_48, s57_49, s57_51, s57_54, s57_56, s57_57, s57_59, s57_62, s57_63, s57_64, s57_65, s57_66, s57_67, s57_69, s57_72, s57_75, s57_76, s57_77, s57_78, s57_79, s57_82, s57_84, s57_87, s57_90, s57_91, s57_92, s57_94, s57_97, s57_98, s57_99, s57_100, s57_102, s57_105, s57_106, s57_107, s57_108, s57_109, s57_112, s57_114, s57_117, s57_120, s57_121, s57_122, s57_123, s57_124, s57_125, s57_126, s57_128, s57_131, s57_134, s57_135, s57_136, s57_138, s57_141, s57_144, List.cons_append, List.nil_append, if_true, if_false, true_and, and_true, and_self, eq_self, true_or, or_true, false_or, or_false, tIn, tLe, fLe, tLt, fLt, tEq, fEq, isL]
    refine unk_e h (by omega) _ (fun σ1 fr1 to1 o1 i1 E1 => ?_)
    simp (disch := omega) only [s57_0, s57_1, s57_4, s57_5, s57_6, s57_8, s57_11, s57_12, s57_13, s57_14, s57_17, s57_18, s57_19, s57_22, s57_23, s57_24, s57_26, s57_29, s57_30, s57_31, s57_32, s57_33, s57_34, s57_37, s57_40, s57_41, s57_42, s57_45, s57_47, s57_48, s57_49, s57_51, s57_54, s57_56, s57_57, s57_59, s57_62, s57_63, s57_64, s57_65, s57_66, s57_67, s57_69, s57_72, s57_75, s57_76, s57_77, s57_78, s57_79, s57_82, s57_84, s57_87, s57_90, s57_91, s57_92, s57_94, s57_97, s57_98, s57_99, s57_100, s57_102, s57_105, s57_106, s57_107, s57_108, s57_109, s57_112, s57_114, s57_117, s57_120, s57_121, s57_122, s57_123, s57_124, s57_125, s57_126, s57_128, s57_131, s57_134, s57_135, s57_136, s57_138, s57_141, s57_144, List.cons_append, List.nil_append, if_true, if_false, true_and, and_true, and_self, eq_self, true_or, or_true, false_or, or_false, tIn, tLe, fLe, tLt, fLt, tEq, fEq, isL]
    refine unk_e i1 (by omega) _ (fun σ2 fr2 to2 o2 i2 E2 => ?_)
    simp (disch := omega) only [s57_0, s57_1, s57_4, s57_5, s57_6, s57_8, s57_11, s57_12, s57_13, s57_14, s57_17, s57_18, s57_19, s57_22, s57_23, s57_24, s57_26, s57_29, s57_30, s57_31, s57_32, s57_33, s57_34, s57_37, s57_40, s57_41, s57_42, s57_45, s57_47, s57_48, s57_49, s57_51, s57_54, s57_56, s57_57, s57_59, s57_62, s57_63, s57_64, s57_65, s57_66, s57_67, s57_69, s57_72, s57_75, s57_76, s57_77, s57_78, s57_79, s57_82, s57_84, s57_87, s57_90, s57_91, s57_92, s57_94, s57_97, s57_98, s57_99, s57_100, s57_102, s57_105, s57_106, s57_107, s57_108, s57_109, s57_112, s57_114, s57_117, s57_120, s57_121, s57_122, s57_123, s57_124, s57_125, s57_126, s57_128, s57_131, s57_134, s57_135, s57_136, s57_138, s57_141, s57_144, List.cons_append, List.nil_append, if_true, if_false, true_and, and_true, and_self, eq_self, true_or, or_true, false_or, or_false, tIn, tLe, fLe, tLt, fLt, tEq, fEq, isL]
    refine unk_e i2 (by omega) _ (fun σ3 fr3 to3 o3 i3 E3 => ?_)
    simp (disch := omega) only [s57_0, s57_1, s57_4, s57_5, s57_6, s57_8, s57_11, s57_12, s57_13, s57_14, s57_17, s57_18, s57_19, s57_22, s57_23, s57_24, s57_26, s57_29, s57_30, s57_31, s57_32, s57_33, s57_34, s57_37, s57_40, s57_41, s57_42, s57_45, s57_47, s57_48, s57_49, s57_51, s57_54, s57_56, s57_57, s57_59, s57_62, s57_63, s57_64, s57_65, s57_66, s57_67, s57_69, s57_72, s57_75, s57_76, s57_77, s57_78, s57_79, s57_82, s57_84, s57_87, s57_90, s57_91, s57_92, s57_94, s57_97, s57_98, s57_99, s57_100, s57_102, s57_105, s57_106, s57_107, s57_108, s57_109, s57_112, s57_114, s57_117, s57_120, s57_121, s57_122, s57_123, s57_124, s57_125, s57_126, s57_128, s57_131, s57_134, s57_135, s57_136, s57_138, s57_141, s57_144, List.cons_append, List.nil_append, if_true, if_false, true_and, and_true, and_self, eq_self, true_or, or_true, false_or, or_false, tIn, tLe, fLe, tLt, fLt, tEq, fEq, isL]
    refine arw_e (a := n) (b := n + 2) i3 (by omega) (by omega) (by omega) _ (fun σ4 fr4 to4 o4 i4 E4 => ?_)
    simp (disch := omega) only [s57_0, s57_1, s57_4, s57_5, s57_6, s57_8, s57_11, s57_12, s57_13, s57_14, s57_17, s57_18, s57_19, s57_22, s57_23, s57_24, s57_26, s57_29, s57_30, s57_31, s57_32, s57_33, s57_34, s57_37, s57_40, s57_41, s57_42, s57_45, s57_47, s57_48, s57_49, s57_51, s57_54, s57_56, s57_57, s57_59, s57_62, s57_63, s57_64, s57_65, s57_66, s57_67, s57_69, s57_72, s57_75, s57_76, s57_77, s57_78, s57_79, s57_82, s57_84, s57_87, s57_90, s57_91, s57_92, s57_94, s57_97, s57_98, s57_99, s57_100, s57_102, s57_105, s57_106, s57_107, s57_108, s57_109, s57_112, s57_114, s57_117, s57_120, s57_121, s57_122, s57_123, s57_124, s57_125, s57_126, s57_128, s57_131, s57_134, s57_135, s57_136, s57_138, s57_141, s57_144, List.cons_append, List.nil_append, if_true, if_false, true_and, and_true, and_self, eq_self, true_or, or_true, false_or, or_false, tIn, tLe, fLe, tLt, fLt, tEq, fEq, isL]
    refine arw_e (a := n + 1) (b := n + 2) i4 (by omega) (by omega) (by omega) _ (fun σ5 fr5 to5 o5 i5 E5 => ?_)
    simp (disch := omega) only [s57_0, s57_1, s57_4, s57_5, s57_6, s57_8, s57_11, s57_12, s57_13, s57_14, s57_17, s57_18, s57_19, s57_22, s57_23, s57_24, s57_26, s57_29, s57_30, s57_31, s57_32, s57_33, s57_34, s57_37, s57_40, s57_41, s57_42, s57_45, s57_47, s57_48, s57_49, s57_51, s57_54, s57_56, s57_57, s57_59, s57_62, s57_63, s57_64, s57_65, s57_66, s57_67, s57_69, s57_72, s57_75, s57_76, s57_77, s57_78, s57_79, s57_82, s57_84, s57_87, s57_90, s57_91, s57_92, s57_94, s57_97, s57_98, s57_99, s57_100, s57_102, s57_105, s57_106, s57_107, s57_108, s57_109, s57_112, s57_114, s57_117, s57_120, s57_121, s57_122, s57_123, s57_124, s57_125, s57_126, s57_128, s57_131, s57_134, s57_135, s57_136, s57_138, s57_141, s57_144, List.cons_append, List.nil_append, if_true, if_false, true_and, and_true, and_self, eq_self, true_or, or_true, false_or, or_false, tIn, tLe, fLe, tLt, fLt, tEq, fEq, isL]
    refine arw_e (a := n) (b := n + 1) i5 (by omega) (by omega) (by omega) _ (fun σ6 fr6 to6 o6 i6 E6 => ?_)
    simp (disch := omega) only [s57_0, s57_1, s57_4, s57_5, s57_6, s57_8, s57_11, s57_12, s57_13, s57_14, s57_17, s57_18, s57_19, s57_22, s57_23, s57_24, s57_26, s57_29, s57_30, s57_31, s57_32, s57_33, s57_34, s57_37, s57_40, s57_41, s57_42, s57_45, s57_47, s57_48, s57_49, s57_51, s57_54, s57_56, s57_57, s57_59, s57_62, s57_63, s57_64, s57_65, s57_66, s57_67, s57_69, s57_72, s57_75, s57_76, s57_77, s57_78, s57_79, s57_82, s57_84, s57_87, s57_90, s57_91, s57_92, s57_94, s57_97, s57_98, s57_99, s57_100, s57_102, s57_105, s57_106, s57_107, s57_108, s57_109, s57_112, s57_114, s57_117, s57_120, s57_121, s57_122, s57_123, s57_124, s57_125, s57_126, s57_128, s57_131, s57_134, s57_135, s57_136, s57_138, s57_141, s57_144, List.cons_append, List.nil_append, if_true, if_false, true_and, and_true, and_self, eq_self, true_or, or_true, false_or, or_false, tIn, tLe, fLe, tLt, fLt, tEq, fEq, isL]
    refine arw_e (a := n + 5) (b := n + 3) i6 (by omega) (by omega) (by omega) _ (fun σ7 fr7 to7 o7 i7 E7 => ?_)
    simp (disch := omega) only [s57_0, s57_1, s57_4, s57_5, s57_6, s57_8, s57_11, s57_12, s57_13, s57_14, s57_17, s57_18, s57_19, s57_22, s57_23, s57_24, s57_26, s57_29, s57_30, s57_31, s57_32, s57_33, s57_34, s57_37, s57_40, s57_41, s57_42, s57_45, s57_47, s57_48, s57_49, s57_51, s57_54, s57_56, s57_57, s57_59, s57_62, s57_63, s57_64, s57_65, s57_66, s57_67, s57_69, s57_72, s57_75, s57_76, s57_77, s57_78, s57_79, s57_82, s57_84, s57_87, s57_90, s57_91, s57_92, s57_94, s57_97, s57_98, s57_99, s57_100, s57_102, s57_105, s57_106, s57_107, s57_108, s57_109, s57_112, s57_114, s57_117, s57_120, s57_121, s57_122, s57_123, s57_124, s57_125, s57_126, s57_128, s57_131, s57_134, s57_135, s57_136, s57_138, s57_141, s57_144, List.cons_append, List.nil_append, if_true, if_false, true_and, and_true, and_self, eq_self, true_or, or_true, false_or, or_false, tIn, tLe, fLe, tLt, fLt, tEq, fEq, isL]
    refine arw_e (a := n + 4) (b := n + 6) i7 (by omega) (by omega) (by omega) _ (fun σ8 fr8 to8 o8 i8 E8 => ?_)
    simp (disch := omega) only [s57_0, s57_1, s57_4, s57_5, s57_6, s57_8, s57_11, s57_12, s57_13, s57_14, s57_17, s57_18, s57_19, s57_22, s57_23, s57_24, s57_26, s57_29, s57_30, s57_31, s57_32, s57_33, s57_34, s57_37, s57_40, s57_41, s57_42, s57_45, s57_47, s57_48, s57_49, s57_51, s57_54, s57_56, s57_57, s57_59, s57_62, s57_63, s57_64, s57_65, s57_66, s57_67, s57_69, s57_72, s57_75, s57_76, s57_77, s57_78, s57_79, s57_82, s57_84, s57_87, s57_90, s57_91, s57_92, s57_94, s57_97, s57_98, s57_99, s57_100, s57_102, s57_105, s57_106, s57_107, s57_108, s57_109, s57_112, s57_114, s57_117, s57_120, s57_121, s57_122, s57_123, s57_124, s57_125, s57_126, s57_128, s57_131, s57_134, s57_135, s57_136, s57_138, s57_141, s57_144, List.cons_append, List.nil_append, if_true, if_false, true_and, and_true, and_self, eq_self, true_or, or_true, false_or, or_false, tIn, tLe, fLe, tLt, fLt, tEq, fEq, isL]
    refine hq σ8 (n + 8) fr8 to8 o8 (n + 7) i8 (by omega) (by omega) (by omega) (fun v hv => ?_) (fun v τ hv hτ => ?_)
    · obtain ⟨h7, c8⟩ := (E8 v).mp hv
      obtain ⟨h6, c7⟩ := (E7 v).mp h7
      obtain ⟨h5, c6⟩ := (E6 v).mp h6
      obtain ⟨h4, c5⟩ := (E5 v).mp h5
      obtain ⟨h3, c4⟩ := (E4 v).mp h4
      have h2 := (E3 v).mp h3
      have h1 := (E2 v).mp h2
      have h0 := (E1 v).mp h1
      refine ⟨h0, ?_⟩
      unfold sgK
      rw [if_neg (by omega), if_neg (by omega), if_neg (by omega), if_pos rfl]
      exact ⟨v (n), v (n + 1), v (n + 2), by rw [c8, c7, c6, c5, c4]⟩
    · unfold sgK at hτ
      rw [if_neg (by omega), if_neg (by omega), if_neg (by omega), if_pos rfl] at hτ
      obtain ⟨A, B, D, rfl⟩ := hτ
      have hV : ∃ w : Nat → Ty, (∀ i, i < n → w i = v i) ∧ w (n) = A ∧ w (n + 1) = B ∧ w (n + 2) = D ∧ w (n + 3) = (.op A D) ∧ w (n + 4) = (.op B D) ∧ w (n + 5) = (.op A B) ∧ w (n + 6) = (.op (.op A B) (.op A D)) ∧ w (n + 7) = (.op (.op B D) (.op (.op A B) (.op A D))) := by
        refine ⟨fun i => if i = n then A else if i = n + 1 then B else if i = n + 2 then D else if i = n + 3 then (.op A D) else if i = n + 4 then (.op B D) else if i = n + 5 then (.op A B) else if i = n + 6 then (.op (.op A B) (.op A D)) else if i = n + 7 then (.op (.op B D) (.op (.op A B) (.op A D))) else v i, fun i hi => ?_, ?_, ?_, ?_, ?_, ?_, ?_, ?_, ?_⟩
        · simp only [if_neg (show ¬ i = n by omega), if_neg (show ¬ i = n + 1 by omega), if_neg (show ¬ i = n + 2 by omega), if_neg (show ¬ i = n + 3 by omega), if_neg (show ¬ i = n + 4 by omega), if_neg (show ¬ i = n + 5 by omega), if_neg (show ¬ i = n + 6 by omega), if_neg (show ¬ i = n + 7 by omega)]
        · simp only [if_true]
        · simp only [if_neg (show ¬ n + 1 = n by omega), if_true]
        · simp only [if_neg (show ¬ n + 2 = n by omega), if_neg (show ¬ n + 2 = n + 1 by omega), if_true]
        · simp only [if_neg (show ¬ n + 3 = n by omega), if_neg (show ¬ n + 3 = n + 1 by omega), if_neg (show ¬ n + 3 = n + 2 by omega), if_true]
        · simp only [if_neg (show ¬ n + 4 = n by omega), if_neg (show ¬ n + 4 = n + 1 by omega), if_neg (show ¬ n + 4 = n + 2 by omega), if_neg (show ¬ n + 4 = n + 3 by omega), if_true]
        · simp only [if_neg (show ¬ n + 5 = n by omega), if_neg (show ¬ n + 5 = n + 1 by omega), if_neg (show ¬ n + 5 = n + 2 by omega), if_neg (show ¬ n + 5 = n + 3 by omega), if_neg (show ¬ n + 5 = n + 4 by omega), if_true]
        · simp only [if_neg (show ¬ n + 6 = n by omega), if_neg (show ¬ n + 6 = n + 1 by omega), if_neg (show ¬ n + 6 = n + 2 by omega), if_neg (show ¬ n + 6 = n + 3 by omega), if_neg (show ¬ n + 6 = n + 4 by omega), if_neg (show ¬ n + 6 = n + 5 by omega), if_true]
        · simp only [if_neg (show ¬ n + 7 = n by omega), if_neg (show ¬ n + 7 = n + 1 by omega), if_neg (show ¬ n + 7 = n + 2 by omega), if_neg (show ¬ n + 7 = n + 3 by omega), if_neg (show ¬ n + 7 = n + 4 by omega), if_neg (show ¬ n + 7 = n + 5 by omega), if_neg (show ¬ n + 7 = n + 6 by omega), if_true]
      obtain ⟨w, w0, z0, z1, z2, z3, z4, z5, z6, z7⟩ := hV
      refine ⟨w, ?_, w0, z7⟩
      have s0 := Sl_agr h.2.2.2.2.1 hv w0
      have s1 := (E1 w).mpr s0
      have s2 := (E2 w).mpr s1
      have s3 := (E3 w).mpr s2
      have s4 := (E4 w).mpr ⟨s3, by rw [z3, z0, z2]⟩
      have s5 := (E5 w).mpr ⟨s4, by rw [z4, z1, z2]⟩
      have s6 := (E6 w).mpr ⟨s5, by rw [z5, z0, z1]⟩
      have s7 := (E7 w).mpr ⟨s6, by rw [z6, z5, z3]⟩
      have s8 := (E8 w).mpr ⟨s7, by rw [z7, z4, z6]⟩
      exact s8
  · skip
    simp (disch := omega) only [s57_0, s57_1, s57_4, s57_5, s57_6, s57_8, s57_11, s57_12, s57_13, s57_14, s57_17, s57_18, s57_19, s57_22, s57_23, s57_24, s57_26, s57_29, s57_30, s57_31, s57_32, s57_33, s57_34, s57_37, s57_40, s57_41, s57_42, s57_45, s57_47, s57_48, s57_49, s57_51, s57_54, s57_56, s57_57, s57_59, s57_62, s57_63, s57_64, s57_65, s57_66, s57_67, s57_69, s57_72, s57_75, s57_76, s57_77, s57_78, s57_79, s57_82, s57_84, s57_87, s57_90, s57_91, s57_92, s57_94, s57_97, s57_98, s57_99, s57_100, s57_102, s57_105, s57_106, s57_107, s57_108, s57_109, s57_112, s57_114, s57_117, s57_120, s57_121, s57_122, s57_123, s57_124, s57_125, s57_126, s57_128, s57_131, s57_134, s57_135, s57_136, s57_138, s57_141, s57_144, List.cons_append, List.nil_append, if_true, if_false, true_and, and_true, and_self, eq_self, true_or, or_true, false_or, or_false, tIn, tLe, fLe, tLt, fLt, tEq, fEq, isL]
    refine unk_e h (by omega) _ (fun σ1 fr1 to1 o1 i1 E1 => ?_)
    simp (disch := omega) only [s57_0, s57_1, s57_4, s57_5, s57_6, s57_8, s57_11, s57_12, s57_13, s57_14, s57_17, s57_18, s57_19, s57_22, s57_23, s57_24, s57_26, s57_29, s57_30, s57_31, s57_32, s57_33, s57_34, s57_37, s57_40, s57_41, s57_42, s57_45, s57_47, s57_48, s57_49, s57_51, s57_54, s57_56, s57_57, s57_59, s57_62, s57_63, s57_64, s57_65, s57_66, s57_67, s57_69, s57_72, s57_75, s57_76, s57_77, s57_78, s57_79, s57_82, s57_84, s57_87, s57_90, s57_91, s57_92, s57_94, s57_97, s57_98, s57_99, s57_100, s57_102, s57_105, s57_106, s57_107, s57_108, s57_109, s57_112, s57_114, s57_117, s57_120, s57_121, s57_122, s57_123, s57_124, s57_125, s57_126, s57_128, s57_131, s57_134, s57_135, s57_136, s57_138, s57_141, s57_144, List.cons_append, List.nil_append, if_true, if_false, true_and, and_true, and_self, eq_self, true_or, or_true, false_or, or_false, tIn, tLe, fLe, tLt, fLt, tEq, fEq, isL]
    refine unk_e i1 (by omega) _ (fun σ2 fr2 to2 o2 i2 E2 => ?_)
    simp (disch := omega) only [s57_0, s57_1, s57_4, s57_5, s57_6, s57_8, s57_11, s57_12, s57_13, s57_14, s57_17, s57_18, s57_19, s57_22, s57_23, s57_24, s57_26, s57_29, s57_30, s57_31, s57_32, s57_33, s57_34, s57_37, s57_40, s57_41, s57_42, s57_45, s57_47, s57_48, s57_49, s57_51, s57_54, s57_56, s57_57, s57_59, s57_62, s57_63, s57_64, s57_65, s57_66, s57_67, s57_69, s57_72, s57_75, s57_76, s57_77, s57_78, s57_79, s57_82, s57_84, s57_87, s57_90, s57_91, s57_92, s57_94, s57_97, s57_98, s57_99, s57_100, s57_102, s57_105, s57_106, s57_107, s57_108, s57_109, s57_112, s57_114, s57_117, s57_120, s57_121, s57_122, s57_123, s57_124, s57_125, s57_126, s57_128, s57_131, s57_134, s57_135, s57_136, s57_138, s57_141, s57_144, List.cons_append, List.nil_append, if_true, if_false, true_and, and_true, and_self, eq_self, true_or, or_true, false_or, or_false, tIn, tLe, fLe, tLt, fLt, tEq, fEq, isL]
    refine unk_e i2 (by omega) _ (fun σ3 fr3 to3 o3 i3 E3 => ?_)
    simp (disch := omega) only [s57_0, s57_1, s57_4, s57_5, s57_6, s57_8, s57_11, s57_12, s57_13, s57_14, s57_17, s57_18, s57_19, s57_22, s57_23, s57_24, s57_26, s57_29, s57_30, s57_31, s57_32, s57_33, s57_34, s57_37, s57_40, s57_41, s57_42, s57_45, s57_47, s57_48, s57_49, s57_51, s57_54, s57_56, s57_57, s57_59, s57_62, s57_63, s57_64, s57_65, s57_66, s57_67, s57_69, s57_72, s57_75, s57_76, s57_77, s57_78, s57_79, s57_82, s57_84, s57_87, s57_90, s57_91, s57_92, s57_94, s57_97, s57_98, s57_99, s57_100, s57_102, s57_105, s57_106, s57_107, s57_108, s57_109, s57_112, s57_114, s57_117, s57_120, s57_121, s57_122, s57_123, s57_124, s57_125, s57_126, s57_128, s57_131, s57_134, s57_135, s57_136, s57_138, s57_141, s57_144, List.cons_append, List.nil_append, if_true, if_false, true_and, and_true, and_self, eq_self, true_or, or_true, false_or, or_false, tIn, tLe, fLe, tLt, fLt, tEq, fEq, isL]
    refine arw_e (a := n) (b := n + 2) i3 (by omega) (by omega) (by omega) _ (fun σ4 fr4 to4 o4 i4 E4 => ?_)
    simp (disch := omega) only [s57_0, s57_1, s57_4, s57_5, s57_6, s57_8, s57_11, s57_12, s57_13, s57_14, s57_17, s57_18, s57_19, s57_22, s57_23, s57_24, s57_26, s57_29, s57_30, s57_31, s57_32, s57_33, s57_34, s57_37, s57_40, s57_41, s57_42, s57_45, s57_47, s57_48, s57_49, s57_51, s57_54, s57_56, s57_57, s57_59, s57_62, s57_63, s57_64, s57_65, s57_66, s57_67, s57_69, s57_72, s57_75, s57_76, s57_77, s57_78, s57_79, s57_82, s57_84, s57_87, s57_90, s57_91, s57_92, s57_94, s57_97, s57_98, s57_99, s57_100, s57_102, s57_105, s57_106, s57_107, s57_108, s57_109, s57_112, s57_114, s57_117, s57_120, s57_121, s57_122, s57_123, s57_124, s57_125, s57_126, s57_128, s57_131, s57_134, s57_135, s57_136, s57_138, s57_141, s57_144, List.cons_append, List.nil_append, if_true, if_false, true_and, and_true, and_self, eq_self, true_or, or_true, false_or, or_false, tIn, tLe, fLe, tLt, fLt, tEq, fEq, isL]
    refine arw_e (a := n + 1) (b := n + 2) i4 (by omega) (by omega) (by omega) _ (fun σ5 fr5 to5 o5 i5 E5 => ?_)
    simp (disch := omega) only [s57_0, s57_1, s57_4, s57_5, s57_6, s57_8, s57_11, s57_12, s57_13, s57_14, s57_17, s57_18, s57_19, s57_22, s57_23, s57_24, s57_26, s57_29, s57_30, s57_31, s57_32, s57_33, s57_34, s57_37, s57_40, s57_41, s57_42, s57_45, s57_47, s57_48, s57_49, s57_51, s57_54, s57_56, s57_57, s57_59, s57_62, s57_63, s57_64, s57_65, s57_66, s57_67, s57_69, s57_72, s57_75, s57_76, s57_77, s57_78, s57_79, s57_82, s57_84, s57_87, s57_90, s57_91, s57_92, s57_94, s57_97, s57_98, s57_99, s57_100, s57_102, s57_105, s57_106, s57_107, s57_108, s57_109, s57_112, s57_114, s57_117, s57_120, s57_121, s57_122, s57_123, s57_124, s57_125, s57_126, s57_128, s57_131, s57_134, s57_135, s57_136, s57_138, s57_141, s57_144, List.cons_append, List.nil_append, if_true, if_false, true_and, and_true, and_self, eq_self, true_or, or_true, false_or, or_false, tIn, tLe, fLe, tLt, fLt, tEq, fEq, isL]
    refine arw_e (a := n) (b := n + 4) i5 (by omega) (by omega) (by omega) _ (fun σ6 fr6 to6 o6 i6 E6 => ?_)
    simp (disch := omega) only [s57_0, s57_1, s57_4, s57_5, s57_6, s57_8, s57_11, s57_12, s57_13, s57_14, s57_17, s57_18, s57_19, s57_22, s57_23, s57_24, s57_26, s57_29, s57_30, s57_31, s57_32, s57_33, s57_34, s57_37, s57_40, s57_41, s57_42, s57_45, s57_47, s57_48, s57_49, s57_51, s57_54, s57_56, s57_57, s57_59, s57_62, s57_63, s57_64, s57_65, s57_66, s57_67, s57_69, s57_72, s57_75, s57_76, s57_77, s57_78, s57_79, s57_82, s57_84, s57_87, s57_90, s57_91, s57_92, s57_94, s57_97, s57_98, s57_99, s57_100, s57_102, s57_105, s57_106, s57_107, s57_108, s57_109, s57_112, s57_114, s57_117, s57_120, s57_121, s57_122, s57_123, s57_124, s57_125, s57_126, s57_128, s57_131, s57_134, s57_135, s57_136, s57_138, s57_141, s57_144, List.cons_append, List.nil_append, if_true, if_false, true_and, and_true, and_self, eq_self, true_or, or_true, false_or, or_false, tIn, tLe, fLe, tLt, fLt, tEq, fEq, isL]
    refine arw_e (a := n + 1) (b := n + 3) i6 (by omega) (by omega) (by omega) _ (fun σ7 fr7 to7 o7 i7 E7 => ?_)
    simp (disch := omega) only [s57_0, s57_1, s57_4, s57_5, s57_6, s57_8, s57_11, s57_12, s57_13, s57_14, s57_17, s57_18, s57_19, s57_22, s57_23, s57_24, s57_26, s57_29, s57_30, s57_31, s57_32, s57_33, s57_34, s57_37, s57_40, s57_41, s57_42, s57_45, s57_47, s57_48, s57_49, s57_51, s57_54, s57_56, s57_57, s57_59, s57_62, s57_63, s57_64, s57_65, s57_66, s57_67, s57_69, s57_72, s57_75, s57_76, s57_77, s57_78, s57_79, s57_82, s57_84, s57_87, s57_90, s57_91, s57_92, s57_94, s57_97, s57_98, s57_99, s57_100, s57_102, s57_105, s57_106, s57_107, s57_108, s57_109, s57_112, s57_114, s57_117, s57_120, s57_121, s57_122, s57_123, s57_124, s57_125, s57_126, s57_128, s57_131, s57_134, s57_135, s57_136, s57_138, s57_141, s57_144, List.cons_append, List.nil_append, if_true, if_false, true_and, and_true, and_self, eq_self, true_or, or_true, false_or, or_false, tIn, tLe, fLe, tLt, fLt, tEq, fEq, isL]
    refine arw_e (a := n + 5) (b := n + 6) i7 (by omega) (by omega) (by omega) _ (fun σ8 fr8 to8 o8 i8 E8 => ?_)
    simp (disch := omega) only [s57_0, s57_1, s57_4, s57_5, s57_6, s57_8, s57_11, s57_12, s57_13, s57_14, s57_17, s57_18, s57_19, s57_22, s57_23, s57_24, s57_26, s57_29, s57_30, s57_31, s57_32, s57_33, s57_34, s57_37, s57_40, s57_41, s57_42, s57_45, s57_47, s57_48, s57_49, s57_51, s57_54, s57_56, s57_57, s57_59, s57_62, s57_63, s57_64, s57_65, s57_66, s57_67, s57_69, s57_72, s57_75, s57_76, s57_77, s57_78, s57_79, s57_82, s57_84, s57_87, s57_90, s57_91, s57_92, s57_94, s57_97, s57_98, s57_99, s57_100, s57_102, s57_105, s57_106, s57_107, s57_108, s57_109, s57_112, s57_114, s57_117, s57_120, s57_121, s57_122, s57_123, s57_124, s57_125, s57_126, s57_128, s57_131, s57_134, s57_135, s57_136, s57_138, s57_141, s57_144, List.cons_append, List.nil_append, if_true, if_false, true_and, and_true, and_self, eq_self, true_or, or_true, false_or, or_false, tIn, tLe, fLe, tLt, fLt, tEq, fEq, isL]
    refine hq σ8 (n + 8) fr8 to8 o8 (n + 7) i8 (by omega) (by omega) (by omega) (fun v hv => ?_) (fun v τ hv hτ => ?_)
    · obtain ⟨h7, c8⟩ := (E8 v).mp hv
      obtain ⟨h6, c7⟩ := (E7 v).mp h7
      obtain ⟨h5, c6⟩ := (E6 v).mp h6
      obtain ⟨h4, c5⟩ := (E5 v).mp h5
      obtain ⟨h3, c4⟩ := (E4 v).mp h4
      have h2 := (E3 v).mp h3
      have h1 := (E2 v).mp h2
      have h0 := (E1 v).mp h1
      refine ⟨h0, ?_⟩
      unfold sgK
      rw [if_neg (by omega), if_neg (by omega), if_neg (by omega), if_neg (by omega)]
      exact ⟨v (n), v (n + 1), v (n + 2), by rw [c8, c7, c6, c5, c4]⟩
    · unfold sgK at hτ
      rw [if_neg (by omega), if_neg (by omega), if_neg (by omega), if_neg (by omega)] at hτ
      obtain ⟨A, B, D, rfl⟩ := hτ
      have hV : ∃ w : Nat → Ty, (∀ i, i < n → w i = v i) ∧ w (n) = A ∧ w (n + 1) = B ∧ w (n + 2) = D ∧ w (n + 3) = (.op A D) ∧ w (n + 4) = (.op B D) ∧ w (n + 5) = (.op A (.op B D)) ∧ w (n + 6) = (.op B (.op A D)) ∧ w (n + 7) = (.op (.op A (.op B D)) (.op B (.op A D))) := by
        refine ⟨fun i => if i = n then A else if i = n + 1 then B else if i = n + 2 then D else if i = n + 3 then (.op A D) else if i = n + 4 then (.op B D) else if i = n + 5 then (.op A (.op B D)) else if i = n + 6 then (.op B (.op A D)) else if i = n + 7 then (.op (.op A (.op B D)) (.op B (.op A D))) else v i, fun i hi => ?_, ?_, ?_, ?_, ?_, ?_, ?_, ?_, ?_⟩
        · simp only [if_neg (show ¬ i = n by omega), if_neg (show ¬ i = n + 1 by omega), if_neg (show ¬ i = n + 2 by omega), if_neg (show ¬ i = n + 3 by omega), if_neg (show ¬ i = n + 4 by omega), if_neg (show ¬ i = n + 5 by omega), if_neg (show ¬ i = n + 6 by omega), if_neg (show ¬ i = n + 7 by omega)]
        · simp only [if_true]
        · simp only [if_neg (show ¬ n + 1 = n by omega), if_true]
        · simp only [if_neg (show ¬ n + 2 = n by omega), if_neg (show ¬ n + 2 = n + 1 by omega), if_true]
        · simp only [if_neg (show ¬ n + 3 = n by omega), if_neg (show ¬ n + 3 = n + 1 by omega), if_neg (show ¬ n + 3 = n + 2 by omega), if_true]
        · simp only [if_neg (show ¬ n + 4 = n by omega), if_neg (show ¬ n + 4 = n + 1 by omega), if_neg (show ¬ n + 4 = n + 2 by omega), if_neg (show ¬ n + 4 = n + 3 by omega), if_true]
        · simp only [if_neg (show ¬ n + 5 = n by omega), if_neg (show ¬ n + 5 = n + 1 by omega), if_neg (show ¬ n + 5 = n + 2 by omega), if_neg (show ¬ n + 5 = n + 3 by omega), if_neg (show ¬ n + 5 = n + 4 by omega), if_true]
        · simp only [if_neg (show ¬ n + 6 = n by omega), if_neg (show ¬ n + 6 = n + 1 by omega), if_neg (show ¬ n + 6 = n + 2 by omega), if_neg (show ¬ n + 6 = n + 3 by omega), if_neg (show ¬ n + 6 = n + 4 by omega), if_neg (show ¬ n + 6 = n + 5 by omega), if_true]
        · simp only [if_neg (show ¬ n + 7 = n by omega), if_neg (show ¬ n + 7 = n + 1 by omega), if_neg (show ¬ n + 7 = n + 2 by omega), if_neg (show ¬ n + 7 = n + 3 by omega), if_neg (show ¬ n + 7 = n + 4 by omega), if_neg (show ¬ n + 7 = n + 5 by omega), if_neg (show ¬ n + 7 = n + 6 by omega), if_true]
      obtain ⟨w, w0, z0, z1, z2, z3, z4, z5, z6, z7⟩ := hV
      refine ⟨w, ?_, w0, z7⟩
      have s0 := Sl_agr h.2.2.2.2.1 hv w0
      have s1 := (E1 w).mpr s0
      have s2 := (E2 w).mpr s1
      have s3 := (E3 w).mpr s2
      have s4 := (E4 w).mpr ⟨s3, by rw [z3, z0, z2]⟩
      have s5 := (E5 w).mpr ⟨s4, by rw [z4, z1, z2]⟩
      have s6 := (E6 w).mpr ⟨s5, by rw [z5, z0, z4]⟩
      have s7 := (E7 w).mpr ⟨s6, by rw [z6, z1, z3]⟩
      have s8 := (E8 w).mpr ⟨s7, by rw [z7, z5, z6]⟩
      exact s8
end SGK
