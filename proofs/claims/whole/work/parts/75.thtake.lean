/-! Things: takeStep -/
section THT
variable {σ σ0 σ' : aSg} {K : List AV → aSg → Prop} {x y z c : Int} {T W st F I L R C s : List Int} {r q t i j k p h m w : Nat} {G G' : Gr} {ρ : Nat → Nat} {v : Int × Nat × Nat} {X : Gr}
abbrev Fr3 (σ σ' : aSg) : Prop := ∀ a, a < 83 ∨ 88 < a → σ' a = σ a
theorem wr82 (hk : RK σ) (h1 : rv σ 83 = C) (h2 : rv σ 85 = L) (h3 : rv σ 87 = R) (l1 : C.length < 520) (l2 : L.length < 520) (l3 : R.length < 520) (Q : List AV → aSg → Prop) (hq : ∀ σ', RK σ' → rv σ' 83 = C ++ [x] → rv σ' 85 = L ++ [y] → rv σ' 87 = R ++ [z] → Fr3 σ σ' → Q [.inl (C.length : Int)] σ') : CA m82 [.inr (.inl 82), .inl x, .inl y, .inl z] σ Q := by
  rw [e82]
  have c3 := cp83
  have c5 := cp85
  have c7 := cp87
  simp (disch := omega) only [s82_0, s82_1, s82_4, s82_5, s82_8, s82_9, s82_12, s82_13, s82_16, s82_17, s82_20, s82_21, s82_24, s82_25, s82_28, s82_31, s82_32, s82_33, List.cons_append, List.nil_append, if_true, if_false, true_and, and_true, and_self, eq_self, true_or, or_true, false_or, or_false, tIn, tLe, fLe, tLt, fLt, tEq, fEq, isL, row83.1, row85.1, row87.1]
  refine radd_ok row83 hk h1 (by omega) _ (fun σ1 k1 w1 f1 => ?_)
  have a5 : rv σ1 85 = L := (FrW_rv f1 row83 row85 (by omega)).trans h2
  have a7 : rv σ1 87 = R := (FrW_rv f1 row83 row87 (by omega)).trans h3
  simp (disch := omega) only [s82_0, s82_1, s82_4, s82_5, s82_8, s82_9, s82_12, s82_13, s82_16, s82_17, s82_20, s82_21, s82_24, s82_25, s82_28, s82_31, s82_32, s82_33, List.cons_append, List.nil_append, if_true, if_false, true_and, and_true, and_self, eq_self, true_or, or_true, false_or, or_false, tIn, tLe, fLe, tLt, fLt, tEq, fEq, isL, row83.1, row85.1, row87.1]
  refine radd_ok row85 k1 a5 (by omega) _ (fun σ2 k2 w2 f2 => ?_)
  have b3 : rv σ2 83 = C ++ [x] := (FrW_rv f2 row85 row83 (by omega)).trans w1
  have b7 : rv σ2 87 = R := (FrW_rv f2 row85 row87 (by omega)).trans a7
  simp (disch := omega) only [s82_0, s82_1, s82_4, s82_5, s82_8, s82_9, s82_12, s82_13, s82_16, s82_17, s82_20, s82_21, s82_24, s82_25, s82_28, s82_31, s82_32, s82_33, List.cons_append, List.nil_append, if_true, if_false, true_and, and_true, and_self, eq_self, true_or, or_true, false_or, or_false, tIn, tLe, fLe, tLt, fLt, tEq, fEq, isL, row83.1, row85.1, row87.1]
  refine radd_ok row87 k2 b7 (by omega) _ (fun σ3 k3 w3 f3 => ?_)
  have d3 : rv σ3 83 = C ++ [x] := (FrW_rv f3 row87 row83 (by omega)).trans b3
  have d5 : rv σ3 85 = L ++ [y] := (FrW_rv f3 row87 row85 (by omega)).trans w2
  have e1 : ((C ++ [x]).length : Int) = (C.length : Int) + 1 := by simp
  have e2 : (C.length : Int) + 1 - 1 = (C.length : Int) := by omega
  simp (disch := omega) only [s82_0, s82_1, s82_4, s82_5, s82_8, s82_9, s82_12, s82_13, s82_16, s82_17, s82_20, s82_21, s82_24, s82_25, s82_28, s82_31, s82_32, s82_33, List.cons_append, List.nil_append, if_true, if_false, true_and, and_true, and_self, eq_self, true_or, or_true, false_or, or_false, tIn, tLe, fLe, tLt, fLt, tEq, fEq, isL, row83.1, c28 row83 k3, d3, e1, e2]
  exact hq σ3 k3 d3 d5 w3 (fun a ha => by rw [f3 a (by omega) (by omega), f2 a (by omega) (by omega), f1 a (by omega) (by omega)])
theorem rset_ok {l : List Int} {i : Nat} {v : Int} (hr : isRow r) (hk : RK σ) (hl : rv σ r = l) (Q : List AV → aSg → Prop) (hq : ∀ σ', RK σ' → rv σ' r = lset l (i : Int) v → FrW r σ σ' → Q [] σ') : CA m33 [.inr (.inl r), .inl (i : Int), .inl v] σ Q := by
  have hle := rv_le hk hr
  rw [hl] at hle
  rw [c33 hr hk, hl]
  exact hq _ (RK_rs hk hr (by rw [lset_len]; exact hle)) rv_rs (fun a h1 h2 => rs_at h1 h2)
theorem wr83 {a b : Int} (hk : RK σ) (h1 : rv σ 85 = L) (h2 : rv σ 87 = R) (Q : List AV → aSg → Prop) (hq : ∀ σ', RK σ' → rv σ' 85 = lset L (w : Int) a → rv σ' 87 = lset R (w : Int) b → rv σ' 83 = rv σ 83 → Fr3 σ σ' → Q [] σ') : CA m83 [.inr (.inl 82), .inl (w : Int), .inl a, .inl b] σ Q := by
  rw [e83]
  simp (disch := omega) only [s83_0, s83_1, s83_4, s83_5, s83_6, s83_9, s83_10, s83_13, s83_14, s83_15, s83_18, List.cons_append, List.nil_append, if_true, if_false, true_and, and_true, and_self, eq_self, true_or, or_true, false_or, or_false, tIn, tLe, fLe, tLt, fLt, tEq, fEq, isL, row85.1, row87.1]
  refine rset_ok row85 hk h1 _ (fun σ1 k1 w1 f1 => ?_)
  have a7 : rv σ1 87 = R := (FrW_rv f1 row85 row87 (by omega)).trans h2
  simp (disch := omega) only [s83_0, s83_1, s83_4, s83_5, s83_6, s83_9, s83_10, s83_13, s83_14, s83_15, s83_18, List.cons_append, List.nil_append, if_true, if_false, true_and, and_true, and_self, eq_self, true_or, or_true, false_or, or_false, tIn, tLe, fLe, tLt, fLt, tEq, fEq, isL, row85.1, row87.1]
  refine rset_ok row87 k1 a7 _ (fun σ2 k2 w2 f2 => ?_)
  simp (disch := omega) only [s83_0, s83_1, s83_4, s83_5, s83_6, s83_9, s83_10, s83_13, s83_14, s83_15, s83_18, List.cons_append, List.nil_append, if_true, if_false, true_and, and_true, and_self, eq_self, true_or, or_true, false_or, or_false, tIn, tLe, fLe, tLt, fLt, tEq, fEq, isL]
  exact hq σ2 k2 ((FrW_rv f2 row87 row85 (by omega)).trans w1) w2 (by rw [FrW_rv f2 row87 row83 (by omega), FrW_rv f1 row85 row83 (by omega)]) (fun a ha => by rw [f2 a (by omega) (by omega), f1 a (by omega) (by omega)])
theorem lat_app1 {l m : List Int} {i : Nat} (h : i < l.length) : lat (l ++ m) (i : Int) = lat l (i : Int) := by
  rw [lat_i2 h, lat_i2 (by simp; omega), List.getElem_append_left h]
theorem lat_app2 {l m : List Int} {k : Nat} (h : k < m.length) : lat (l ++ m) ((l.length + k : Nat) : Int) = lat m (k : Int) := by
  rw [lat_i2 h, lat_i2 (by simp; omega), List.getElem_append_right (by omega)]
  simp
theorem TGI_new (hs : Sok G ρ w v X) (hW : WG G ρ) (hC : CL G ρ L R) (h : TGI σ0 σ G ρ F st I) (hk : RK σ') (e3 : rv σ' 83 = (G.set w v ++ X).map (fun v => v.1)) (hL : (rv σ' 85).length = G.length + X.length) (hR : (rv σ' 87).length = G.length + X.length) (h1 : ∀ i : Nat, i < G.length → i ≠ w → lat (rv σ' 85) (i : Int) = lat L (i : Int) ∧ (cl G i = 1 → lat (rv σ' 87) (i : Int) = lat R (i : Int))) (h2 : lat (rv σ' 85) (w : Int) = (v.2.1 : Int) ∧ (v.1 = 1 → lat (rv σ' 87) (w : Int) = (v.2.2 : Int))) (h3 : ∀ k : Nat, k < X.length → lat (rv σ' 85) ((G.length + k : Nat) : Int) = ((X.getD k (0, 0, 0)).2.1 : Int) ∧ lat (rv σ' 87) ((G.length + k : Nat) : Int) = ((X.getD k (0, 0, 0)).2.2 : Int)) (hf : Fr3 σ σ') : TGI σ0 σ' (G.set w v ++ X) (rk3 G ρ w) F st I := by
  obtain ⟨a1, a2, a3, a4, a5, a6, a7⟩ := h
  refine ⟨hk, e3, CL_step hW hs hC hL hR h1 h2 h3, ?_, ?_, ?_, fun a ha => (hf a (by omega)).trans (a7 a ha)⟩
  · rw [rv_same (hf 78 (by omega)) (hf 79 (by omega))]; exact a4
  · rw [rv_same (hf 91 (by omega)) (hf 92 (by omega))]; exact a5
  · rw [rv_same (hf 89 (by omega)) (hf 90 (by omega))]; exact a6
theorem map_set1 (hw : w < G.length) (hv : v.1 = cl G w) : (G.set w v).map (fun v => v.1) = G.map (fun v => v.1) := by
  rw [List.map_set, hv]
  apply List.ext_getElem?
  intro i
  rw [List.getElem?_set]
  by_cases e : w = i
  · subst e
    rw [if_pos rfl, if_pos (by simpa using hw), List.getElem?_map, List.getElem?_eq_getElem hw]
    unfold cl
    rw [List.getD_eq_getElem?_getD, List.getElem?_eq_getElem hw]
    rfl
  · rw [if_neg e]
theorem lI {I : List Nat} {m : Nat} : lat (I.map (fun d : Nat => (d : Int))) (m : Int) = (idN I m : Int) := by
  unfold lat idN
  rw [if_pos (by omega), Int.toNat_natCast, List.getD_eq_getElem?_getD, List.getD_eq_getElem?_getD, List.getElem?_map]
  cases I[m]? <;> rfl
theorem wr81 (hW : WG G ρ) (h0 : 0 < G.length) (hl : nlk G G.length ≤ 199) (hg : G.length ≤ 518) (hI : TGI σ0 σ G ρ F st ((idG G).map (fun d : Nat => (d : Int)))) (e : scn (fG G) 0 0 = some h) (hil : (idG G).length ≤ 300) (Q : List AV → aSg → Prop) (hq : ∀ (σ' : aSg) (ρ' : Nat → Nat) (st' : List Int), WG (stG G (idG G) h) ρ' → TGI σ0 σ' (stG G (idG G) h) ρ' ((fG (stG G (idG G) h)).take 301) st' (((idG (stG G (idG G) h)).take 301).map (fun d : Nat => (d : Int))) → Q [] σ') : CA m81 [.inr (.inl 82), .inl (h : Int), .inr (.inl 78)] σ Q := by
  rw [e81]
  obtain ⟨s1, s2, s3, s4, s5, s6⟩ := st_at hW h0 e
  have pi := st_pi hW h0 e
  obtain ⟨a1, a2, a3, a4, a5, a6, a7⟩ := id hI
  have em := map_at s4
  obtain ⟨L, hL⟩ : ∃ z, z = rv σ 85 := ⟨_, rfl⟩
  obtain ⟨R, hR⟩ : ∃ z, z = rv σ 87 := ⟨_, rfl⟩
  rw [← hL, ← hR] at a3
  obtain ⟨d1, d2, d3, d4⟩ := id a3
  have cl' : (G.map (fun v => v.1)).length = G.length := by simp
  have rx : ∀ j : Nat, 1 ≤ j → (j : Int) ≤ wnt (cl G (idN (idG G) h)) → lat R (idN (idG G) (h - j) : Int) = (rt G (idN (idG G) (h - j)) : Int) := by
    intro j j1 j2
    obtain ⟨q1, q2, q3, q4⟩ := pi j j1 j2
    exact (d3 _ q3 q4).2
  -- behind the change
  have fin : ∀ (σ2 : aSg) (w : Nat) (v : Int × Nat × Nat) (X : Gr) (l3 l4 l5 l6 l7 : Int), stG G (idG G) h = G.set w v ++ X → Sok G ρ w v X → X.length ≤ 2 → TGI σ0 σ2 (G.set w v ++ X) (rk3 G ρ w) F st ((idG G).map (fun d : Nat => (d : Int))) → WP m81 212 [.inr (.inl 82), .inl (h : Int), .inr (.inl 78), .inl l3, .inl l4, .inl l5, .inl l6, .inl l7] [] σ2 Q := by
    intro σ2 w v X l3 l4 l5 l6 l7 es hs hX i2
    obtain ⟨w1, w2⟩ := Sok_W hW hs
    rw [es] at hq
    simp (disch := omega) only [s81_0, s81_1, s81_4, s81_5, s81_8, s81_9, s81_12, s81_15, s81_16, s81_17, s81_20, s81_21, s81_22, s81_25, s81_26, s81_29, s81_31, s81_32, s81_35, s81_36, s81_39, s81_40, s81_41, s81_42, s81_45, s81_48, s81_50, s81_51, s81_54, s81_55, s81_58, s81_59, s81_60, s81_61, s81_64, s81_67, s81_69, s81_70, s81_73, s81_74, s81_77, s81_78, s81_79, s81_80, s81_83, s81_86, s81_88, s81_89, s81_124, s81_125, s81_127, s81_128, s81_129, s81_131, s81_133, s81_136, s81_137, s81_138, s81_140, s81_142, s81_145, s81_148, s81_151, s81_152, s81_154, s81_156, s81_157, s81_158, s81_160, s81_162, s81_165, s81_168, s81_171, s81_172, s81_174, s81_175, s81_176, s81_178, s81_180, s81_183, s81_185, s81_188, s81_191, s81_192, s81_195, s81_197, s81_198, s81_201, s81_202, s81_205, s81_207, s81_209, s81_212, s81_213, s81_214, s81_217, List.cons_append, List.nil_append, if_true, if_false, true_and, and_true, and_self, eq_self, true_or, or_true, false_or, or_false, tIn, tLe, fLe, tLt, fLt, tEq, fEq, isL]
    refine wr84 i2 w1 (by simp; omega) (by omega) (by simp; omega) _ (fun σ3 st3 i3 => ?_)
    simp (disch := omega) only [s81_0, s81_1, s81_4, s81_5, s81_8, s81_9, s81_12, s81_15, s81_16, s81_17, s81_20, s81_21, s81_22, s81_25, s81_26, s81_29, s81_31, s81_32, s81_35, s81_36, s81_39, s81_40, s81_41, s81_42, s81_45, s81_48, s81_50, s81_51, s81_54, s81_55, s81_58, s81_59, s81_60, s81_61, s81_64, s81_67, s81_69, s81_70, s81_73, s81_74, s81_77, s81_78, s81_79, s81_80, s81_83, s81_86, s81_88, s81_89, s81_124, s81_125, s81_127, s81_128, s81_129, s81_131, s81_133, s81_136, s81_137, s81_138, s81_140, s81_142, s81_145, s81_148, s81_151, s81_152, s81_154, s81_156, s81_157, s81_158, s81_160, s81_162, s81_165, s81_168, s81_171, s81_172, s81_174, s81_175, s81_176, s81_178, s81_180, s81_183, s81_185, s81_188, s81_191, s81_192, s81_195, s81_197, s81_198, s81_201, s81_202, s81_205, s81_207, s81_209, s81_212, s81_213, s81_214, s81_217, List.cons_append, List.nil_append, if_true, if_false, true_and, and_true, and_self, eq_self, true_or, or_true, false_or, or_false, tIn, tLe, fLe, tLt, fLt, tEq, fEq, isL]
    exact hq σ3 _ st3 w1 i3
  have eh1 : (h : Int) - 1 = ((h - 1 : Nat) : Int) := by omega
  have cases3 : wnt (cl G (idN (idG G) h)) = 3 → (h : Int) - 2 = ((h - 2 : Nat) : Int) ∧ (h : Int) - 3 = ((h - 3 : Nat) : Int) ∧ lat R (idN (idG G) (h - 1) : Int) = (rt G (idN (idG G) (h - 1)) : Int) ∧ lat R (idN (idG G) (h - 2) : Int) = (rt G (idN (idG G) (h - 2)) : Int) ∧ lat R (idN (idG G) (h - 3) : Int) = (rt G (idN (idG G) (h - 3)) : Int) := fun w3 => ⟨by omega, by omega, rx 1 (by omega) (by omega), rx 2 (by omega) (by omega), rx 3 (by omega) (by omega)⟩
  rcases wnt_c s1 with ⟨c1, w1⟩ | ⟨c1, w1⟩ | ⟨c1, w1⟩ | ⟨c1, w1⟩ | ⟨c1, w1⟩
  · -- I
    obtain ⟨es, hs⟩ := S_73 hW h0 e c1
    have x1 := rx 1 (by omega) (by omega)
    rw [c1] at w1 em
    have hw := hs.1
    have k2 : RK (rs σ 83 (lset (G.map (fun v => v.1)) (idN (idG G) (h - 1) : Int) 2)) := RK_rs a1 row83 (by rw [lset_len, cl', cp83]; omega)
    simp (disch := omega) only [s81_0, s81_1, s81_4, s81_5, s81_8, s81_9, s81_12, s81_15, s81_16, s81_17, s81_20, s81_21, s81_22, s81_25, s81_26, s81_29, s81_31, s81_32, s81_35, s81_36, s81_39, s81_40, s81_41, s81_42, s81_45, s81_48, s81_50, s81_51, s81_54, s81_55, s81_58, s81_59, s81_60, s81_61, s81_64, s81_67, s81_69, s81_70, s81_73, s81_74, s81_77, s81_78, s81_79, s81_80, s81_83, s81_86, s81_88, s81_89, s81_124, s81_125, s81_127, s81_128, s81_129, s81_131, s81_133, s81_136, s81_137, s81_138, s81_140, s81_142, s81_145, s81_148, s81_151, s81_152, s81_154, s81_156, s81_157, s81_158, s81_160, s81_162, s81_165, s81_168, s81_171, s81_172, s81_174, s81_175, s81_176, s81_178, s81_180, s81_183, s81_185, s81_188, s81_191, s81_192, s81_195, s81_197, s81_198, s81_201, s81_202, s81_205, s81_207, s81_209, s81_213, s81_214, s81_217, List.cons_append, List.nil_append, if_true, if_false, true_and, and_true, and_self, eq_self, true_or, or_true, false_or, or_false, tIn, tLe, fLe, tLt, fLt, tEq, fEq, isL, row83.1, row89.1, row87.1, row85.1, c30 row89 a1, a6, lI, c30 row83 a1, a2, em, c119, w1, eh1, c30 row87 a1, ← hR, x1]
    refine rset_ok row83 a1 a2 _ (fun σ1 k1 w1' f1 => ?_)
    have b5 : rv σ1 85 = L := by rw [hL]; exact FrW_rv f1 row83 row85 (by omega)
    have b7 : rv σ1 87 = R := by rw [hR]; exact FrW_rv f1 row83 row87 (by omega)
    simp (disch := omega) only [s81_0, s81_1, s81_4, s81_5, s81_8, s81_9, s81_12, s81_15, s81_16, s81_17, s81_20, s81_21, s81_22, s81_25, s81_26, s81_29, s81_31, s81_32, s81_35, s81_36, s81_39, s81_40, s81_41, s81_42, s81_45, s81_48, s81_50, s81_51, s81_54, s81_55, s81_58, s81_59, s81_60, s81_61, s81_64, s81_67, s81_69, s81_70, s81_73, s81_74, s81_77, s81_78, s81_79, s81_80, s81_83, s81_86, s81_88, s81_89, s81_124, s81_125, s81_127, s81_128, s81_129, s81_131, s81_133, s81_136, s81_137, s81_138, s81_140, s81_142, s81_145, s81_148, s81_151, s81_152, s81_154, s81_156, s81_157, s81_158, s81_160, s81_162, s81_165, s81_168, s81_171, s81_172, s81_174, s81_175, s81_176, s81_178, s81_180, s81_183, s81_185, s81_188, s81_191, s81_192, s81_195, s81_197, s81_198, s81_201, s81_202, s81_205, s81_207, s81_209, s81_213, s81_214, s81_217, List.cons_append, List.nil_append, if_true, if_false, true_and, and_true, and_self, eq_self, true_or, or_true, false_or, or_false, tIn, tLe, fLe, tLt, fLt, tEq, fEq, isL, row85.1]
    refine rset_ok row85 k1 b5 _ (fun σ2 k2 w2' f2 => ?_)
    have e7 : rv σ2 87 = R := (FrW_rv f2 row85 row87 (by omega)).trans b7
    simp (disch := omega) only [s81_0, s81_1, s81_4, s81_5, s81_8, s81_9, s81_12, s81_15, s81_16, s81_17, s81_20, s81_21, s81_22, s81_25, s81_26, s81_29, s81_31, s81_32, s81_35, s81_36, s81_39, s81_40, s81_41, s81_42, s81_45, s81_48, s81_50, s81_51, s81_54, s81_55, s81_58, s81_59, s81_60, s81_61, s81_64, s81_67, s81_69, s81_70, s81_73, s81_74, s81_77, s81_78, s81_79, s81_80, s81_83, s81_86, s81_88, s81_89, s81_124, s81_125, s81_127, s81_128, s81_129, s81_131, s81_133, s81_136, s81_137, s81_138, s81_140, s81_142, s81_145, s81_148, s81_151, s81_152, s81_154, s81_156, s81_157, s81_158, s81_160, s81_162, s81_165, s81_168, s81_171, s81_172, s81_174, s81_175, s81_176, s81_178, s81_180, s81_183, s81_185, s81_188, s81_191, s81_192, s81_195, s81_197, s81_198, s81_201, s81_202, s81_205, s81_207, s81_209, s81_213, s81_214, s81_217, List.cons_append, List.nil_append, if_true, if_false, true_and, and_true, and_self, eq_self, true_or, or_true, false_or, or_false, tIn, tLe, fLe, tLt, fLt, tEq, fEq, isL]
    refine fin σ2 _ _ [] _ _ _ _ _ es hs (by simp) (TGI_new hs hW a3 hI k2 ?_ ?_ ?_ (fun i hi hn => ?_) ⟨?_, fun z => absurd z (by show ¬ ((2 : Int) = 1); decide)⟩ (fun k hk => by simp at hk) (fun a ha => by rw [f2 a (by omega) (by omega), f1 a (by omega) (by omega)]))
    · rw [FrW_rv f2 row85 row83 (by omega), w1']
      unfold lset
      rw [if_pos (by omega), Int.toNat_natCast]
      simp [List.map_set]
    · rw [w2', lset_len, d1]; simp
    · rw [e7, d2]; simp
    · rw [w2', e7, lset_at (by omega), if_neg hn]; exact ⟨rfl, fun _ => rfl⟩
    · rw [w2', lset_at (by omega), if_pos rfl]
  · -- K
    obtain ⟨es, hs⟩ := S_75 hW h0 e c1
    have x1 := rx 1 (by omega) (by omega)
    have x2 := rx 2 (by omega) (by omega)
    have eh2 : (h : Int) - 2 = ((h - 2 : Nat) : Int) := by omega
    rw [c1] at w1 em
    have hw := hs.1
    simp (disch := omega) only [s81_0, s81_1, s81_4, s81_5, s81_8, s81_9, s81_12, s81_15, s81_16, s81_17, s81_20, s81_21, s81_22, s81_25, s81_26, s81_29, s81_31, s81_32, s81_35, s81_36, s81_39, s81_40, s81_41, s81_42, s81_45, s81_48, s81_50, s81_51, s81_54, s81_55, s81_58, s81_59, s81_60, s81_61, s81_64, s81_67, s81_69, s81_70, s81_73, s81_74, s81_77, s81_78, s81_79, s81_80, s81_83, s81_86, s81_88, s81_89, s81_124, s81_125, s81_127, s81_128, s81_129, s81_131, s81_133, s81_136, s81_137, s81_138, s81_140, s81_142, s81_145, s81_148, s81_151, s81_152, s81_154, s81_156, s81_157, s81_158, s81_160, s81_162, s81_165, s81_168, s81_171, s81_172, s81_174, s81_175, s81_176, s81_178, s81_180, s81_183, s81_185, s81_188, s81_191, s81_192, s81_195, s81_197, s81_198, s81_201, s81_202, s81_205, s81_207, s81_209, s81_213, s81_214, s81_217, List.cons_append, List.nil_append, if_true, if_false, true_and, and_true, and_self, eq_self, true_or, or_true, false_or, or_false, tIn, tLe, fLe, tLt, fLt, tEq, fEq, isL, row83.1, row89.1, row87.1, row85.1, c30 row89 a1, a6, lI, c30 row83 a1, a2, em, c119, w1, eh1, eh2, c30 row87 a1, ← hR, x1, x2]
    refine rset_ok row83 a1 a2 _ (fun σ1 k1 w1' f1 => ?_)
    have b5 : rv σ1 85 = L := by rw [hL]; exact FrW_rv f1 row83 row85 (by omega)
    have b7 : rv σ1 87 = R := by rw [hR]; exact FrW_rv f1 row83 row87 (by omega)
    simp (disch := omega) only [s81_0, s81_1, s81_4, s81_5, s81_8, s81_9, s81_12, s81_15, s81_16, s81_17, s81_20, s81_21, s81_22, s81_25, s81_26, s81_29, s81_31, s81_32, s81_35, s81_36, s81_39, s81_40, s81_41, s81_42, s81_45, s81_48, s81_50, s81_51, s81_54, s81_55, s81_58, s81_59, s81_60, s81_61, s81_64, s81_67, s81_69, s81_70, s81_73, s81_74, s81_77, s81_78, s81_79, s81_80, s81_83, s81_86, s81_88, s81_89, s81_124, s81_125, s81_127, s81_128, s81_129, s81_131, s81_133, s81_136, s81_137, s81_138, s81_140, s81_142, s81_145, s81_148, s81_151, s81_152, s81_154, s81_156, s81_157, s81_158, s81_160, s81_162, s81_165, s81_168, s81_171, s81_172, s81_174, s81_175, s81_176, s81_178, s81_180, s81_183, s81_185, s81_188, s81_191, s81_192, s81_195, s81_197, s81_198, s81_201, s81_202, s81_205, s81_207, s81_209, s81_213, s81_214, s81_217, List.cons_append, List.nil_append, if_true, if_false, true_and, and_true, and_self, eq_self, true_or, or_true, false_or, or_false, tIn, tLe, fLe, tLt, fLt, tEq, fEq, isL, row85.1]
    refine rset_ok row85 k1 b5 _ (fun σ2 k2 w2' f2 => ?_)
    have e7 : rv σ2 87 = R := (FrW_rv f2 row85 row87 (by omega)).trans b7
    simp (disch := omega) only [s81_0, s81_1, s81_4, s81_5, s81_8, s81_9, s81_12, s81_15, s81_16, s81_17, s81_20, s81_21, s81_22, s81_25, s81_26, s81_29, s81_31, s81_32, s81_35, s81_36, s81_39, s81_40, s81_41, s81_42, s81_45, s81_48, s81_50, s81_51, s81_54, s81_55, s81_58, s81_59, s81_60, s81_61, s81_64, s81_67, s81_69, s81_70, s81_73, s81_74, s81_77, s81_78, s81_79, s81_80, s81_83, s81_86, s81_88, s81_89, s81_124, s81_125, s81_127, s81_128, s81_129, s81_131, s81_133, s81_136, s81_137, s81_138, s81_140, s81_142, s81_145, s81_148, s81_151, s81_152, s81_154, s81_156, s81_157, s81_158, s81_160, s81_162, s81_165, s81_168, s81_171, s81_172, s81_174, s81_175, s81_176, s81_178, s81_180, s81_183, s81_185, s81_188, s81_191, s81_192, s81_195, s81_197, s81_198, s81_201, s81_202, s81_205, s81_207, s81_209, s81_213, s81_214, s81_217, List.cons_append, List.nil_append, if_true, if_false, true_and, and_true, and_self, eq_self, true_or, or_true, false_or, or_false, tIn, tLe, fLe, tLt, fLt, tEq, fEq, isL]
    refine fin σ2 _ _ [] _ _ _ _ _ es hs (by simp) (TGI_new hs hW a3 hI k2 ?_ ?_ ?_ (fun i hi hn => ?_) ⟨?_, fun z => absurd z (by show ¬ ((2 : Int) = 1); decide)⟩ (fun k hk => by simp at hk) (fun a ha => by rw [f2 a (by omega) (by omega), f1 a (by omega) (by omega)]))
    · rw [FrW_rv f2 row85 row83 (by omega), w1']
      unfold lset
      rw [if_pos (by omega), Int.toNat_natCast]
      simp [List.map_set]
    · rw [w2', lset_len, d1]; simp
    · rw [e7, d2]; simp
    · rw [w2', e7, lset_at (by omega), if_neg hn]; exact ⟨rfl, fun _ => rfl⟩
    · rw [w2', lset_at (by omega), if_pos rfl]
  · -- S
    obtain ⟨es, hs⟩ := S_83 hW h0 e c1
    obtain ⟨eh2, eh3, x1, x2, x3⟩ := cases3 w1
    have hw := hs.1
    have hcw := hs.2.1
    rw [c1] at w1 em
    have n1 : ((G.map (fun v => v.1)).length : Int) = (G.length : Int) := by simp
    simp (disch := omega) only [s81_0, s81_1, s81_4, s81_5, s81_8, s81_9, s81_12, s81_15, s81_16, s81_17, s81_20, s81_21, s81_22, s81_25, s81_26, s81_29, s81_31, s81_32, s81_35, s81_36, s81_39, s81_40, s81_41, s81_42, s81_45, s81_48, s81_50, s81_51, s81_54, s81_55, s81_58, s81_59, s81_60, s81_61, s81_64, s81_67, s81_69, s81_70, s81_73, s81_74, s81_77, s81_78, s81_79, s81_80, s81_83, s81_86, s81_88, s81_89, s81_124, s81_125, s81_127, s81_128, s81_129, s81_131, s81_133, s81_136, s81_137, s81_138, s81_140, s81_142, s81_145, s81_148, s81_151, s81_152, s81_154, s81_156, s81_157, s81_158, s81_160, s81_162, s81_165, s81_168, s81_171, s81_172, s81_174, s81_175, s81_176, s81_178, s81_180, s81_183, s81_185, s81_188, s81_191, s81_192, s81_195, s81_197, s81_198, s81_201, s81_202, s81_205, s81_207, s81_209, s81_213, s81_214, s81_217, List.cons_append, List.nil_append, if_true, if_false, true_and, and_true, and_self, eq_self, true_or, or_true, false_or, or_false, tIn, tLe, fLe, tLt, fLt, tEq, fEq, isL, row83.1, row89.1, row87.1, row85.1, c30 row89 a1, a6, lI, c30 row83 a1, a2, em, c119, w1, eh1, eh2, eh3, c30 row87 a1, ← hR, x1, x2, x3]
    refine wr82 a1 a2 hL.symm hR.symm (by rw [cl']; omega) (by omega) (by omega) _ (fun σ1 k1 u3 u5 u7 f1 => ?_)
    simp (disch := omega) only [s81_0, s81_1, s81_4, s81_5, s81_8, s81_9, s81_12, s81_15, s81_16, s81_17, s81_20, s81_21, s81_22, s81_25, s81_26, s81_29, s81_31, s81_32, s81_35, s81_36, s81_39, s81_40, s81_41, s81_42, s81_45, s81_48, s81_50, s81_51, s81_54, s81_55, s81_58, s81_59, s81_60, s81_61, s81_64, s81_67, s81_69, s81_70, s81_73, s81_74, s81_77, s81_78, s81_79, s81_80, s81_83, s81_86, s81_88, s81_89, s81_124, s81_125, s81_127, s81_128, s81_129, s81_131, s81_133, s81_136, s81_137, s81_138, s81_140, s81_142, s81_145, s81_148, s81_151, s81_152, s81_154, s81_156, s81_157, s81_158, s81_160, s81_162, s81_165, s81_168, s81_171, s81_172, s81_174, s81_175, s81_176, s81_178, s81_180, s81_183, s81_185, s81_188, s81_191, s81_192, s81_195, s81_197, s81_198, s81_201, s81_202, s81_205, s81_207, s81_209, s81_213, s81_214, s81_217, List.cons_append, List.nil_append, if_true, if_false, true_and, and_true, and_self, eq_self, true_or, or_true, false_or, or_false, tIn, tLe, fLe, tLt, fLt, tEq, fEq, isL]
    refine wr82 k1 u3 u5 u7 (by simp; omega) (by simp; omega) (by simp; omega) _ (fun σ2 k2 y3 y5 y7 f2 => ?_)
    simp (disch := omega) only [s81_0, s81_1, s81_4, s81_5, s81_8, s81_9, s81_12, s81_15, s81_16, s81_17, s81_20, s81_21, s81_22, s81_25, s81_26, s81_29, s81_31, s81_32, s81_35, s81_36, s81_39, s81_40, s81_41, s81_42, s81_45, s81_48, s81_50, s81_51, s81_54, s81_55, s81_58, s81_59, s81_60, s81_61, s81_64, s81_67, s81_69, s81_70, s81_73, s81_74, s81_77, s81_78, s81_79, s81_80, s81_83, s81_86, s81_88, s81_89, s81_124, s81_125, s81_127, s81_128, s81_129, s81_131, s81_133, s81_136, s81_137, s81_138, s81_140, s81_142, s81_145, s81_148, s81_151, s81_152, s81_154, s81_156, s81_157, s81_158, s81_160, s81_162, s81_165, s81_168, s81_171, s81_172, s81_174, s81_175, s81_176, s81_178, s81_180, s81_183, s81_185, s81_188, s81_191, s81_192, s81_195, s81_197, s81_198, s81_201, s81_202, s81_205, s81_207, s81_209, s81_213, s81_214, s81_217, List.cons_append, List.nil_append, if_true, if_false, true_and, and_true, and_self, eq_self, true_or, or_true, false_or, or_false, tIn, tLe, fLe, tLt, fLt, tEq, fEq, isL]
    refine wr83 k2 y5 y7 _ (fun σ3 k3 z5 z7 z3 f3 => ?_)
    simp (disch := omega) only [s81_0, s81_1, s81_4, s81_5, s81_8, s81_9, s81_12, s81_15, s81_16, s81_17, s81_20, s81_21, s81_22, s81_25, s81_26, s81_29, s81_31, s81_32, s81_35, s81_36, s81_39, s81_40, s81_41, s81_42, s81_45, s81_48, s81_50, s81_51, s81_54, s81_55, s81_58, s81_59, s81_60, s81_61, s81_64, s81_67, s81_69, s81_70, s81_73, s81_74, s81_77, s81_78, s81_79, s81_80, s81_83, s81_86, s81_88, s81_89, s81_124, s81_125, s81_127, s81_128, s81_129, s81_131, s81_133, s81_136, s81_137, s81_138, s81_140, s81_142, s81_145, s81_148, s81_151, s81_152, s81_154, s81_156, s81_157, s81_158, s81_160, s81_162, s81_165, s81_168, s81_171, s81_172, s81_174, s81_175, s81_176, s81_178, s81_180, s81_183, s81_185, s81_188, s81_191, s81_192, s81_195, s81_197, s81_198, s81_201, s81_202, s81_205, s81_207, s81_209, s81_213, s81_214, s81_217, List.cons_append, List.nil_append, if_true, if_false, true_and, and_true, and_self, eq_self, true_or, or_true, false_or, or_false, tIn, tLe, fLe, tLt, fLt, tEq, fEq, isL]
    have Ll : (L ++ [(rt G (idN (idG G) (h - 1)) : Int)] ++ [(rt G (idN (idG G) (h - 2)) : Int)]).length = G.length + 2 := by simp; omega
    have Rl' : (R ++ [(rt G (idN (idG G) (h - 3)) : Int)] ++ [(rt G (idN (idG G) (h - 3)) : Int)]).length = G.length + 2 := by simp; omega
    refine fin σ3 _ _ _ _ _ _ _ _ es hs (by simp) (TGI_new hs hW a3 hI k3 ?_ ?_ ?_ (fun i hi hn => ?_) ⟨?_, fun _ => ?_⟩ (fun k hk => ?_) (fun a ha => by rw [f3 a ha, f2 a ha, f1 a ha]))
    · rw [z3, y3, List.map_append, map_set1 hw (by rw [hcw])]; simp
    · rw [z5, lset_len, Ll]; simp
    · rw [z7, lset_len, Rl']; simp
    · rw [z5, z7, lset_at (by omega), lset_at (by omega), if_neg hn, if_neg hn]
      refine ⟨?_, fun _ => ?_⟩
      · rw [List.append_assoc, lat_app1 (by omega)]
      · rw [List.append_assoc, lat_app1 (by omega)]
    · rw [z5, lset_at (by omega), if_pos rfl]; simp
    · rw [z7, lset_at (by omega), if_pos rfl]; simp
    · have hk2 : k < 2 := by simpa using hk
      rw [z5, z7, lset_at (by omega), lset_at (by omega), if_neg (by omega), if_neg (by omega), List.append_assoc, List.append_assoc]
      have q1 := lat_app2 (l := L) (m := [(rt G (idN (idG G) (h - 1)) : Int)] ++ [(rt G (idN (idG G) (h - 2)) : Int)]) (k := k) (by simpa using hk2)
      have q2 := lat_app2 (l := R) (m := [(rt G (idN (idG G) (h - 3)) : Int)] ++ [(rt G (idN (idG G) (h - 3)) : Int)]) (k := k) (by simpa using hk2)
      rw [d1] at q1
      rw [d2] at q2
      rw [q1, q2]
      rcases (show k = 0 ∨ k = 1 by omega) with rfl | rfl <;> exact ⟨rfl, rfl⟩
  · -- B
    obtain ⟨es, hs⟩ := S_66 hW h0 e c1
    obtain ⟨eh2, eh3, x1, x2, x3⟩ := cases3 w1
    have hw := hs.1
    have hcw := hs.2.1
    rw [c1] at w1 em
    simp (disch := omega) only [s81_0, s81_1, s81_4, s81_5, s81_8, s81_9, s81_12, s81_15, s81_16, s81_17, s81_20, s81_21, s81_22, s81_25, s81_26, s81_29, s81_31, s81_32, s81_35, s81_36, s81_39, s81_40, s81_41, s81_42, s81_45, s81_48, s81_50, s81_51, s81_54, s81_55, s81_58, s81_59, s81_60, s81_61, s81_64, s81_67, s81_69, s81_70, s81_73, s81_74, s81_77, s81_78, s81_79, s81_80, s81_83, s81_86, s81_88, s81_89, s81_124, s81_125, s81_127, s81_128, s81_129, s81_131, s81_133, s81_136, s81_137, s81_138, s81_140, s81_142, s81_145, s81_148, s81_151, s81_152, s81_154, s81_156, s81_157, s81_158, s81_160, s81_162, s81_165, s81_168, s81_171, s81_172, s81_174, s81_175, s81_176, s81_178, s81_180, s81_183, s81_185, s81_188, s81_191, s81_192, s81_195, s81_197, s81_198, s81_201, s81_202, s81_205, s81_207, s81_209, s81_213, s81_214, s81_217, List.cons_append, List.nil_append, if_true, if_false, true_and, and_true, and_self, eq_self, true_or, or_true, false_or, or_false, tIn, tLe, fLe, tLt, fLt, tEq, fEq, isL, row83.1, row89.1, row87.1, row85.1, c30 row89 a1, a6, lI, c30 row83 a1, a2, em, c119, w1, eh1, eh2, eh3, c30 row87 a1, ← hR, x1, x2, x3]
    refine wr82 a1 a2 hL.symm hR.symm (by rw [cl']; omega) (by omega) (by omega) _ (fun σ1 k1 u3 u5 u7 f1 => ?_)
    simp (disch := omega) only [s81_0, s81_1, s81_4, s81_5, s81_8, s81_9, s81_12, s81_15, s81_16, s81_17, s81_20, s81_21, s81_22, s81_25, s81_26, s81_29, s81_31, s81_32, s81_35, s81_36, s81_39, s81_40, s81_41, s81_42, s81_45, s81_48, s81_50, s81_51, s81_54, s81_55, s81_58, s81_59, s81_60, s81_61, s81_64, s81_67, s81_69, s81_70, s81_73, s81_74, s81_77, s81_78, s81_79, s81_80, s81_83, s81_86, s81_88, s81_89, s81_124, s81_125, s81_127, s81_128, s81_129, s81_131, s81_133, s81_136, s81_137, s81_138, s81_140, s81_142, s81_145, s81_148, s81_151, s81_152, s81_154, s81_156, s81_157, s81_158, s81_160, s81_162, s81_165, s81_168, s81_171, s81_172, s81_174, s81_175, s81_176, s81_178, s81_180, s81_183, s81_185, s81_188, s81_191, s81_192, s81_195, s81_197, s81_198, s81_201, s81_202, s81_205, s81_207, s81_209, s81_213, s81_214, s81_217, List.cons_append, List.nil_append, if_true, if_false, true_and, and_true, and_self, eq_self, true_or, or_true, false_or, or_false, tIn, tLe, fLe, tLt, fLt, tEq, fEq, isL]
    refine wr83 k1 u5 u7 _ (fun σ3 k3 z5 z7 z3 f3 => ?_)
    simp (disch := omega) only [s81_0, s81_1, s81_4, s81_5, s81_8, s81_9, s81_12, s81_15, s81_16, s81_17, s81_20, s81_21, s81_22, s81_25, s81_26, s81_29, s81_31, s81_32, s81_35, s81_36, s81_39, s81_40, s81_41, s81_42, s81_45, s81_48, s81_50, s81_51, s81_54, s81_55, s81_58, s81_59, s81_60, s81_61, s81_64, s81_67, s81_69, s81_70, s81_73, s81_74, s81_77, s81_78, s81_79, s81_80, s81_83, s81_86, s81_88, s81_89, s81_124, s81_125, s81_127, s81_128, s81_129, s81_131, s81_133, s81_136, s81_137, s81_138, s81_140, s81_142, s81_145, s81_148, s81_151, s81_152, s81_154, s81_156, s81_157, s81_158, s81_160, s81_162, s81_165, s81_168, s81_171, s81_172, s81_174, s81_175, s81_176, s81_178, s81_180, s81_183, s81_185, s81_188, s81_191, s81_192, s81_195, s81_197, s81_198, s81_201, s81_202, s81_205, s81_207, s81_209, s81_213, s81_214, s81_217, List.cons_append, List.nil_append, if_true, if_false, true_and, and_true, and_self, eq_self, true_or, or_true, false_or, or_false, tIn, tLe, fLe, tLt, fLt, tEq, fEq, isL]
    have Ll : (L ++ [(rt G (idN (idG G) (h - 2)) : Int)]).length = G.length + 1 := by simp; omega
    have Rl' : (R ++ [(rt G (idN (idG G) (h - 3)) : Int)]).length = G.length + 1 := by simp; omega
    refine fin σ3 _ _ _ _ _ _ _ _ es hs (by simp) (TGI_new hs hW a3 hI k3 ?_ ?_ ?_ (fun i hi hn => ?_) ⟨?_, fun _ => ?_⟩ (fun k hk => ?_) (fun a ha => by rw [f3 a ha, f1 a ha]))
    · rw [z3, u3, List.map_append, map_set1 hw (by rw [hcw])]; simp
    · rw [z5, lset_len, Ll]; simp
    · rw [z7, lset_len, Rl']; simp
    · rw [z5, z7, lset_at (by omega), lset_at (by omega), if_neg hn, if_neg hn]
      refine ⟨?_, fun _ => ?_⟩
      · rw [lat_app1 (by omega)]
      · rw [lat_app1 (by omega)]
    · rw [z5, lset_at (by omega), if_pos rfl]
    · rw [z7, lset_at (by omega), if_pos rfl]; simp
    · have hk2 : k < 1 := by simpa using hk
      rw [z5, z7, lset_at (by omega), lset_at (by omega), if_neg (by omega), if_neg (by omega)]
      have q1 := lat_app2 (l := L) (m := [(rt G (idN (idG G) (h - 2)) : Int)]) (k := k) (by simpa using hk2)
      have q2 := lat_app2 (l := R) (m := [(rt G (idN (idG G) (h - 3)) : Int)]) (k := k) (by simpa using hk2)
      rw [d1] at q1
      rw [d2] at q2
      rw [q1, q2]
      rcases (show k = 0 by omega) with rfl
      exact ⟨rfl, rfl⟩
  · -- C
    obtain ⟨es, hs⟩ := S_67 hW h0 e c1
    obtain ⟨eh2, eh3, x1, x2, x3⟩ := cases3 w1
    have hw := hs.1
    have hcw := hs.2.1
    rw [c1] at w1 em
    simp (disch := omega) only [s81_0, s81_1, s81_4, s81_5, s81_8, s81_9, s81_12, s81_15, s81_16, s81_17, s81_20, s81_21, s81_22, s81_25, s81_26, s81_29, s81_31, s81_32, s81_35, s81_36, s81_39, s81_40, s81_41, s81_42, s81_45, s81_48, s81_50, s81_51, s81_54, s81_55, s81_58, s81_59, s81_60, s81_61, s81_64, s81_67, s81_69, s81_70, s81_73, s81_74, s81_77, s81_78, s81_79, s81_80, s81_83, s81_86, s81_88, s81_89, s81_124, s81_125, s81_127, s81_128, s81_129, s81_131, s81_133, s81_136, s81_137, s81_138, s81_140, s81_142, s81_145, s81_148, s81_151, s81_152, s81_154, s81_156, s81_157, s81_158, s81_160, s81_162, s81_165, s81_168, s81_171, s81_172, s81_174, s81_175, s81_176, s81_178, s81_180, s81_183, s81_185, s81_188, s81_191, s81_192, s81_195, s81_197, s81_198, s81_201, s81_202, s81_205, s81_207, s81_209, s81_213, s81_214, s81_217, List.cons_append, List.nil_append, if_true, if_false, true_and, and_true, and_self, eq_self, true_or, or_true, false_or, or_false, tIn, tLe, fLe, tLt, fLt, tEq, fEq, isL, row83.1, row89.1, row87.1, row85.1, c30 row89 a1, a6, lI, c30 row83 a1, a2, em, c119, w1, eh1, eh2, eh3, c30 row87 a1, ← hR, x1, x2, x3]
    refine wr82 a1 a2 hL.symm hR.symm (by rw [cl']; omega) (by omega) (by omega) _ (fun σ1 k1 u3 u5 u7 f1 => ?_)
    simp (disch := omega) only [s81_0, s81_1, s81_4, s81_5, s81_8, s81_9, s81_12, s81_15, s81_16, s81_17, s81_20, s81_21, s81_22, s81_25, s81_26, s81_29, s81_31, s81_32, s81_35, s81_36, s81_39, s81_40, s81_41, s81_42, s81_45, s81_48, s81_50, s81_51, s81_54, s81_55, s81_58, s81_59, s81_60, s81_61, s81_64, s81_67, s81_69, s81_70, s81_73, s81_74, s81_77, s81_78, s81_79, s81_80, s81_83, s81_86, s81_88, s81_89, s81_124, s81_125, s81_127, s81_128, s81_129, s81_131, s81_133, s81_136, s81_137, s81_138, s81_140, s81_142, s81_145, s81_148, s81_151, s81_152, s81_154, s81_156, s81_157, s81_158, s81_160, s81_162, s81_165, s81_168, s81_171, s81_172, s81_174, s81_175, s81_176, s81_178, s81_180, s81_183, s81_185, s81_188, s81_191, s81_192, s81_195, s81_197, s81_198, s81_201, s81_202, s81_205, s81_207, s81_209, s81_213, s81_214, s81_217, List.cons_append, List.nil_append, if_true, if_false, true_and, and_true, and_self, eq_self, true_or, or_true, false_or, or_false, tIn, tLe, fLe, tLt, fLt, tEq, fEq, isL]
    refine wr83 k1 u5 u7 _ (fun σ3 k3 z5 z7 z3 f3 => ?_)
    simp (disch := omega) only [s81_0, s81_1, s81_4, s81_5, s81_8, s81_9, s81_12, s81_15, s81_16, s81_17, s81_20, s81_21, s81_22, s81_25, s81_26, s81_29, s81_31, s81_32, s81_35, s81_36, s81_39, s81_40, s81_41, s81_42, s81_45, s81_48, s81_50, s81_51, s81_54, s81_55, s81_58, s81_59, s81_60, s81_61, s81_64, s81_67, s81_69, s81_70, s81_73, s81_74, s81_77, s81_78, s81_79, s81_80, s81_83, s81_86, s81_88, s81_89, s81_124, s81_125, s81_127, s81_128, s81_129, s81_131, s81_133, s81_136, s81_137, s81_138, s81_140, s81_142, s81_145, s81_148, s81_151, s81_152, s81_154, s81_156, s81_157, s81_158, s81_160, s81_162, s81_165, s81_168, s81_171, s81_172, s81_174, s81_175, s81_176, s81_178, s81_180, s81_183, s81_185, s81_188, s81_191, s81_192, s81_195, s81_197, s81_198, s81_201, s81_202, s81_205, s81_207, s81_209, s81_213, s81_214, s81_217, List.cons_append, List.nil_append, if_true, if_false, true_and, and_true, and_self, eq_self, true_or, or_true, false_or, or_false, tIn, tLe, fLe, tLt, fLt, tEq, fEq, isL]
    have Ll : (L ++ [(rt G (idN (idG G) (h - 1)) : Int)]).length = G.length + 1 := by simp; omega
    have Rl' : (R ++ [(rt G (idN (idG G) (h - 3)) : Int)]).length = G.length + 1 := by simp; omega
    refine fin σ3 _ _ _ _ _ _ _ _ es hs (by simp) (TGI_new hs hW a3 hI k3 ?_ ?_ ?_ (fun i hi hn => ?_) ⟨?_, fun _ => ?_⟩ (fun k hk => ?_) (fun a ha => by rw [f3 a ha, f1 a ha]))
    · rw [z3, u3, List.map_append, map_set1 hw (by rw [hcw])]; simp
    · rw [z5, lset_len, Ll]; simp
    · rw [z7, lset_len, Rl']; simp
    · rw [z5, z7, lset_at (by omega), lset_at (by omega), if_neg hn, if_neg hn]
      refine ⟨?_, fun _ => ?_⟩
      · rw [lat_app1 (by omega)]
      · rw [lat_app1 (by omega)]
    · rw [z5, lset_at (by omega), if_pos rfl]; simp
    · rw [z7, lset_at (by omega), if_pos rfl]
    · have hk2 : k < 1 := by simpa using hk
      rw [z5, z7, lset_at (by omega), lset_at (by omega), if_neg (by omega), if_neg (by omega)]
      have q1 := lat_app2 (l := L) (m := [(rt G (idN (idG G) (h - 1)) : Int)]) (k := k) (by simpa using hk2)
      have q2 := lat_app2 (l := R) (m := [(rt G (idN (idG G) (h - 3)) : Int)]) (k := k) (by simpa using hk2)
      rw [d1] at q1
      rw [d2] at q2
      rw [q1, q2]
      rcases (show k = 0 by omega) with rfl
      exact ⟨rfl, rfl⟩
end THT
