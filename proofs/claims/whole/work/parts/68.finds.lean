/-! the reference: finds -/
def w9 (c : Int) : Int := if wnt c = 0 then 999 else wnt c
def ars (T : List Int) : Nat → Nat → List Nat
  | 0, _ => []
  | k + 1, q => q :: ars T k (te T q)
def itr (T : List Int) : Nat → Nat → Nat
  | 0, q => q
  | k + 1, q => itr T k (te T q)
def cfo (T : List Int) : List Nat → Nat → Prop
  | [], q => q = T.length
  | p :: ps, q => p = q ∧ p < T.length ∧ cfo T ps (te T p)
def lNI (l : List Nat) : List Int := l.map (fun d : Nat => (d : Int))
section FND
variable {σ σ0 σ' : aSg} {K : List AV → aSg → Prop} {x y z i n c : Int} {S : SS} {T W st F R s : List Int} {r q t j k p h : Nat} {a b d : Tm}
theorem wnt_in : 0 ≤ wnt c ∧ wnt c ≤ 3 := by
  unfold wnt
  repeat' split
  all_goals omega
theorem te_all (hT : isT T) : te T 0 = T.length := by
  unfold te
  simp [tlen_T hT]
theorem c165 (h : tok c) : CA m165 [.inl (tau c)] σ K = K [.inl (w9 c)] σ := by
  rw [e165]
  have h' := h
  unfold tok at h'
  unfold w9 wnt tau
  rcases h' with rfl | rfl | rfl | rfl | rfl | rfl | h' | h'
  · simp (disch := omega) only [s165_0, s165_1, s165_2, s165_5, s165_6, s165_9, s165_10, s165_11, s165_14, s165_15, s165_18, s165_19, s165_20, s165_23, s165_26, s165_29, s165_32, s165_33, s165_36, s165_39, List.cons_append, List.nil_append, if_true, if_false, true_and, and_true, and_self, eq_self, true_or, or_true, false_or, or_false, tIn, tLe, fLe, tLt, fLt, tEq, fEq, isL, c127]
  · simp (disch := omega) only [s165_0, s165_1, s165_2, s165_5, s165_6, s165_9, s165_10, s165_11, s165_14, s165_15, s165_18, s165_19, s165_20, s165_23, s165_26, s165_29, s165_32, s165_33, s165_36, s165_39, List.cons_append, List.nil_append, if_true, if_false, true_and, and_true, and_self, eq_self, true_or, or_true, false_or, or_false, tIn, tLe, fLe, tLt, fLt, tEq, fEq, isL]
  · simp (disch := omega) only [s165_0, s165_1, s165_2, s165_5, s165_6, s165_9, s165_10, s165_11, s165_14, s165_15, s165_18, s165_19, s165_20, s165_23, s165_26, s165_29, s165_32, s165_33, s165_36, s165_39, List.cons_append, List.nil_append, if_true, if_false, true_and, and_true, and_self, eq_self, true_or, or_true, false_or, or_false, tIn, tLe, fLe, tLt, fLt, tEq, fEq, isL]
  · simp (disch := omega) only [s165_0, s165_1, s165_2, s165_5, s165_6, s165_9, s165_10, s165_11, s165_14, s165_15, s165_18, s165_19, s165_20, s165_23, s165_26, s165_29, s165_32, s165_33, s165_36, s165_39, List.cons_append, List.nil_append, if_true, if_false, true_and, and_true, and_self, eq_self, true_or, or_true, false_or, or_false, tIn, tLe, fLe, tLt, fLt, tEq, fEq, isL, c127]
  · simp (disch := omega) only [s165_0, s165_1, s165_2, s165_5, s165_6, s165_9, s165_10, s165_11, s165_14, s165_15, s165_18, s165_19, s165_20, s165_23, s165_26, s165_29, s165_32, s165_33, s165_36, s165_39, List.cons_append, List.nil_append, if_true, if_false, true_and, and_true, and_self, eq_self, true_or, or_true, false_or, or_false, tIn, tLe, fLe, tLt, fLt, tEq, fEq, isL, c127]
  · simp (disch := omega) only [s165_0, s165_1, s165_2, s165_5, s165_6, s165_9, s165_10, s165_11, s165_14, s165_15, s165_18, s165_19, s165_20, s165_23, s165_26, s165_29, s165_32, s165_33, s165_36, s165_39, List.cons_append, List.nil_append, if_true, if_false, true_and, and_true, and_self, eq_self, true_or, or_true, false_or, or_false, tIn, tLe, fLe, tLt, fLt, tEq, fEq, isL, c127]
  · have g : ¬ (3 ≤ c ∧ c ≤ 5) := by omega
    simp (disch := omega) only [s165_0, s165_1, s165_2, s165_5, s165_6, s165_9, s165_10, s165_11, s165_14, s165_15, s165_18, s165_19, s165_20, s165_23, s165_26, s165_29, s165_32, s165_33, s165_36, s165_39, List.cons_append, List.nil_append, if_true, if_false, true_and, and_true, and_self, eq_self, true_or, or_true, false_or, or_false, tIn, tLe, fLe, tLt, fLt, tEq, fEq, isL, c127, g]
  · have g : ¬ (3 ≤ c ∧ c ≤ 5) := by omega
    simp (disch := omega) only [s165_0, s165_1, s165_2, s165_5, s165_6, s165_9, s165_10, s165_11, s165_14, s165_15, s165_18, s165_19, s165_20, s165_23, s165_26, s165_29, s165_32, s165_33, s165_36, s165_39, List.cons_append, List.nil_append, if_true, if_false, true_and, and_true, and_self, eq_self, true_or, or_true, false_or, or_false, tIn, tLe, fLe, tLt, fLt, tEq, fEq, isL, c127, g]
theorem itr_s (T : List Int) : ∀ (k q : Nat), itr T (k + 1) q = te T (itr T k q) := by
  intro k
  induction k with
  | zero => intro q; rfl
  | succ k ih => intro q; rw [itr, ih]; rfl
theorem ars_s (T : List Int) : ∀ (k q : Nat), ars T (k + 1) q = ars T k q ++ [itr T k q] := by
  intro k
  induction k with
  | zero => intro q; rfl
  | succ k ih => intro q; rw [ars, ih]; rfl
theorem ars_len (T : List Int) : ∀ (k q : Nat), (ars T k q).length = k := by
  intro k
  induction k with
  | zero => intro q; rfl
  | succ k ih => intro q; simp [ars, ih]
/-- the puts ahead of a head -/
theorem spine_ok (hT : isT T) (ha : arT c = 0) : ∀ (k p : Nat), (∀ j, j < k → T[p + j]? = some 1) → T[p + k]? = some c → itr T k (p + k + 1) = te T p ∧ ∀ j, j < k → itr T j (p + k + 1) < T.length := by
  intro k
  induction k with
  | zero => intro p _ h; exact ⟨by rw [itr, te_0 hT (by simpa using h) ha], fun j hj => by omega⟩
  | succ k ih =>
    intro p h1 h2
    have h0 : T[p]? = some 1 := by simpa using h1 0 (by omega)
    obtain ⟨g1, g2, g3⟩ := te_2 hT h0 rfl
    obtain ⟨q1, q2⟩ := ih (p + 1) (fun j hj => by have := h1 (j + 1) (by omega); rw [show p + (j + 1) = p + 1 + j by omega] at this; exact this) (by rw [show p + 1 + k = p + (k + 1) by omega]; exact h2)
    rw [show p + 1 + k + 1 = p + (k + 1) + 1 by omega] at q1 q2
    refine ⟨by rw [itr_s, q1, ← g3], fun j hj => ?_⟩
    by_cases e : j = k
    · rw [e, q1]; exact g2
    · exact q2 j (by omega)
theorem cfo_ars : ∀ (k q : Nat) (ps : List Nat), (∀ j, j < k → itr T j q < T.length) → cfo T ps (itr T k q) → cfo T (ars T k q ++ ps) q := by
  intro k
  induction k with
  | zero => intro q ps _ h; exact h
  | succ k ih =>
    intro q ps h1 h2
    exact ⟨rfl, h1 0 (by omega), ih (te T q) ps (fun j hj => h1 (j + 1) (by omega)) h2⟩
theorem cfo_len (hT : isT T) : ∀ (ps : List Nat) (q : Nat), cfo T ps q → ps.length + q ≤ T.length := by
  intro ps
  induction ps with
  | nil => intro q h; have : q = T.length := h; simp; omega
  | cons p ps ih =>
    intro q h
    obtain ⟨rfl, h2, h3⟩ := h
    have := ih _ h3
    have := te_gt hT h2
    simp; omega
theorem scn_puts : ∀ (k p o : Nat), (∀ j, j < k → T[p + j]? = some 1) → scn (T.drop p) o p = scn (T.drop (p + k)) (o + k) (p + k) := by
  intro k
  induction k with
  | zero => intro p o _; rfl
  | succ k ih =>
    intro p o h
    have h0 : T[p]? = some 1 := by simpa using h 0 (by omega)
    obtain ⟨hp, e⟩ := List.getElem?_eq_some_iff.mp h0
    have hd : T.drop p = 1 :: T.drop (p + 1) := by rw [List.drop_eq_getElem_cons hp, e]
    rw [hd]
    simp only [scn, if_true]
    rw [ih (p + 1) (o + 1) (fun j hj => by have := h (j + 1) (by omega); rw [show p + (j + 1) = p + 1 + j by omega] at this; exact this)]
    rw [show p + 1 + k = p + (k + 1) by omega, show o + 1 + k = o + (k + 1) by omega]
abbrev FrH (σ σ' : aSg) : Prop := (∀ a, a ≠ 136 → a ≠ 139 → a ≠ 130 → σ' a = σ a) ∧ ∀ j, j ≠ 11 → j ≠ 16 → σ' 130 j = σ 130 j
theorem FrH_tr {σ1 σ2 : aSg} (h : FrH σ σ1) (h' : FrH σ1 σ2) : FrH σ σ2 := ⟨fun a h1 h2 h3 => (h'.1 a h1 h2 h3).trans (h.1 a h1 h2 h3), fun j h1 h2 => (h'.2 j h1 h2).trans (h.2 j h1 h2)⟩
theorem FrH_s (h : FrA 136 11 σ σ') : FrH σ σ' := ⟨fun a h1 h2 h3 => h.1 a h1 h3, fun j h1 h2 => h.2 j h1⟩
theorem tmM_H (h : tmM σ T) (hf : FrH σ σ') : tmM σ' T := ⟨by rw [hf.2 7 (by omega) (by omega)]; exact h.1, by rw [hf.1 134 (by omega) (by omega) (by omega)]; exact h.2⟩
theorem lNI_app (l m : List Nat) : lNI (l ++ m) = lNI l ++ lNI m := by simp [lNI]
/-- the last ones of the stack turned round -/
theorem turn_ok {A P : List Int} {l1 l3 l4 : Int} {l7 : AV} (hA : A.length = k) (h0 : k + P.length ≤ 2000) (h1 : arM σ 11 136 (P ++ A)) (Q : List AV → aSg → Prop) (hq : ∀ (σ' : aSg) (l6 : Int) (l7 : AV), arM σ' 11 136 (P ++ A.reverse) → FrA 136 11 σ σ' → WP m166 10 [.inr (.inl 130), .inl l1, .inl (k : Int), .inl l3, .inl l4, .inl (P.length : Int), .inl l6, l7] [] σ' Q) : WP m166 154 [.inr (.inl 130), .inl l1, .inl (k : Int), .inl l3, .inl l4, .inl (P.length : Int), .inl 0, l7] [] σ Q := by
  have l0 := ln136
  have e11 : σ 130 11 = ((P.length + k : Nat) : Int) := by rw [h1.1]; simp; omega
  have lp : ∀ (m a : Nat) (σ1 : aSg) (l7 : AV), a + m = k / 2 → σ1 130 11 = ((P.length + k : Nat) : Int) → FrA 136 11 σ σ1 → (∀ i, i < P.length → σ1 136 i = P.getD i 0) → (∀ i, i < k → σ1 136 (P.length + i) = if i < a ∨ k - a ≤ i then A.getD (k - 1 - i) 0 else A.getD i 0) → WP m166 154 [.inr (.inl 130), .inl l1, .inl (k : Int), .inl l3, .inl l4, .inl (P.length : Int), .inl (a : Int), l7] [] σ1 Q := by
    intro m
    induction m with
    | zero =>
      intro a σ1 l7 ha b1 b2 b3 b4
      have ek : (k : Int) / 2 = ((k / 2 : Nat) : Int) := by omega
      rw [s166_154]
      simp (disch := omega) only [s166_0, s166_1, s166_2, s166_5, s166_6, s166_7, s166_11, s166_14, s166_17, s166_18, s166_21, s166_22, s166_23, s166_24, s166_25, s166_28, s166_29, s166_30, s166_31, s166_32, s166_35, s166_38, s166_41, s166_42, s166_45, s166_46, s166_47, s166_48, s166_49, s166_52, s166_53, s166_54, s166_55, s166_56, s166_57, s166_58, s166_60, s166_61, s166_62, s166_65, s166_66, s166_67, s166_68, s166_69, s166_70, s166_71, s166_74, s166_75, s166_77, s166_79, s166_80, s166_83, s166_84, s166_87, s166_89, s166_91, s166_92, s166_93, s166_95, s166_98, s166_100, s166_103, s166_106, s166_107, s166_110, s166_111, s166_113, s166_114, s166_115, s166_116, s166_117, s166_120, s166_122, s166_123, s166_125, s166_127, s166_128, s166_131, s166_132, s166_134, s166_137, s166_138, s166_140, s166_143, s166_145, s166_148, s166_151, s166_152, s166_156, s166_157, s166_158, s166_159, s166_162, s166_163, s166_166, s166_168, s166_170, s166_171, s166_172, s166_174, s166_175, s166_178, s166_180, s166_182, s166_183, s166_184, s166_187, s166_188, s166_191, s166_192, s166_193, s166_195, s166_196, s166_197, s166_198, s166_199, s166_202, s166_203, s166_206, s166_207, s166_208, s166_210, s166_211, s166_213, s166_214, s166_217, s166_220, s166_223, s166_224, List.cons_append, List.nil_append, if_true, if_false, true_and, and_true, and_self, eq_self, true_or, or_true, false_or, or_false, tIn, tLe, fLe, tLt, fLt, tEq, fEq, isL, ek]
      refine hq σ1 _ _ ⟨by rw [b1]; simp; omega, fun i v hv => ?_⟩ b2
      by_cases g : i < P.length
      · rw [List.getElem?_append_left g] at hv
        rw [b3 i g, List.getD_eq_getElem?_getD, hv]; rfl
      · rw [List.getElem?_append_right (by omega)] at hv
        have hz := (List.getElem?_eq_some_iff.mp hv).1
        rw [List.length_reverse, hA] at hz
        rw [List.getElem?_reverse (by omega), hA] at hv
        have := b4 (i - P.length) hz
        rw [show P.length + (i - P.length) = i by omega] at this
        rw [this]
        by_cases g2 : i - P.length < a ∨ k - a ≤ i - P.length
        · rw [if_pos g2, List.getD_eq_getElem?_getD, hv]; rfl
        · rw [if_neg g2, show i - P.length = k - 1 - (i - P.length) by omega, List.getD_eq_getElem?_getD, hv]; rfl
    | succ m ih =>
      intro a σ1 l7 ha b1 b2 b3 b4
      have ek : (k : Int) / 2 = ((k / 2 : Nat) : Int) := by omega
      have i1 : ((P.length : Int) + (a : Int)).toNat = P.length + a := by omega
      have i2 : (((P.length + k : Nat) : Int) - 1 - (a : Int)).toNat = P.length + (k - 1 - a) := by omega
      have x1 := b4 a (by omega)
      rw [if_neg (by omega)] at x1
      have x2 := b4 (k - 1 - a) (by omega)
      rw [if_neg (by omega)] at x2
      have d1 : (aup σ1 136 (P.length + a) (A.getD (k - 1 - a) 0)) 130 11 = ((P.length + k : Nat) : Int) := by rw [aup_n1 (by omega)]; exact b1
      rw [s166_154]
      simp (disch := omega) only [s166_0, s166_1, s166_2, s166_5, s166_6, s166_7, s166_11, s166_14, s166_17, s166_18, s166_21, s166_22, s166_23, s166_24, s166_25, s166_28, s166_29, s166_30, s166_31, s166_32, s166_35, s166_38, s166_41, s166_42, s166_45, s166_46, s166_47, s166_48, s166_49, s166_52, s166_53, s166_54, s166_55, s166_56, s166_57, s166_58, s166_60, s166_61, s166_62, s166_65, s166_66, s166_67, s166_68, s166_69, s166_70, s166_71, s166_74, s166_75, s166_77, s166_79, s166_80, s166_83, s166_84, s166_87, s166_89, s166_91, s166_92, s166_93, s166_95, s166_98, s166_100, s166_103, s166_106, s166_107, s166_110, s166_111, s166_113, s166_114, s166_115, s166_116, s166_117, s166_120, s166_122, s166_123, s166_125, s166_127, s166_128, s166_131, s166_132, s166_134, s166_137, s166_138, s166_140, s166_143, s166_145, s166_148, s166_151, s166_152, s166_156, s166_157, s166_158, s166_159, s166_162, s166_163, s166_166, s166_168, s166_170, s166_171, s166_172, s166_174, s166_175, s166_178, s166_180, s166_182, s166_183, s166_184, s166_187, s166_188, s166_191, s166_192, s166_193, s166_195, s166_196, s166_197, s166_198, s166_199, s166_202, s166_203, s166_206, s166_207, s166_208, s166_210, s166_211, s166_213, s166_214, s166_217, s166_220, s166_223, s166_224, List.cons_append, List.nil_append, if_true, if_false, true_and, and_true, and_self, eq_self, true_or, or_true, false_or, or_false, tIn, tLe, fLe, tLt, fLt, tEq, fEq, isL, ek, kd136, ln136, i1, x1, b1, i2, x2, d1]
      refine ih (a + 1) _ _ (by omega) ?_ ⟨fun b q1 q2 => ?_, fun j hj => ?_⟩ (fun i hi => ?_) (fun i hi => ?_)
      · rw [aup_n1 (by omega), aup_n1 (by omega)]; exact b1
      · rw [aup_f q1, aup_f q1]; exact b2.1 b q1 q2
      · rw [aup_n1 (by omega), aup_n1 (by omega)]; exact b2.2 j hj
      · rw [aup_n2 (by omega), aup_n2 (by omega)]; exact b3 i hi
      · by_cases g1 : i = k - 1 - a
        · rw [if_pos (by omega), g1, aup_s, show k - 1 - (k - 1 - a) = a by omega]
        · rw [aup_n2 (by omega)]
          by_cases g2 : i = a
          · rw [if_pos (by omega), g2, aup_s]
          · rw [aup_n2 (by omega), b4 i hi]
            by_cases g3 : i < a ∨ k - a ≤ i
            · rw [if_pos g3, if_pos (by omega)]
            · rw [if_neg g3, if_neg (by omega)]
  exact lp (k / 2) 0 σ l7 (by omega) e11 ⟨fun _ _ _ => rfl, fun _ _ => rfl⟩ (fun i hi => h1.2 i _ (by rw [List.getElem?_append_left hi, List.getD_eq_getElem?_getD, List.getElem?_eq_getElem hi]; rfl)) (fun i hi => by
    rw [if_neg (by omega)]
    apply h1.2
    rw [List.getElem?_append_right (by omega), show P.length + i - P.length = i by omega, List.getD_eq_getElem?_getD, List.getElem?_eq_getElem (by omega)]; rfl)
/-- what finds leaves -/
def FdO (σ : aSg) (T : List Int) : Option Nat → Prop
  | none => True
  | some h => ∃ c a b d, T[h]? = some c ∧ 0 < wnt c ∧ (wnt c).toNat ≤ h ∧ rxT T h c a b d ∧ σ 130 16 = ((h - (wnt c).toNat : Nat) : Int) ∧ σ 139 0 = ((h + 1 : Nat) : Int) ∧ (1 < wnt c → σ 139 1 = (te T (h + 1) : Int)) ∧ (2 < wnt c → σ 139 2 = (te T (te T (h + 1)) : Int)) ∧ σ 139 3 = (te T (h - (wnt c).toNat) : Int)
theorem wr166 (hm : tmM σ T) (hT : isT T) (hk : tks T) (hn : nbA T) (hl : T.length ≤ 600) (Q : List AV → aSg → Prop) (hq : ∀ σ', FrH σ σ' → FdO σ' T (scn T 0 0) → Q [.inl (if (scn T 0 0).isSome = true then 1 else 0)] σ') : CA m166 [.inr (.inl 130)] σ Q := by
  rw [e166]
  have l0 := ln134
  have l9 := ln139
  have hl2 : T.length ≤ 2200 := by omega
  simp (disch := omega) only [s166_0, s166_1, s166_2, s166_5, s166_6, s166_7, s166_11, s166_14, s166_17, s166_18, s166_21, s166_22, s166_23, s166_24, s166_25, s166_28, s166_29, s166_30, s166_31, s166_32, s166_35, s166_38, s166_41, s166_42, s166_45, s166_46, s166_47, s166_48, s166_49, s166_52, s166_53, s166_54, s166_55, s166_56, s166_57, s166_58, s166_60, s166_61, s166_62, s166_65, s166_66, s166_67, s166_68, s166_69, s166_70, s166_71, s166_74, s166_75, s166_77, s166_79, s166_80, s166_83, s166_84, s166_87, s166_89, s166_91, s166_92, s166_93, s166_95, s166_98, s166_100, s166_103, s166_106, s166_107, s166_110, s166_111, s166_113, s166_114, s166_115, s166_116, s166_117, s166_120, s166_122, s166_123, s166_125, s166_127, s166_128, s166_131, s166_132, s166_134, s166_137, s166_138, s166_140, s166_143, s166_145, s166_148, s166_151, s166_152, s166_154, s166_156, s166_157, s166_158, s166_159, s166_162, s166_163, s166_166, s166_168, s166_170, s166_171, s166_172, s166_174, s166_175, s166_178, s166_180, s166_182, s166_183, s166_184, s166_187, s166_188, s166_191, s166_192, s166_193, s166_195, s166_196, s166_197, s166_198, s166_199, s166_202, s166_203, s166_206, s166_207, s166_208, s166_210, s166_211, s166_213, s166_214, s166_217, s166_220, s166_223, s166_224, List.cons_append, List.nil_append, if_true, if_false, true_and, and_true, and_self, eq_self, true_or, or_true, false_or, or_false, tIn, tLe, fLe, tLt, fLt, tEq, fEq, isL]
  have S0' : stM (aup σ 130 11 0) [] := ⟨by rw [aup_s]; rfl, fun k c hc => by simp at hc⟩
  have F0 : FrA 136 11 σ (aup σ 130 11 0) := ⟨fun b _ h2 => by rw [aup_f h2], fun i hi => by rw [aup_n2 hi]⟩
  refine zpush S0' (by simp) _ (fun σ1 w1 f1 => ?_)
  simp (disch := omega) only [s166_0, s166_1, s166_2, s166_5, s166_6, s166_7, s166_11, s166_14, s166_17, s166_18, s166_21, s166_22, s166_23, s166_24, s166_25, s166_28, s166_29, s166_30, s166_31, s166_32, s166_35, s166_38, s166_41, s166_42, s166_45, s166_46, s166_47, s166_48, s166_49, s166_52, s166_53, s166_54, s166_55, s166_56, s166_57, s166_58, s166_60, s166_61, s166_62, s166_65, s166_66, s166_67, s166_68, s166_69, s166_70, s166_71, s166_74, s166_75, s166_77, s166_79, s166_80, s166_83, s166_84, s166_87, s166_89, s166_91, s166_92, s166_93, s166_95, s166_98, s166_100, s166_103, s166_106, s166_107, s166_110, s166_111, s166_113, s166_114, s166_115, s166_116, s166_117, s166_120, s166_122, s166_123, s166_125, s166_127, s166_128, s166_131, s166_132, s166_134, s166_137, s166_138, s166_140, s166_143, s166_145, s166_148, s166_151, s166_152, s166_154, s166_156, s166_157, s166_158, s166_159, s166_162, s166_163, s166_166, s166_168, s166_170, s166_171, s166_172, s166_174, s166_175, s166_178, s166_180, s166_182, s166_183, s166_184, s166_187, s166_188, s166_191, s166_192, s166_193, s166_195, s166_196, s166_197, s166_198, s166_199, s166_202, s166_203, s166_206, s166_207, s166_208, s166_210, s166_211, s166_213, s166_214, s166_217, s166_220, s166_223, s166_224, List.cons_append, List.nil_append, if_true, if_false, true_and, and_true, and_self, eq_self, true_or, or_true, false_or, or_false, tIn, tLe, fLe, tLt, fLt, tEq, fEq, isL]
  have lp : ∀ (m q : Nat) (ps : List Nat) (σ2 : aSg) (l1 l2 l3 l4 l5 l6 l7 : AV), q + m = T.length → cfo T ps q → scn (T.drop q) 0 q = scn T 0 0 → stM σ2 (lNI ps) → FrH σ σ2 → WP m166 10 [.inr (.inl 130), l1, l2, l3, l4, l5, l6, l7] [] σ2 Q := by
    intro m
    induction m using Nat.strongRecOn with
    | ind m ih =>
      intro q ps σ2 l1 l2 l3 l4 l5 l6 l7 hm1 hc1 hs1 hst hF
      cases ps with
      | nil =>
        have hq' : q = T.length := hc1
        subst hq'
        have d0 : σ2 130 11 = 0 := hst.1
        have es : scn T 0 0 = none := by rw [← hs1, List.drop_length]; rfl
        rw [es] at hq
        rw [s166_10]
        simp (disch := omega) only [s166_0, s166_1, s166_2, s166_5, s166_6, s166_7, s166_11, s166_14, s166_17, s166_18, s166_21, s166_22, s166_23, s166_24, s166_25, s166_28, s166_29, s166_30, s166_31, s166_32, s166_35, s166_38, s166_41, s166_42, s166_45, s166_46, s166_47, s166_48, s166_49, s166_52, s166_53, s166_54, s166_55, s166_56, s166_57, s166_58, s166_60, s166_61, s166_62, s166_65, s166_66, s166_67, s166_68, s166_69, s166_70, s166_71, s166_74, s166_75, s166_77, s166_79, s166_80, s166_83, s166_84, s166_87, s166_89, s166_91, s166_92, s166_93, s166_95, s166_98, s166_100, s166_103, s166_106, s166_107, s166_110, s166_111, s166_113, s166_114, s166_115, s166_116, s166_117, s166_120, s166_122, s166_123, s166_125, s166_127, s166_128, s166_131, s166_132, s166_134, s166_137, s166_138, s166_140, s166_143, s166_145, s166_148, s166_151, s166_152, s166_154, s166_156, s166_157, s166_158, s166_159, s166_162, s166_163, s166_166, s166_168, s166_170, s166_171, s166_172, s166_174, s166_175, s166_178, s166_180, s166_182, s166_183, s166_184, s166_187, s166_188, s166_191, s166_192, s166_193, s166_195, s166_196, s166_197, s166_198, s166_199, s166_202, s166_203, s166_206, s166_207, s166_208, s166_210, s166_211, s166_213, s166_214, s166_217, s166_220, s166_223, s166_224, List.cons_append, List.nil_append, if_true, if_false, true_and, and_true, and_self, eq_self, true_or, or_true, false_or, or_false, tIn, tLe, fLe, tLt, fLt, tEq, fEq, isL, d0]
        exact hq σ2 hF trivial
      | cons p ps =>
        obtain ⟨rfl, hp, hc2⟩ := hc1
        have hpl := cfo_len hT ps _ hc2
        have tg := te_gt hT hp
        have d0 : σ2 130 11 = (ps.length : Int) + 1 := by have := hst.1; rw [this]; simp [lNI]
        rw [s166_10]
        simp (disch := omega) only [s166_0, s166_1, s166_2, s166_5, s166_6, s166_7, s166_11, s166_14, s166_17, s166_18, s166_21, s166_22, s166_23, s166_24, s166_25, s166_28, s166_29, s166_30, s166_31, s166_32, s166_35, s166_38, s166_41, s166_42, s166_45, s166_46, s166_47, s166_48, s166_49, s166_52, s166_53, s166_54, s166_55, s166_56, s166_57, s166_58, s166_60, s166_61, s166_62, s166_65, s166_66, s166_67, s166_68, s166_69, s166_70, s166_71, s166_74, s166_75, s166_77, s166_79, s166_80, s166_83, s166_84, s166_87, s166_89, s166_91, s166_92, s166_93, s166_95, s166_98, s166_100, s166_103, s166_106, s166_107, s166_110, s166_111, s166_113, s166_114, s166_115, s166_116, s166_117, s166_120, s166_122, s166_123, s166_125, s166_127, s166_128, s166_131, s166_132, s166_134, s166_137, s166_138, s166_140, s166_143, s166_145, s166_148, s166_151, s166_152, s166_154, s166_156, s166_157, s166_158, s166_159, s166_162, s166_163, s166_166, s166_168, s166_170, s166_171, s166_172, s166_174, s166_175, s166_178, s166_180, s166_182, s166_183, s166_184, s166_187, s166_188, s166_191, s166_192, s166_193, s166_195, s166_196, s166_197, s166_198, s166_199, s166_202, s166_203, s166_206, s166_207, s166_208, s166_210, s166_211, s166_213, s166_214, s166_217, s166_220, s166_223, s166_224, List.cons_append, List.nil_append, if_true, if_false, true_and, and_true, and_self, eq_self, true_or, or_true, false_or, or_false, tIn, tLe, fLe, tLt, fLt, tEq, fEq, isL, d0]
        refine zpop (st := lNI ps) (v := (p : Int)) (by simpa [lNI] using hst) (by simp [lNI]; omega) _ (fun σ3 w3 f3 => ?_)
        have F3 := FrH_tr hF (FrH_s f3)
        have T3 := tmM_H hm F3
        simp (disch := omega) only [s166_0, s166_1, s166_2, s166_5, s166_6, s166_7, s166_11, s166_14, s166_17, s166_18, s166_21, s166_22, s166_23, s166_25, s166_28, s166_29, s166_30, s166_31, s166_32, s166_35, s166_38, s166_41, s166_42, s166_45, s166_46, s166_47, s166_48, s166_49, s166_52, s166_53, s166_54, s166_55, s166_56, s166_57, s166_58, s166_60, s166_61, s166_62, s166_65, s166_66, s166_67, s166_68, s166_69, s166_70, s166_71, s166_74, s166_75, s166_77, s166_79, s166_80, s166_83, s166_84, s166_87, s166_89, s166_91, s166_92, s166_93, s166_95, s166_98, s166_100, s166_103, s166_106, s166_107, s166_110, s166_111, s166_113, s166_114, s166_115, s166_116, s166_117, s166_120, s166_122, s166_123, s166_125, s166_127, s166_128, s166_131, s166_132, s166_134, s166_137, s166_138, s166_140, s166_143, s166_145, s166_148, s166_151, s166_152, s166_154, s166_156, s166_157, s166_158, s166_159, s166_162, s166_163, s166_166, s166_168, s166_170, s166_171, s166_172, s166_174, s166_175, s166_178, s166_180, s166_182, s166_183, s166_184, s166_187, s166_188, s166_191, s166_192, s166_193, s166_195, s166_196, s166_197, s166_198, s166_199, s166_202, s166_203, s166_206, s166_207, s166_208, s166_210, s166_211, s166_213, s166_214, s166_217, s166_220, s166_223, s166_224, List.cons_append, List.nil_append, if_true, if_false, true_and, and_true, and_self, eq_self, true_or, or_true, false_or, or_false, tIn, tLe, fLe, tLt, fLt, tEq, fEq, isL]
        -- the puts
        have sp : ∀ (m2 k : Nat), p + k + m2 = T.length → (∀ j, j < k → T[p + j]? = some 1) → WP m166 24 [.inr (.inl 130), .inl (p : Int), .inl (k : Int), l3, l4, l5, l6, l7] [] σ3 Q := by
          intro m2
          induction m2 with
          | zero =>
            intro k hk1 hk2
            exfalso
            cases k with
            | zero => omega
            | succ k =>
              have := (te_2 hT (hk2 k (by omega)) rfl).1
              omega
          | succ m2 ih2 =>
            intro k hk1 hk2
            have hpk : p + k < T.length := by omega
            have epk : (p : Int) + (k : Int) = ((p + k : Nat) : Int) := by omega
            have epk1 : ((p + k : Nat) : Int) + 1 = ((p + k + 1 : Nat) : Int) := by omega
            have hcc := T3.2 _ _ (List.getElem?_eq_getElem hpk)
            have tk := hk _ (List.getElem_mem hpk)
            have nb := hn _ (List.getElem_mem hpk)
            rw [s166_24]
            by_cases g1 : T[p + k] = 1
            · have z1 := (tau_0 tk).mpr g1
              simp (disch := omega) only [s166_0, s166_1, s166_2, s166_5, s166_6, s166_7, s166_11, s166_14, s166_17, s166_18, s166_21, s166_22, s166_23, s166_25, s166_28, s166_29, s166_30, s166_31, s166_32, s166_35, s166_38, s166_41, s166_42, s166_45, s166_46, s166_47, s166_48, s166_49, s166_52, s166_53, s166_54, s166_55, s166_56, s166_57, s166_58, s166_60, s166_61, s166_62, s166_65, s166_66, s166_67, s166_68, s166_69, s166_70, s166_71, s166_74, s166_75, s166_77, s166_79, s166_80, s166_83, s166_84, s166_87, s166_89, s166_91, s166_92, s166_93, s166_95, s166_98, s166_100, s166_103, s166_106, s166_107, s166_110, s166_111, s166_113, s166_114, s166_115, s166_116, s166_117, s166_120, s166_122, s166_123, s166_125, s166_127, s166_128, s166_131, s166_132, s166_134, s166_137, s166_138, s166_140, s166_143, s166_145, s166_148, s166_151, s166_152, s166_154, s166_156, s166_157, s166_158, s166_159, s166_162, s166_163, s166_166, s166_168, s166_170, s166_171, s166_172, s166_174, s166_175, s166_178, s166_180, s166_182, s166_183, s166_184, s166_187, s166_188, s166_191, s166_192, s166_193, s166_195, s166_196, s166_197, s166_198, s166_199, s166_202, s166_203, s166_206, s166_207, s166_208, s166_210, s166_211, s166_213, s166_214, s166_217, s166_220, s166_223, s166_224, List.cons_append, List.nil_append, if_true, if_false, true_and, and_true, and_self, eq_self, true_or, or_true, false_or, or_false, tIn, tLe, fLe, tLt, fLt, tEq, fEq, isL, epk, kd134, ln134, Int.toNat_natCast, hcc, z1]
              refine ih2 (k + 1) (by omega) (fun j hj => ?_)
              by_cases e : j = k
              · rw [e, List.getElem?_eq_getElem hpk, g1]
              · exact hk2 j (by omega)
            · have z1 : ¬ tau T[p + k] = 0 := fun z => g1 ((tau_0 tk).mp z)
              have ha0 : arT T[p + k] = 0 := arT_0 g1 nb
              obtain ⟨sp1, sp2⟩ := spine_ok hT ha0 k p hk2 (List.getElem?_eq_getElem hpk)
              have hs2 : scn (T.drop p) 0 p = scn (T.drop (p + k)) (0 + k) (p + k) := scn_puts k p 0 hk2
              rw [hs1, List.drop_eq_getElem_cons hpk] at hs2
              simp only [scn, if_neg g1, Nat.zero_add] at hs2
              have wb : 0 ≤ wnt T[p + k] ∧ wnt T[p + k] ≤ 3 := wnt_in
              by_cases g2 : 0 < wnt T[p + k] ∧ wnt T[p + k] ≤ (k : Int)
              · rw [if_pos g2] at hs2
                have e9 : w9 T[p + k] = wnt T[p + k] := by unfold w9; rw [if_neg (by omega)]
                obtain ⟨c, a, b, d, j1, j2, j3, j4⟩ := scn_at hT hs2
                rw [List.getElem?_eq_getElem hpk] at j1
                cases j1
                rw [hs2] at hq
                have hq2 : ∀ σ', FrH σ σ' → σ' 130 16 = ((p + k - (wnt T[p + k]).toNat : Nat) : Int) → σ' 139 0 = ((p + k + 1 : Nat) : Int) → (1 < wnt T[p + k] → σ' 139 1 = (te T (p + k + 1) : Int)) → (2 < wnt T[p + k] → σ' 139 2 = (te T (te T (p + k + 1)) : Int)) → σ' 139 3 = (te T (p + k - (wnt T[p + k]).toNat) : Int) → Q [.inl 1] σ' := fun σ' f q1 q2 q3 q4 q5 => hq σ' f ⟨T[p + k], a, b, d, List.getElem?_eq_getElem hpk, j2, j3, j4, q1, q2, q3, q4, q5⟩
                have ew : ((p + k : Nat) : Int) - wnt T[p + k] = ((p + k - (wnt T[p + k]).toNat : Nat) : Int) := by omega
                have FH : ∀ {s : aSg} {u v : Int} {jj : Nat}, FrH σ s → FrH σ (aup s 139 jj v) := fun h => ⟨fun a q1 q2 q3 => by rw [aup_f q2]; exact h.1 a q1 q2 q3, fun j q1 q2 => by rw [aup_n1 (by omega)]; exact h.2 j q1 q2⟩
                have FP : FrH σ (aup σ3 130 16 ((p + k - (wnt T[p + k]).toNat : Nat) : Int)) := ⟨fun a q1 q2 q3 => by rw [aup_f q3]; exact F3.1 a q1 q2 q3, fun j q1 q2 => by rw [aup_n2 q2]; exact F3.2 j q1 q2⟩
                obtain ⟨A, hr⟩ := j4
                have i0 : (0 : Int).toNat = 0 := rfl
                have i1 : (0 + 1 : Int).toNat = 1 := rfl
                have i2 : (0 + 1 + 1 : Int).toNat = 2 := rfl
                have i3 : (3 : Int).toNat = 3 := rfl
                simp (disch := omega) only [s166_0, s166_1, s166_2, s166_5, s166_6, s166_7, s166_11, s166_14, s166_17, s166_18, s166_21, s166_22, s166_23, s166_25, s166_28, s166_29, s166_30, s166_31, s166_32, s166_35, s166_38, s166_41, s166_42, s166_45, s166_46, s166_47, s166_48, s166_49, s166_52, s166_53, s166_54, s166_55, s166_56, s166_57, s166_58, s166_60, s166_61, s166_62, s166_65, s166_66, s166_67, s166_68, s166_69, s166_70, s166_71, s166_74, s166_75, s166_79, s166_80, s166_83, s166_84, s166_87, s166_89, s166_91, s166_92, s166_93, s166_95, s166_98, s166_100, s166_103, s166_106, s166_107, s166_110, s166_111, s166_113, s166_114, s166_115, s166_117, s166_120, s166_122, s166_123, s166_127, s166_128, s166_131, s166_132, s166_134, s166_137, s166_138, s166_140, s166_143, s166_145, s166_148, s166_151, s166_152, s166_156, s166_157, s166_158, s166_159, s166_162, s166_163, s166_166, s166_168, s166_170, s166_171, s166_172, s166_174, s166_175, s166_178, s166_180, s166_182, s166_183, s166_184, s166_187, s166_188, s166_191, s166_192, s166_193, s166_195, s166_196, s166_197, s166_198, s166_199, s166_202, s166_203, s166_206, s166_207, s166_208, s166_210, s166_211, s166_213, s166_214, s166_217, s166_220, s166_223, s166_224, List.cons_append, List.nil_append, if_true, if_false, true_and, and_true, and_self, eq_self, true_or, or_true, false_or, or_false, tIn, tLe, fLe, tLt, fLt, tEq, fEq, isL, epk, kd134, ln134, Int.toNat_natCast, hcc, c165 tk, e9, epk1, ew]
                rcases hr with ⟨w, R, er⟩ | ⟨w, B, R, er⟩ | ⟨w, B, D, R, er⟩
                · have tA := At_te A
                  have lA := At_lt A
                  have c1 := c149 (K := fun v σ2 => v = v) (tmM_H hm (FH (u := 0) (jj := 0) (v := ((p + k + 1 : Nat) : Int)) FP)) hT hk hl2 lA
                  rw [w] at FP hq2 ⊢
                  have e1 : (1 : Int).toNat = 1 := rfl
                  rw [e1] at FP hq2 ⊢
                  rw [s166_77]
                  simp (disch := omega) only [s166_0, s166_1, s166_2, s166_5, s166_6, s166_7, s166_11, s166_14, s166_17, s166_18, s166_21, s166_22, s166_23, s166_25, s166_28, s166_29, s166_30, s166_31, s166_32, s166_35, s166_38, s166_41, s166_42, s166_45, s166_46, s166_47, s166_48, s166_49, s166_52, s166_53, s166_54, s166_55, s166_56, s166_57, s166_58, s166_60, s166_61, s166_62, s166_65, s166_66, s166_67, s166_68, s166_69, s166_70, s166_71, s166_74, s166_75, s166_79, s166_80, s166_83, s166_84, s166_87, s166_89, s166_91, s166_92, s166_93, s166_95, s166_98, s166_100, s166_103, s166_106, s166_107, s166_110, s166_111, s166_113, s166_114, s166_115, s166_117, s166_120, s166_122, s166_123, s166_127, s166_128, s166_131, s166_132, s166_134, s166_137, s166_138, s166_140, s166_143, s166_145, s166_148, s166_151, s166_152, s166_156, s166_157, s166_158, s166_159, s166_162, s166_163, s166_166, s166_168, s166_170, s166_171, s166_172, s166_174, s166_175, s166_178, s166_180, s166_182, s166_183, s166_184, s166_187, s166_188, s166_191, s166_192, s166_193, s166_195, s166_196, s166_197, s166_198, s166_199, s166_202, s166_203, s166_206, s166_207, s166_208, s166_210, s166_211, s166_213, s166_214, s166_217, s166_220, s166_223, s166_224, List.cons_append, List.nil_append, if_true, if_false, true_and, and_true, and_self, eq_self, true_or, or_true, false_or, or_false, tIn, tLe, fLe, tLt, fLt, tEq, fEq, isL, kd139, ln139, i0, c149 (tmM_H hm (FH (u := 0) (jj := 0) (v := ((p + k + 1 : Nat) : Int)) FP)) hT hk hl2 lA]
                  rw [s166_77]
                  simp (disch := omega) only [s166_0, s166_1, s166_2, s166_5, s166_6, s166_7, s166_11, s166_14, s166_17, s166_18, s166_21, s166_22, s166_23, s166_25, s166_28, s166_29, s166_30, s166_31, s166_32, s166_35, s166_38, s166_41, s166_42, s166_45, s166_46, s166_47, s166_48, s166_49, s166_52, s166_53, s166_54, s166_55, s166_56, s166_57, s166_58, s166_60, s166_61, s166_62, s166_65, s166_66, s166_67, s166_68, s166_69, s166_70, s166_71, s166_74, s166_75, s166_79, s166_80, s166_83, s166_84, s166_87, s166_89, s166_91, s166_92, s166_93, s166_95, s166_98, s166_100, s166_103, s166_106, s166_107, s166_110, s166_111, s166_113, s166_114, s166_115, s166_117, s166_120, s166_122, s166_123, s166_127, s166_128, s166_131, s166_132, s166_134, s166_137, s166_138, s166_140, s166_143, s166_145, s166_148, s166_151, s166_152, s166_156, s166_157, s166_158, s166_159, s166_162, s166_163, s166_166, s166_168, s166_170, s166_171, s166_172, s166_174, s166_175, s166_178, s166_180, s166_182, s166_183, s166_184, s166_187, s166_188, s166_191, s166_192, s166_193, s166_195, s166_196, s166_197, s166_198, s166_199, s166_202, s166_203, s166_206, s166_207, s166_208, s166_210, s166_211, s166_213, s166_214, s166_217, s166_220, s166_223, s166_224, List.cons_append, List.nil_append, if_true, if_false, true_and, and_true, and_self, eq_self, true_or, or_true, false_or, or_false, tIn, tLe, fLe, tLt, fLt, tEq, fEq, isL, kd139, ln139, i3]
                  refine hq2 _ (FH (u := 0) (FH (u := 0) FP)) ?_ ?_ (fun q => by omega) (fun q => by omega) (by rw [aup_s, er])
                  · rw [aup_n1 (by omega), aup_n1 (by omega), aup_s]
                  · rw [aup_n2 (by omega), aup_s]
                · have lA := At_lt A
                  have lB := At_lt B
                  rw [w] at FP hq2 ⊢
                  have e1 : (2 : Int).toNat = 2 := rfl
                  rw [e1] at FP hq2 ⊢
                  have G1 := FH (u := 0) (jj := 0) (v := ((p + k + 1 : Nat) : Int)) FP
                  have G2 := FH (u := 0) (jj := 1) (v := (te T (p + k + 1) : Int)) G1
                  rw [s166_77]
                  simp (disch := omega) only [s166_0, s166_1, s166_2, s166_5, s166_6, s166_7, s166_11, s166_14, s166_17, s166_18, s166_21, s166_22, s166_23, s166_25, s166_28, s166_29, s166_30, s166_31, s166_32, s166_35, s166_38, s166_41, s166_42, s166_45, s166_46, s166_47, s166_48, s166_49, s166_52, s166_53, s166_54, s166_55, s166_56, s166_57, s166_58, s166_60, s166_61, s166_62, s166_65, s166_66, s166_67, s166_68, s166_69, s166_70, s166_71, s166_74, s166_75, s166_79, s166_80, s166_83, s166_84, s166_87, s166_89, s166_91, s166_92, s166_93, s166_95, s166_98, s166_100, s166_103, s166_106, s166_107, s166_110, s166_111, s166_113, s166_114, s166_115, s166_117, s166_120, s166_122, s166_123, s166_127, s166_128, s166_131, s166_132, s166_134, s166_137, s166_138, s166_140, s166_143, s166_145, s166_148, s166_151, s166_152, s166_156, s166_157, s166_158, s166_159, s166_162, s166_163, s166_166, s166_168, s166_170, s166_171, s166_172, s166_174, s166_175, s166_178, s166_180, s166_182, s166_183, s166_184, s166_187, s166_188, s166_191, s166_192, s166_193, s166_195, s166_196, s166_197, s166_198, s166_199, s166_202, s166_203, s166_206, s166_207, s166_208, s166_210, s166_211, s166_213, s166_214, s166_217, s166_220, s166_223, s166_224, List.cons_append, List.nil_append, if_true, if_false, true_and, and_true, and_self, eq_self, true_or, or_true, false_or, or_false, tIn, tLe, fLe, tLt, fLt, tEq, fEq, isL, kd139, ln139, i0, c149 (tmM_H hm G1) hT hk hl2 lA]
                  rw [s166_77]
                  simp (disch := omega) only [s166_0, s166_1, s166_2, s166_5, s166_6, s166_7, s166_11, s166_14, s166_17, s166_18, s166_21, s166_22, s166_23, s166_25, s166_28, s166_29, s166_30, s166_31, s166_32, s166_35, s166_38, s166_41, s166_42, s166_45, s166_46, s166_47, s166_48, s166_49, s166_52, s166_53, s166_54, s166_55, s166_56, s166_57, s166_58, s166_60, s166_61, s166_62, s166_65, s166_66, s166_67, s166_68, s166_69, s166_70, s166_71, s166_74, s166_75, s166_79, s166_80, s166_83, s166_84, s166_87, s166_89, s166_91, s166_92, s166_93, s166_95, s166_98, s166_100, s166_103, s166_106, s166_107, s166_110, s166_111, s166_113, s166_114, s166_115, s166_117, s166_120, s166_122, s166_123, s166_127, s166_128, s166_131, s166_132, s166_134, s166_137, s166_138, s166_140, s166_143, s166_145, s166_148, s166_151, s166_152, s166_156, s166_157, s166_158, s166_159, s166_162, s166_163, s166_166, s166_168, s166_170, s166_171, s166_172, s166_174, s166_175, s166_178, s166_180, s166_182, s166_183, s166_184, s166_187, s166_188, s166_191, s166_192, s166_193, s166_195, s166_196, s166_197, s166_198, s166_199, s166_202, s166_203, s166_206, s166_207, s166_208, s166_210, s166_211, s166_213, s166_214, s166_217, s166_220, s166_223, s166_224, List.cons_append, List.nil_append, if_true, if_false, true_and, and_true, and_self, eq_self, true_or, or_true, false_or, or_false, tIn, tLe, fLe, tLt, fLt, tEq, fEq, isL, kd139, ln139, i1, c149 (tmM_H hm G2) hT hk hl2 lB]
                  rw [s166_77]
                  simp (disch := omega) only [s166_0, s166_1, s166_2, s166_5, s166_6, s166_7, s166_11, s166_14, s166_17, s166_18, s166_21, s166_22, s166_23, s166_25, s166_28, s166_29, s166_30, s166_31, s166_32, s166_35, s166_38, s166_41, s166_42, s166_45, s166_46, s166_47, s166_48, s166_49, s166_52, s166_53, s166_54, s166_55, s166_56, s166_57, s166_58, s166_60, s166_61, s166_62, s166_65, s166_66, s166_67, s166_68, s166_69, s166_70, s166_71, s166_74, s166_75, s166_79, s166_80, s166_83, s166_84, s166_87, s166_89, s166_91, s166_92, s166_93, s166_95, s166_98, s166_100, s166_103, s166_106, s166_107, s166_110, s166_111, s166_113, s166_114, s166_115, s166_117, s166_120, s166_122, s166_123, s166_127, s166_128, s166_131, s166_132, s166_134, s166_137, s166_138, s166_140, s166_143, s166_145, s166_148, s166_151, s166_152, s166_156, s166_157, s166_158, s166_159, s166_162, s166_163, s166_166, s166_168, s166_170, s166_171, s166_172, s166_174, s166_175, s166_178, s166_180, s166_182, s166_183, s166_184, s166_187, s166_188, s166_191, s166_192, s166_193, s166_195, s166_196, s166_197, s166_198, s166_199, s166_202, s166_203, s166_206, s166_207, s166_208, s166_210, s166_211, s166_213, s166_214, s166_217, s166_220, s166_223, s166_224, List.cons_append, List.nil_append, if_true, if_false, true_and, and_true, and_self, eq_self, true_or, or_true, false_or, or_false, tIn, tLe, fLe, tLt, fLt, tEq, fEq, isL, kd139, ln139, i3]
                  refine hq2 _ (FH (u := 0) G2) ?_ ?_ (fun _ => ?_) (fun q => by omega) (by rw [aup_s, er])
                  · rw [aup_n1 (by omega), aup_n1 (by omega), aup_n1 (by omega), aup_s]
                  · rw [aup_n2 (by omega), aup_n2 (by omega), aup_s]
                  · rw [aup_n2 (by omega), aup_s]
                · have lA := At_lt A
                  have lB := At_lt B
                  have lD := At_lt D
                  rw [w] at FP hq2 ⊢
                  have e1 : (3 : Int).toNat = 3 := rfl
                  rw [e1] at FP hq2 ⊢
                  have G1 := FH (u := 0) (jj := 0) (v := ((p + k + 1 : Nat) : Int)) FP
                  have G2 := FH (u := 0) (jj := 1) (v := (te T (p + k + 1) : Int)) G1
                  have G3 := FH (u := 0) (jj := 2) (v := (te T (te T (p + k + 1)) : Int)) G2
                  rw [s166_77]
                  simp (disch := omega) only [s166_0, s166_1, s166_2, s166_5, s166_6, s166_7, s166_11, s166_14, s166_17, s166_18, s166_21, s166_22, s166_23, s166_25, s166_28, s166_29, s166_30, s166_31, s166_32, s166_35, s166_38, s166_41, s166_42, s166_45, s166_46, s166_47, s166_48, s166_49, s166_52, s166_53, s166_54, s166_55, s166_56, s166_57, s166_58, s166_60, s166_61, s166_62, s166_65, s166_66, s166_67, s166_68, s166_69, s166_70, s166_71, s166_74, s166_75, s166_79, s166_80, s166_83, s166_84, s166_87, s166_89, s166_91, s166_92, s166_93, s166_95, s166_98, s166_100, s166_103, s166_106, s166_107, s166_110, s166_111, s166_113, s166_114, s166_115, s166_117, s166_120, s166_122, s166_123, s166_127, s166_128, s166_131, s166_132, s166_134, s166_137, s166_138, s166_140, s166_143, s166_145, s166_148, s166_151, s166_152, s166_156, s166_157, s166_158, s166_159, s166_162, s166_163, s166_166, s166_168, s166_170, s166_171, s166_172, s166_174, s166_175, s166_178, s166_180, s166_182, s166_183, s166_184, s166_187, s166_188, s166_191, s166_192, s166_193, s166_195, s166_196, s166_197, s166_198, s166_199, s166_202, s166_203, s166_206, s166_207, s166_208, s166_210, s166_211, s166_213, s166_214, s166_217, s166_220, s166_223, s166_224, List.cons_append, List.nil_append, if_true, if_false, true_and, and_true, and_self, eq_self, true_or, or_true, false_or, or_false, tIn, tLe, fLe, tLt, fLt, tEq, fEq, isL, kd139, ln139, i0, c149 (tmM_H hm G1) hT hk hl2 lA]
                  rw [s166_77]
                  simp (disch := omega) only [s166_0, s166_1, s166_2, s166_5, s166_6, s166_7, s166_11, s166_14, s166_17, s166_18, s166_21, s166_22, s166_23, s166_25, s166_28, s166_29, s166_30, s166_31, s166_32, s166_35, s166_38, s166_41, s166_42, s166_45, s166_46, s166_47, s166_48, s166_49, s166_52, s166_53, s166_54, s166_55, s166_56, s166_57, s166_58, s166_60, s166_61, s166_62, s166_65, s166_66, s166_67, s166_68, s166_69, s166_70, s166_71, s166_74, s166_75, s166_79, s166_80, s166_83, s166_84, s166_87, s166_89, s166_91, s166_92, s166_93, s166_95, s166_98, s166_100, s166_103, s166_106, s166_107, s166_110, s166_111, s166_113, s166_114, s166_115, s166_117, s166_120, s166_122, s166_123, s166_127, s166_128, s166_131, s166_132, s166_134, s166_137, s166_138, s166_140, s166_143, s166_145, s166_148, s166_151, s166_152, s166_156, s166_157, s166_158, s166_159, s166_162, s166_163, s166_166, s166_168, s166_170, s166_171, s166_172, s166_174, s166_175, s166_178, s166_180, s166_182, s166_183, s166_184, s166_187, s166_188, s166_191, s166_192, s166_193, s166_195, s166_196, s166_197, s166_198, s166_199, s166_202, s166_203, s166_206, s166_207, s166_208, s166_210, s166_211, s166_213, s166_214, s166_217, s166_220, s166_223, s166_224, List.cons_append, List.nil_append, if_true, if_false, true_and, and_true, and_self, eq_self, true_or, or_true, false_or, or_false, tIn, tLe, fLe, tLt, fLt, tEq, fEq, isL, kd139, ln139, i1, c149 (tmM_H hm G2) hT hk hl2 lB]
                  rw [s166_77]
                  simp (disch := omega) only [s166_0, s166_1, s166_2, s166_5, s166_6, s166_7, s166_11, s166_14, s166_17, s166_18, s166_21, s166_22, s166_23, s166_25, s166_28, s166_29, s166_30, s166_31, s166_32, s166_35, s166_38, s166_41, s166_42, s166_45, s166_46, s166_47, s166_48, s166_49, s166_52, s166_53, s166_54, s166_55, s166_56, s166_57, s166_58, s166_60, s166_61, s166_62, s166_65, s166_66, s166_67, s166_68, s166_69, s166_70, s166_71, s166_74, s166_75, s166_79, s166_80, s166_83, s166_84, s166_87, s166_89, s166_91, s166_92, s166_93, s166_95, s166_98, s166_100, s166_103, s166_106, s166_107, s166_110, s166_111, s166_113, s166_114, s166_115, s166_117, s166_120, s166_122, s166_123, s166_127, s166_128, s166_131, s166_132, s166_134, s166_137, s166_138, s166_140, s166_143, s166_145, s166_148, s166_151, s166_152, s166_156, s166_157, s166_158, s166_159, s166_162, s166_163, s166_166, s166_168, s166_170, s166_171, s166_172, s166_174, s166_175, s166_178, s166_180, s166_182, s166_183, s166_184, s166_187, s166_188, s166_191, s166_192, s166_193, s166_195, s166_196, s166_197, s166_198, s166_199, s166_202, s166_203, s166_206, s166_207, s166_208, s166_210, s166_211, s166_213, s166_214, s166_217, s166_220, s166_223, s166_224, List.cons_append, List.nil_append, if_true, if_false, true_and, and_true, and_self, eq_self, true_or, or_true, false_or, or_false, tIn, tLe, fLe, tLt, fLt, tEq, fEq, isL, kd139, ln139, i2, c149 (tmM_H hm G3) hT hk hl2 lD]
                  rw [s166_77]
                  simp (disch := omega) only [s166_0, s166_1, s166_2, s166_5, s166_6, s166_7, s166_11, s166_14, s166_17, s166_18, s166_21, s166_22, s166_23, s166_25, s166_28, s166_29, s166_30, s166_31, s166_32, s166_35, s166_38, s166_41, s166_42, s166_45, s166_46, s166_47, s166_48, s166_49, s166_52, s166_53, s166_54, s166_55, s166_56, s166_57, s166_58, s166_60, s166_61, s166_62, s166_65, s166_66, s166_67, s166_68, s166_69, s166_70, s166_71, s166_74, s166_75, s166_79, s166_80, s166_83, s166_84, s166_87, s166_89, s166_91, s166_92, s166_93, s166_95, s166_98, s166_100, s166_103, s166_106, s166_107, s166_110, s166_111, s166_113, s166_114, s166_115, s166_117, s166_120, s166_122, s166_123, s166_127, s166_128, s166_131, s166_132, s166_134, s166_137, s166_138, s166_140, s166_143, s166_145, s166_148, s166_151, s166_152, s166_156, s166_157, s166_158, s166_159, s166_162, s166_163, s166_166, s166_168, s166_170, s166_171, s166_172, s166_174, s166_175, s166_178, s166_180, s166_182, s166_183, s166_184, s166_187, s166_188, s166_191, s166_192, s166_193, s166_195, s166_196, s166_197, s166_198, s166_199, s166_202, s166_203, s166_206, s166_207, s166_208, s166_210, s166_211, s166_213, s166_214, s166_217, s166_220, s166_223, s166_224, List.cons_append, List.nil_append, if_true, if_false, true_and, and_true, and_self, eq_self, true_or, or_true, false_or, or_false, tIn, tLe, fLe, tLt, fLt, tEq, fEq, isL, kd139, ln139, i3]
                  refine hq2 _ (FH (u := 0) G3) ?_ ?_ (fun _ => ?_) (fun _ => ?_) (by rw [aup_s, er])
                  · rw [aup_n1 (by omega), aup_n1 (by omega), aup_n1 (by omega), aup_n1 (by omega), aup_s]
                  · rw [aup_n2 (by omega), aup_n2 (by omega), aup_n2 (by omega), aup_s]
                  · rw [aup_n2 (by omega), aup_n2 (by omega), aup_s]
                  · rw [aup_n2 (by omega), aup_s]
              · rw [if_neg g2] at hs2
                have e9 : (k : Int) < w9 T[p + k] := by unfold w9; split <;> omega
                have d3 : σ3 130 11 = (ps.length : Int) := by have := w3.1; rw [this]; simp [lNI]
                simp (disch := omega) only [s166_0, s166_1, s166_2, s166_5, s166_6, s166_7, s166_11, s166_14, s166_17, s166_18, s166_21, s166_22, s166_23, s166_25, s166_28, s166_29, s166_30, s166_31, s166_32, s166_35, s166_38, s166_41, s166_42, s166_45, s166_46, s166_47, s166_48, s166_49, s166_52, s166_53, s166_54, s166_55, s166_56, s166_57, s166_58, s166_60, s166_61, s166_62, s166_65, s166_66, s166_67, s166_68, s166_69, s166_70, s166_71, s166_74, s166_75, s166_79, s166_80, s166_83, s166_84, s166_87, s166_89, s166_91, s166_92, s166_93, s166_95, s166_98, s166_100, s166_103, s166_106, s166_107, s166_110, s166_111, s166_113, s166_114, s166_115, s166_116, s166_117, s166_120, s166_122, s166_123, s166_127, s166_128, s166_131, s166_132, s166_134, s166_137, s166_138, s166_140, s166_143, s166_145, s166_148, s166_151, s166_152, s166_156, s166_157, s166_158, s166_159, s166_162, s166_163, s166_166, s166_168, s166_170, s166_171, s166_172, s166_174, s166_175, s166_178, s166_180, s166_182, s166_183, s166_184, s166_187, s166_188, s166_191, s166_192, s166_193, s166_195, s166_196, s166_197, s166_198, s166_199, s166_202, s166_203, s166_206, s166_207, s166_208, s166_210, s166_211, s166_213, s166_214, s166_217, s166_220, s166_223, s166_224, List.cons_append, List.nil_append, if_true, if_false, true_and, and_true, and_self, eq_self, true_or, or_true, false_or, or_false, tIn, tLe, fLe, tLt, fLt, tEq, fEq, isL, epk, kd134, ln134, Int.toNat_natCast, hcc, c165 tk, epk1, d3]
                have pl : ∀ (m3 a : Nat) (σ4 : aSg), a + m3 = k → stM σ4 (lNI ((ars T a (p + k + 1)).reverse ++ ps)) → FrA 136 11 σ3 σ4 → WP m166 125 [.inr (.inl 130), .inl (p : Int), .inl (k : Int), .inl (w9 T[p + k]), .inl (itr T a (p + k + 1) : Int), .inl (ps.length : Int), .inl (a : Int), l7] [] σ4 Q := by
                  intro m3
                  induction m3 with
                  | zero =>
                    intro a σ4 ha i4 f4
                    have : a = k := by omega
                    subst this
                    have i4' : arM σ4 11 136 (lNI ps.reverse ++ lNI (ars T a (p + a + 1))) := by
                      have : (lNI ((ars T a (p + a + 1)).reverse ++ ps)).reverse = lNI ps.reverse ++ lNI (ars T a (p + a + 1)) := by simp [lNI, List.map_reverse]
                      rw [← this]; exact i4
                    have lA : (lNI (ars T a (p + a + 1))).length = a := by simp [lNI, ars_len]
                    have lP : (lNI ps.reverse).length = ps.length := by simp [lNI]
                    rw [s166_125]
                    simp (disch := omega) only [s166_0, s166_1, s166_2, s166_5, s166_6, s166_7, s166_11, s166_14, s166_17, s166_18, s166_21, s166_22, s166_23, s166_24, s166_25, s166_28, s166_29, s166_30, s166_31, s166_32, s166_35, s166_38, s166_41, s166_42, s166_45, s166_46, s166_47, s166_48, s166_49, s166_52, s166_53, s166_54, s166_55, s166_56, s166_57, s166_58, s166_60, s166_61, s166_62, s166_65, s166_66, s166_67, s166_68, s166_69, s166_70, s166_71, s166_74, s166_75, s166_77, s166_79, s166_80, s166_83, s166_84, s166_87, s166_89, s166_91, s166_92, s166_93, s166_95, s166_98, s166_100, s166_103, s166_106, s166_107, s166_110, s166_111, s166_113, s166_114, s166_115, s166_116, s166_117, s166_120, s166_122, s166_123, s166_127, s166_128, s166_131, s166_132, s166_134, s166_137, s166_138, s166_140, s166_143, s166_145, s166_148, s166_151, s166_152, s166_156, s166_157, s166_158, s166_159, s166_162, s166_163, s166_166, s166_168, s166_170, s166_171, s166_172, s166_174, s166_175, s166_178, s166_180, s166_182, s166_183, s166_184, s166_187, s166_188, s166_191, s166_192, s166_193, s166_195, s166_196, s166_197, s166_198, s166_199, s166_202, s166_203, s166_206, s166_207, s166_208, s166_210, s166_211, s166_213, s166_214, s166_217, s166_220, s166_223, s166_224, List.cons_append, List.nil_append, if_true, if_false, true_and, and_true, and_self, eq_self, true_or, or_true, false_or, or_false, tIn, tLe, fLe, tLt, fLt, tEq, fEq, isL]
                    have tt := turn_ok (l1 := (p : Int)) (l3 := w9 T[p + a]) (l4 := (itr T a (p + a + 1) : Int)) (l7 := l7) lA (by rw [lP]; omega) i4' Q (fun σ5 l6 l7 i5 f5 => ?_)
                    · rw [lP] at tt
                      exact tt
                    · have st5 : stM σ5 (lNI (ars T a (p + a + 1) ++ ps)) := by
                        have : (lNI (ars T a (p + a + 1) ++ ps)).reverse = lNI ps.reverse ++ (lNI (ars T a (p + a + 1))).reverse := by simp [lNI, List.map_reverse]
                        unfold stM
                        rw [this]; exact i5
                      exact ih (T.length - (p + a + 1)) (by omega) (p + a + 1) (ars T a (p + a + 1) ++ ps) σ5 _ _ _ _ _ _ _ (by omega) (cfo_ars a (p + a + 1) ps sp2 (by rw [sp1]; exact hc2)) hs2.symm st5 (FrH_tr F3 (FrH_tr (FrH_s f4) (FrH_s f5)))
                  | succ m3 ih3 =>
                    intro a σ4 ha i4 f4
                    have la := sp2 a (by omega)
                    rw [s166_125]
                    simp (disch := omega) only [s166_0, s166_1, s166_2, s166_5, s166_6, s166_7, s166_11, s166_14, s166_17, s166_18, s166_21, s166_22, s166_23, s166_25, s166_28, s166_29, s166_30, s166_31, s166_32, s166_35, s166_38, s166_41, s166_42, s166_45, s166_46, s166_47, s166_48, s166_49, s166_52, s166_53, s166_54, s166_55, s166_56, s166_57, s166_58, s166_60, s166_61, s166_62, s166_65, s166_66, s166_67, s166_68, s166_69, s166_70, s166_71, s166_74, s166_75, s166_79, s166_80, s166_83, s166_84, s166_87, s166_89, s166_91, s166_92, s166_93, s166_95, s166_98, s166_100, s166_103, s166_106, s166_107, s166_110, s166_111, s166_113, s166_114, s166_115, s166_116, s166_117, s166_120, s166_122, s166_123, s166_127, s166_128, s166_131, s166_132, s166_134, s166_137, s166_138, s166_140, s166_143, s166_145, s166_148, s166_151, s166_152, s166_156, s166_157, s166_158, s166_159, s166_162, s166_163, s166_166, s166_168, s166_170, s166_171, s166_172, s166_174, s166_175, s166_178, s166_180, s166_182, s166_183, s166_184, s166_187, s166_188, s166_191, s166_192, s166_193, s166_195, s166_196, s166_197, s166_198, s166_199, s166_202, s166_203, s166_206, s166_207, s166_208, s166_210, s166_211, s166_213, s166_214, s166_217, s166_220, s166_223, s166_224, List.cons_append, List.nil_append, if_true, if_false, true_and, and_true, and_self, eq_self, true_or, or_true, false_or, or_false, tIn, tLe, fLe, tLt, fLt, tEq, fEq, isL]
                    refine zpush i4 (by simp [lNI, ars_len]; omega) _ (fun σ5 i5 f5 => ?_)
                    have T5 := tmM_H T3 (FrH_tr (FrH_s f4) (FrH_s f5))
                    simp (disch := omega) only [s166_0, s166_1, s166_2, s166_5, s166_6, s166_7, s166_11, s166_14, s166_17, s166_18, s166_21, s166_22, s166_23, s166_25, s166_28, s166_29, s166_30, s166_31, s166_32, s166_35, s166_38, s166_41, s166_42, s166_45, s166_46, s166_47, s166_48, s166_49, s166_52, s166_53, s166_54, s166_55, s166_56, s166_57, s166_58, s166_60, s166_61, s166_62, s166_65, s166_66, s166_67, s166_68, s166_69, s166_70, s166_71, s166_74, s166_75, s166_79, s166_80, s166_83, s166_84, s166_87, s166_89, s166_91, s166_92, s166_93, s166_95, s166_98, s166_100, s166_103, s166_106, s166_107, s166_110, s166_111, s166_113, s166_114, s166_115, s166_116, s166_117, s166_120, s166_122, s166_123, s166_127, s166_128, s166_131, s166_132, s166_134, s166_137, s166_138, s166_140, s166_143, s166_145, s166_148, s166_151, s166_152, s166_156, s166_157, s166_158, s166_159, s166_162, s166_163, s166_166, s166_168, s166_170, s166_171, s166_172, s166_174, s166_175, s166_178, s166_180, s166_182, s166_183, s166_184, s166_187, s166_188, s166_191, s166_192, s166_193, s166_195, s166_196, s166_197, s166_198, s166_199, s166_202, s166_203, s166_206, s166_207, s166_208, s166_210, s166_211, s166_213, s166_214, s166_217, s166_220, s166_223, s166_224, List.cons_append, List.nil_append, if_true, if_false, true_and, and_true, and_self, eq_self, true_or, or_true, false_or, or_false, tIn, tLe, fLe, tLt, fLt, tEq, fEq, isL, c149 T5 hT hk hl2 la]
                    rw [← itr_s]
                    refine ih3 (a + 1) σ5 (by omega) ?_ ⟨fun b q1 q2 => (f5.1 b q1 q2).trans (f4.1 b q1 q2), fun j q => (f5.2 j q).trans (f4.2 j q)⟩
                    rw [ars_s]
                    simpa [lNI] using i5
                exact pl k 0 σ3 (by omega) (by simpa [ars] using w3) ⟨fun _ _ _ => rfl, fun _ _ => rfl⟩
        exact sp (T.length - p) 0 (by omega) (fun j hj => by omega)
  exact lp T.length 0 [0] σ1 _ _ _ _ _ _ _ (by omega) ⟨rfl, isT_pos hT, te_all hT⟩ rfl w1 (FrH_tr (FrH_s F0) (FrH_s f1))
end FND
