/-! Things: the component -/
def CL (G : Gr) (ρ : Nat → Nat) (L R : List Int) : Prop := L.length = G.length ∧ R.length = G.length ∧ (∀ i, i < G.length → cl G i = 1 → lat L (i : Int) = (lf G i : Int) ∧ lat R (i : Int) = (rt G i : Int)) ∧ (∀ i, i < G.length → cl G i = 2 → ∃ j : Nat, lat L (i : Int) = (j : Int) ∧ j < G.length ∧ ρ j < ρ i ∧ ∀ k, Rl G i k → Rl G j k)
def TGI (σ0 σ : aSg) (G : Gr) (ρ : Nat → Nat) (F st I : List Int) : Prop := RK σ ∧ rv σ 83 = G.map (fun v => v.1) ∧ CL G ρ (rv σ 85) (rv σ 87) ∧ rv σ 78 = F ∧ rv σ 91 = st.reverse ∧ rv σ 89 = I ∧ ∀ a, (a < 77 ∨ 97 < a) → σ a = σ0 a
section THG
variable {σ σ0 σ' : aSg} {K : List AV → aSg → Prop} {x y z c : Int} {T W st F I L R s : List Int} {r q t i j k p h : Nat} {G : Gr} {ρ : Nat → Nat}
theorem map_at {i : Nat} (h : i < G.length) : lat (G.map (fun v => v.1)) (i : Int) = cl G i := by
  rw [lat_i2 (by simpa using h)]
  unfold cl
  rw [List.getD_eq_getElem?_getD, List.getElem?_eq_getElem h]
  simp
theorem TGI_l {L : List Int} (h : TGI σ0 σ G ρ F st I) (hk : RK σ') (hw : rv σ' 85 = L) (hL : CL G ρ L (rv σ 87)) (hf : FrW 85 σ σ') : TGI σ0 σ' G ρ F st I := by
  obtain ⟨h1, h2, h3, h4, h5, h6, h7⟩ := h
  exact ⟨hk, (FrW_rv hf row85 row83 (by omega)).trans h2, by rw [hw, FrW_rv hf row85 row87 (by omega)]; exact hL, (FrW_rv hf row85 row78 (by omega)).trans h4, (FrW_rv hf row85 row91 (by omega)).trans h5, (FrW_rv hf row85 row89 (by omega)).trans h6, fun a ha => (hf a (by omega) (by omega)).trans (h7 a ha)⟩
theorem TGI_f {F' : List Int} (h : TGI σ0 σ G ρ F st I) (hk : RK σ') (hw : rv σ' 78 = F') (hf : FrW 78 σ σ') : TGI σ0 σ' G ρ F' st I := by
  obtain ⟨h1, h2, h3, h4, h5, h6, h7⟩ := h
  exact ⟨hk, (FrW_rv hf row78 row83 (by omega)).trans h2, by rw [FrW_rv hf row78 row85 (by omega), FrW_rv hf row78 row87 (by omega)]; exact h3, hw, (FrW_rv hf row78 row91 (by omega)).trans h5, (FrW_rv hf row78 row89 (by omega)).trans h6, fun a ha => (hf a (by omega) (by omega)).trans (h7 a ha)⟩
theorem TGI_s {st' : List Int} (h : TGI σ0 σ G ρ F st I) (hk : RK σ') (hw : rv σ' 91 = st'.reverse) (hf : FrW 91 σ σ') : TGI σ0 σ' G ρ F st' I := by
  obtain ⟨h1, h2, h3, h4, h5, h6, h7⟩ := h
  exact ⟨hk, (FrW_rv hf row91 row83 (by omega)).trans h2, by rw [FrW_rv hf row91 row85 (by omega), FrW_rv hf row91 row87 (by omega)]; exact h3, (FrW_rv hf row91 row78 (by omega)).trans h4, hw, (FrW_rv hf row91 row89 (by omega)).trans h6, fun a ha => (hf a (by omega) (by omega)).trans (h7 a ha)⟩
theorem TGI_i {I' : List Int} (h : TGI σ0 σ G ρ F st I) (hk : RK σ') (hw : rv σ' 89 = I') (hf : FrW 89 σ σ') : TGI σ0 σ' G ρ F st I' := by
  obtain ⟨h1, h2, h3, h4, h5, h6, h7⟩ := h
  exact ⟨hk, (FrW_rv hf row89 row83 (by omega)).trans h2, by rw [FrW_rv hf row89 row85 (by omega), FrW_rv hf row89 row87 (by omega)]; exact h3, (FrW_rv hf row89 row78 (by omega)).trans h4, (FrW_rv hf row89 row91 (by omega)).trans h5, hw, fun a ha => (hf a (by omega) (by omega)).trans (h7 a ha)⟩
theorem lset_at {l : List Int} {i j : Nat} {v : Int} (hi : i < l.length) : lat (lset l (i : Int) v) (j : Int) = if j = i then v else lat l (j : Int) := by
  have hi0 : (0 : Int) ≤ (i : Int) := by omega
  have hj0 : (0 : Int) ≤ (j : Int) := by omega
  unfold lset lat
  simp only [if_pos hi0, if_pos hj0, Int.toNat_natCast, List.getD_eq_getElem?_getD, List.getElem?_set]
  by_cases e : j = i
  · subst e; rw [if_pos rfl, if_pos hi, if_pos rfl]; rfl
  · rw [if_neg (fun z => e z.symm), if_neg e]
theorem lset_len {l : List Int} {x v : Int} : (lset l x v).length = l.length := by
  unfold lset; split <;> simp
theorem wr85 (h : TGI σ0 σ G ρ F st I) (hW : WG G ρ) (hl : nlk G G.length ≤ 200) (hg : G.length ≤ 520) (hi : i < G.length) (Q : List AV → aSg → Prop) (hq : ∀ (σ' : aSg) (j : Nat), TGI σ0 σ' G ρ F st I → Rl G i j → j < G.length → Q [.inl (j : Int)] σ') : CA m85 [.inr (.inl 82), .inl (i : Int)] σ Q := by
  rw [e85]
  obtain ⟨h1, h2, h3, h4, h5, h6, h7⟩ := id h
  obtain ⟨c1, c2, c3, c4⟩ := id h3
  simp (disch := omega) only [s85_0, s85_1, s85_2, s85_3, s85_5, s85_8, s85_11, s85_12, s85_15, s85_16, s85_19, s85_20, s85_23, s85_24, s85_27, s85_28, s85_31, s85_32, s85_35, s85_38, s85_39, s85_40, s85_43, s85_44, s85_47, s85_48, s85_49, s85_52, s85_53, List.cons_append, List.nil_append, if_true, if_false, true_and, and_true, and_self, eq_self, true_or, or_true, false_or, or_false, tIn, tLe, fLe, tLt, fLt, tEq, fEq, isL]
  -- the end
  have fin : ∀ (f : Nat) (l3 : Int), f < G.length → cl G f ≠ 2 → Rl G i f → (f = i ∨ (ρ f < ρ i ∧ cl G i = 2)) → WP m85 38 [.inr (.inl 82), .inl (i : Int), .inl (f : Int), .inl l3] [] σ Q := by
    intro f l3 f1 f2 f3 f4
    by_cases e : f = i
    · subst e
      simp (disch := omega) only [s85_0, s85_1, s85_2, s85_3, s85_5, s85_8, s85_11, s85_12, s85_15, s85_16, s85_19, s85_20, s85_23, s85_24, s85_27, s85_28, s85_31, s85_32, s85_35, s85_38, s85_39, s85_40, s85_43, s85_44, s85_47, s85_48, s85_49, s85_52, s85_53, List.cons_append, List.nil_append, if_true, if_false, true_and, and_true, and_self, eq_self, true_or, or_true, false_or, or_false, tIn, tLe, fLe, tLt, fLt, tEq, fEq, isL]
      exact hq σ f h f3 f1
    · have f5 : ρ f < ρ i ∧ cl G i = 2 := by rcases f4 with q | q; exact absurd q e; exact q
      have kk : RK (rs σ 85 (lset (rv σ 85) (i : Int) (f : Int))) := RK_rs h1 row85 (by rw [lset_len, c1, cp85]; omega)
      have ff : FrW 85 σ (rs σ 85 (lset (rv σ 85) (i : Int) (f : Int))) := fun a h1 h2 => rs_at h1 h2
      simp (disch := omega) only [s85_0, s85_1, s85_2, s85_3, s85_5, s85_8, s85_11, s85_12, s85_15, s85_16, s85_19, s85_20, s85_23, s85_24, s85_27, s85_28, s85_31, s85_32, s85_35, s85_38, s85_39, s85_40, s85_43, s85_44, s85_47, s85_48, s85_49, s85_52, s85_53, List.cons_append, List.nil_append, if_true, if_false, true_and, and_true, and_self, eq_self, true_or, or_true, false_or, or_false, tIn, tLe, fLe, tLt, fLt, tEq, fEq, isL, row85.1, c33 row85 h1]
      refine hq _ f (TGI_l h kk rv_rs ⟨by rw [lset_len]; exact c1, c2, fun m m1 m2 => ?_, fun m m1 m2 => ?_⟩ ff) f3 f1
      · rw [lset_at (by omega), if_neg (by intro z; rw [z, f5.2] at m2; omega)]
        exact c3 m m1 m2
      · rw [lset_at (by omega)]
        by_cases z : m = i
        · subst z
          rw [if_pos rfl]
          exact ⟨f, rfl, f1, f5.1, fun k hk => by rw [← Rl_un f3 hk]; exact Rl_self f2⟩
        · rw [if_neg z]; exact c4 m m1 m2
  obtain ⟨je, r1, r2, r3⟩ := Rl_ex hW (ρ i) i (Nat.le_refl _) hi
  have lp : ∀ (m k f : Nat), k + m = 200 → f < G.length → (∀ k, Rl G i k → Rl G f k) → (f = i ∨ (ρ f < ρ i ∧ cl G i = 2)) → cnk G ρ (ρ f + 1) G.length ≤ m → WP m85 4 [.inr (.inl 82), .inl (i : Int), .inl (f : Int), .inl (k : Int)] [] σ Q := by
    intro m
    induction m with
    | zero =>
      intro k f hk f1 f2 f3 f4
      have f5 : cl G f ≠ 2 := by
        intro z
        have := cnk_lt (G := G) (ρ := ρ) (b := 0) (d := ρ f + 1) (i := f) (by omega) z (by omega) (by omega) G.length f1
        omega
      have f6 : f = je := Rl_un (Rl_self f5) (f2 je r1)
      rw [s85_4]
      simp (disch := omega) only [s85_0, s85_1, s85_2, s85_3, s85_5, s85_8, s85_11, s85_12, s85_15, s85_16, s85_19, s85_20, s85_23, s85_24, s85_27, s85_28, s85_31, s85_32, s85_35, s85_39, s85_40, s85_43, s85_44, s85_47, s85_48, s85_49, s85_52, s85_53, List.cons_append, List.nil_append, if_true, if_false, true_and, and_true, and_self, eq_self, true_or, or_true, false_or, or_false, tIn, tLe, fLe, tLt, fLt, tEq, fEq, isL]
      exact fin f _ f1 f5 (by rw [f6]; exact r1) f3
    | succ m ih =>
      intro k f hk f1 f2 f3 f4
      have em := map_at f1
      rw [s85_4]
      by_cases g : cl G f = 2
      · obtain ⟨f', e1, e2, e3, e4⟩ := c4 f f1 g
        have := cnk_lt (G := G) (ρ := ρ) (b := ρ f' + 1) (d := ρ f + 1) (i := f) (by omega) g (by omega) (by omega) G.length f1
        simp (disch := omega) only [s85_0, s85_1, s85_2, s85_3, s85_5, s85_8, s85_11, s85_12, s85_15, s85_16, s85_19, s85_20, s85_23, s85_24, s85_27, s85_28, s85_31, s85_32, s85_35, s85_39, s85_40, s85_43, s85_44, s85_47, s85_48, s85_49, s85_52, s85_53, List.cons_append, List.nil_append, if_true, if_false, true_and, and_true, and_self, eq_self, true_or, or_true, false_or, or_false, tIn, tLe, fLe, tLt, fLt, tEq, fEq, isL, row83.1, c30 row83 h1, h2, em, g, row85.1, c30 row85 h1, e1]
        refine ih (k + 1) f' (by omega) e2 (fun k hk => e4 k (f2 k hk)) (Or.inr ?_) (by omega)
        rcases f3 with q | q
        · subst q; exact ⟨e3, g⟩
        · exact ⟨by omega, q.2⟩
      · have f6 : f = je := Rl_un (Rl_self g) (f2 je r1)
        simp (disch := omega) only [s85_0, s85_1, s85_2, s85_3, s85_5, s85_8, s85_11, s85_12, s85_15, s85_16, s85_19, s85_20, s85_23, s85_24, s85_27, s85_28, s85_31, s85_32, s85_35, s85_39, s85_40, s85_43, s85_44, s85_47, s85_48, s85_49, s85_52, s85_53, List.cons_append, List.nil_append, if_true, if_false, true_and, and_true, and_self, eq_self, true_or, or_true, false_or, or_false, tIn, tLe, fLe, tLt, fLt, tEq, fEq, isL, row83.1, c30 row83 h1, h2, em]
        exact fin f _ f1 g (by rw [f6]; exact r1) f3
  exact lp 200 0 i (by omega) hi (fun k hk => hk) (Or.inl rfl) (by have := cnk_le (G := G) (ρ := ρ) (ρ i + 1) G.length; omega)
abbrev Nt : Type := Nat × Lt
def fiL : List Nt → List Nat
  | [] => []
  | e :: es => fi e.2 ++ fiL es
def ndL (es : List Nt) : List Int := es.map (fun e => (e.1 : Int))
theorem fi_pos : ∀ T : Lt, 0 < (fi T).length := by
  intro T
  cases T with
  | leaf j => simp [fi]
  | branch j a b => simp [fi]
theorem wr84 (h : TGI σ0 σ G ρ F st I) (hW : WG G ρ) (h0 : 0 < G.length) (hl : nlk G G.length ≤ 200) (hg : G.length ≤ 520) (Q : List AV → aSg → Prop) (hq : ∀ (σ' : aSg) (st' : List Int), TGI σ0 σ' G ρ ((fG G).take 301) st' (((idG G).take 301).map (fun d : Nat => (d : Int))) → Q [] σ') : CA m84 [.inr (.inl 82), .inr (.inl 78)] σ Q := by
  rw [e84]
  have c91 := cp91
  have c89 := cp89
  have c78 := cp78
  simp (disch := omega) only [s84_0, s84_1, s84_4, s84_5, s84_8, s84_11, s84_12, s84_15, s84_18, s84_19, s84_22, s84_23, s84_26, s84_27, s84_29, s84_32, s84_35, s84_36, s84_39, s84_42, s84_45, s84_46, s84_47, s84_50, s84_53, s84_56, s84_57, s84_58, s84_61, s84_62, s84_65, s84_67, s84_68, s84_71, s84_72, s84_75, s84_76, s84_78, s84_81, s84_83, s84_84, s84_87, s84_88, s84_91, s84_92, s84_95, s84_96, s84_99, s84_102, s84_103, s84_106, s84_107, s84_110, s84_111, s84_114, s84_117, s84_120, s84_123, List.cons_append, List.nil_append, if_true, if_false, true_and, and_true, and_self, eq_self, true_or, or_true, false_or, or_false, tIn, tLe, fLe, tLt, fLt, tEq, fEq, isL, row78.1, row89.1, row91.1]
  refine rclr_ok row78 h.1 _ (fun σ1 k1 w1 f1 => ?_)
  have i1 := TGI_f h k1 w1 f1
  simp (disch := omega) only [s84_0, s84_1, s84_4, s84_5, s84_8, s84_11, s84_12, s84_15, s84_18, s84_19, s84_22, s84_23, s84_26, s84_27, s84_29, s84_32, s84_35, s84_36, s84_39, s84_42, s84_45, s84_46, s84_47, s84_50, s84_53, s84_56, s84_57, s84_58, s84_61, s84_62, s84_65, s84_67, s84_68, s84_71, s84_72, s84_75, s84_76, s84_78, s84_81, s84_83, s84_84, s84_87, s84_88, s84_91, s84_92, s84_95, s84_96, s84_99, s84_102, s84_103, s84_106, s84_107, s84_110, s84_111, s84_114, s84_117, s84_120, s84_123, List.cons_append, List.nil_append, if_true, if_false, true_and, and_true, and_self, eq_self, true_or, or_true, false_or, or_false, tIn, tLe, fLe, tLt, fLt, tEq, fEq, isL, row78.1, row89.1, row91.1]
  refine rclr_ok row89 k1 _ (fun σ2 k2 w2 f2 => ?_)
  have i2 := TGI_i i1 k2 w2 f2
  simp (disch := omega) only [s84_0, s84_1, s84_4, s84_5, s84_8, s84_11, s84_12, s84_15, s84_18, s84_19, s84_22, s84_23, s84_26, s84_27, s84_29, s84_32, s84_35, s84_36, s84_39, s84_42, s84_45, s84_46, s84_47, s84_50, s84_53, s84_56, s84_57, s84_58, s84_61, s84_62, s84_65, s84_67, s84_68, s84_71, s84_72, s84_75, s84_76, s84_78, s84_81, s84_83, s84_84, s84_87, s84_88, s84_91, s84_92, s84_95, s84_96, s84_99, s84_102, s84_103, s84_106, s84_107, s84_110, s84_111, s84_114, s84_117, s84_120, s84_123, List.cons_append, List.nil_append, if_true, if_false, true_and, and_true, and_self, eq_self, true_or, or_true, false_or, or_false, tIn, tLe, fLe, tLt, fLt, tEq, fEq, isL, row78.1, row89.1, row91.1]
  refine rclr_ok row91 k2 _ (fun σ3 k3 w3 f3 => ?_)
  have i3 := TGI_s (st' := []) i2 k3 (by rw [w3]; rfl) f3
  simp (disch := omega) only [s84_0, s84_1, s84_4, s84_5, s84_8, s84_11, s84_12, s84_15, s84_18, s84_19, s84_22, s84_23, s84_26, s84_27, s84_29, s84_32, s84_35, s84_36, s84_39, s84_42, s84_45, s84_46, s84_47, s84_50, s84_53, s84_56, s84_57, s84_58, s84_61, s84_62, s84_65, s84_67, s84_68, s84_71, s84_72, s84_75, s84_76, s84_78, s84_81, s84_83, s84_84, s84_87, s84_88, s84_91, s84_92, s84_95, s84_96, s84_99, s84_102, s84_103, s84_106, s84_107, s84_110, s84_111, s84_114, s84_117, s84_120, s84_123, List.cons_append, List.nil_append, if_true, if_false, true_and, and_true, and_self, eq_self, true_or, or_true, false_or, or_false, tIn, tLe, fLe, tLt, fLt, tEq, fEq, isL, row78.1, row89.1, row91.1]
  refine radd_ok row91 k3 w3 (by simp; omega) _ (fun σ4 k4 w4 f4 => ?_)
  have i4 := TGI_s (st' := [0]) i3 k4 (by rw [w4]; rfl) f4
  simp (disch := omega) only [s84_0, s84_1, s84_4, s84_5, s84_8, s84_11, s84_12, s84_15, s84_18, s84_19, s84_22, s84_23, s84_26, s84_27, s84_29, s84_32, s84_35, s84_36, s84_39, s84_42, s84_45, s84_46, s84_47, s84_50, s84_53, s84_56, s84_57, s84_58, s84_61, s84_62, s84_65, s84_67, s84_68, s84_71, s84_72, s84_75, s84_76, s84_78, s84_81, s84_83, s84_84, s84_87, s84_88, s84_91, s84_92, s84_95, s84_96, s84_99, s84_102, s84_103, s84_106, s84_107, s84_110, s84_111, s84_114, s84_117, s84_120, s84_123, List.cons_append, List.nil_append, if_true, if_false, true_and, and_true, and_self, eq_self, true_or, or_true, false_or, or_false, tIn, tLe, fLe, tLt, fLt, tEq, fEq, isL]
  have U0 := ufd_ok hW h0
  have lp : ∀ (m k : Nat) (X : List Nat) (es : List Nt) (σ5 : aSg) (l3 l4 : AV), k + m = 301 → X.length = k → X ++ fiL es = idG G → es.length ≤ k + 1 → (∀ e ∈ es, e.1 < G.length ∧ Ul G e.1 e.2) → TGI σ0 σ5 G ρ (X.map (cl G)) (ndL es) (X.map (fun d : Nat => (d : Int))) → WP m84 28 [.inr (.inl 82), .inr (.inl 78), .inl (k : Int), l3, l4] [] σ5 Q := by
    intro m
    induction m with
    | zero =>
      intro k X es σ5 l3 l4 q1 q2 q3 q4 q5 q6
      have e1 : (idG G).take 301 = X := by rw [← q3, List.take_append_of_le_length (by omega), List.take_of_length_le (by omega)]
      rw [s84_28]
      simp (disch := omega) only [s84_0, s84_1, s84_4, s84_5, s84_8, s84_11, s84_12, s84_15, s84_18, s84_19, s84_22, s84_23, s84_26, s84_27, s84_29, s84_32, s84_35, s84_36, s84_39, s84_42, s84_45, s84_46, s84_47, s84_50, s84_53, s84_56, s84_57, s84_58, s84_61, s84_62, s84_65, s84_67, s84_68, s84_71, s84_72, s84_75, s84_76, s84_78, s84_81, s84_83, s84_84, s84_87, s84_88, s84_91, s84_92, s84_95, s84_96, s84_99, s84_102, s84_103, s84_106, s84_107, s84_110, s84_111, s84_114, s84_117, s84_120, s84_123, List.cons_append, List.nil_append, if_true, if_false, true_and, and_true, and_self, eq_self, true_or, or_true, false_or, or_false, tIn, tLe, fLe, tLt, fLt, tEq, fEq, isL]
      refine hq σ5 (ndL es) ?_
      unfold fG
      rw [← List.map_take, e1]; exact q6
    | succ m ih =>
      intro k X es σ5 l3 l4 q1 q2 q3 q4 q5 q6
      obtain ⟨h1, h2, h3, h4, h5, h6, h7⟩ := id q6
      rw [s84_28]
      cases es with
      | nil =>
        have e1 : (idG G).take 301 = X := by rw [← q3]; simp only [fiL, List.append_nil]; rw [List.take_of_length_le (by omega)]
        have z0 : ((ndL []).reverse.length : Int) = 0 := rfl
        simp (disch := omega) only [s84_0, s84_1, s84_4, s84_5, s84_8, s84_11, s84_12, s84_15, s84_18, s84_19, s84_22, s84_23, s84_26, s84_27, s84_29, s84_32, s84_35, s84_36, s84_39, s84_42, s84_45, s84_46, s84_47, s84_50, s84_53, s84_56, s84_57, s84_58, s84_61, s84_62, s84_65, s84_67, s84_68, s84_71, s84_72, s84_75, s84_76, s84_78, s84_81, s84_83, s84_84, s84_87, s84_88, s84_91, s84_92, s84_95, s84_96, s84_99, s84_102, s84_103, s84_106, s84_107, s84_110, s84_111, s84_114, s84_117, s84_120, s84_123, List.cons_append, List.nil_append, if_true, if_false, true_and, and_true, and_self, eq_self, true_or, or_true, false_or, or_false, tIn, tLe, fLe, tLt, fLt, tEq, fEq, isL, row91.1, c28 row91 h1, h5, z0]
        refine hq σ5 (ndL []) ?_
        unfold fG
        rw [← List.map_take, e1]; exact q6
      | cons e es =>
        obtain ⟨n, U⟩ := e
        obtain ⟨hn, hU⟩ := q5 _ (List.mem_cons_self ..)
        have q5' : ∀ e ∈ es, e.1 < G.length ∧ Ul G e.1 e.2 := fun u hu => q5 u (List.mem_cons_of_mem _ hu)
        have z1 : ((ndL ((n, U) :: es)).reverse.length : Int) = (es.length : Int) + 1 := by simp [ndL]
        simp only [List.length_cons] at q4
        simp (disch := omega) only [s84_0, s84_1, s84_4, s84_5, s84_8, s84_11, s84_12, s84_15, s84_18, s84_19, s84_22, s84_23, s84_26, s84_27, s84_29, s84_32, s84_35, s84_36, s84_39, s84_42, s84_45, s84_46, s84_47, s84_50, s84_53, s84_56, s84_57, s84_58, s84_61, s84_62, s84_65, s84_67, s84_68, s84_71, s84_72, s84_75, s84_76, s84_78, s84_81, s84_83, s84_84, s84_87, s84_88, s84_91, s84_92, s84_95, s84_96, s84_99, s84_102, s84_103, s84_106, s84_107, s84_110, s84_111, s84_114, s84_117, s84_120, s84_123, List.cons_append, List.nil_append, if_true, if_false, true_and, and_true, and_self, eq_self, true_or, or_true, false_or, or_false, tIn, tLe, fLe, tLt, fLt, tEq, fEq, isL, row91.1, c28 row91 h1, h5, z1]
        refine rpop_ok (l := (ndL es).reverse) (v := (n : Int)) row91 h1 (by rw [h5]; simp [ndL]) _ (fun σ6 k6 w6 f6 => ?_)
        have i6 := TGI_s (st' := ndL es) q6 k6 w6 f6
        simp (disch := omega) only [s84_0, s84_1, s84_4, s84_5, s84_8, s84_11, s84_12, s84_15, s84_18, s84_19, s84_22, s84_23, s84_26, s84_27, s84_29, s84_32, s84_35, s84_36, s84_39, s84_42, s84_45, s84_46, s84_47, s84_50, s84_53, s84_56, s84_57, s84_58, s84_61, s84_62, s84_65, s84_67, s84_68, s84_71, s84_72, s84_75, s84_76, s84_78, s84_81, s84_83, s84_84, s84_87, s84_88, s84_91, s84_92, s84_95, s84_96, s84_99, s84_102, s84_103, s84_106, s84_107, s84_110, s84_111, s84_114, s84_117, s84_120, s84_123, List.cons_append, List.nil_append, if_true, if_false, true_and, and_true, and_self, eq_self, true_or, or_true, false_or, or_false, tIn, tLe, fLe, tLt, fLt, tEq, fEq, isL]
        refine wr85 i6 hW hl hg hn _ (fun σ7 j i7 hj hj2 => ?_)
        obtain ⟨b1, b2, b3, b4, b5, b6, b7⟩ := id i7
        have ej := map_at hj2
        simp (disch := omega) only [s84_0, s84_1, s84_4, s84_5, s84_8, s84_11, s84_12, s84_15, s84_18, s84_19, s84_22, s84_23, s84_26, s84_27, s84_29, s84_32, s84_35, s84_36, s84_39, s84_42, s84_45, s84_46, s84_47, s84_50, s84_53, s84_56, s84_57, s84_58, s84_61, s84_62, s84_65, s84_67, s84_68, s84_71, s84_72, s84_75, s84_76, s84_78, s84_81, s84_83, s84_84, s84_87, s84_88, s84_91, s84_92, s84_95, s84_96, s84_99, s84_102, s84_103, s84_106, s84_107, s84_110, s84_111, s84_114, s84_117, s84_120, s84_123, List.cons_append, List.nil_append, if_true, if_false, true_and, and_true, and_self, eq_self, true_or, or_true, false_or, or_false, tIn, tLe, fLe, tLt, fLt, tEq, fEq, isL, row83.1, c30 row83 b1, b2, ej, row89.1]
        refine radd_ok row89 b1 b6 (by simp; omega) _ (fun σ8 k8 w8 f8 => ?_)
        have i8 := TGI_i (I' := (X ++ [j]).map (fun d : Nat => (d : Int))) i7 k8 (by rw [w8]; simp) f8
        simp (disch := omega) only [s84_0, s84_1, s84_4, s84_5, s84_8, s84_11, s84_12, s84_15, s84_18, s84_19, s84_22, s84_23, s84_26, s84_27, s84_29, s84_32, s84_35, s84_36, s84_39, s84_42, s84_45, s84_46, s84_47, s84_50, s84_53, s84_56, s84_57, s84_58, s84_61, s84_62, s84_65, s84_67, s84_68, s84_71, s84_72, s84_75, s84_76, s84_78, s84_81, s84_83, s84_84, s84_87, s84_88, s84_91, s84_92, s84_95, s84_96, s84_99, s84_102, s84_103, s84_106, s84_107, s84_110, s84_111, s84_114, s84_117, s84_120, s84_123, List.cons_append, List.nil_append, if_true, if_false, true_and, and_true, and_self, eq_self, true_or, or_true, false_or, or_false, tIn, tLe, fLe, tLt, fLt, tEq, fEq, isL, row78.1]
        refine radd_ok row78 k8 i8.2.2.2.1 (by simp; omega) _ (fun σ9 k9 w9 f9 => ?_)
        have i9 := TGI_f (F' := (X ++ [j]).map (cl G)) i8 k9 (by rw [w9]; simp) f9
        obtain ⟨b1, b2, b3, b4, b5, b6, b7⟩ := id i9
        cases U with
        | leaf j2 =>
          have e2 := Rl_un hj hU.1
          subst e2
          have hc := hU.2
          simp only [fiL, fi] at q3
          simp (disch := omega) only [s84_0, s84_1, s84_4, s84_5, s84_8, s84_11, s84_12, s84_15, s84_18, s84_19, s84_22, s84_23, s84_26, s84_27, s84_29, s84_32, s84_35, s84_36, s84_39, s84_42, s84_45, s84_46, s84_47, s84_50, s84_53, s84_56, s84_57, s84_58, s84_61, s84_62, s84_65, s84_67, s84_68, s84_71, s84_72, s84_75, s84_76, s84_78, s84_81, s84_83, s84_84, s84_87, s84_88, s84_91, s84_92, s84_95, s84_96, s84_99, s84_102, s84_103, s84_106, s84_107, s84_110, s84_111, s84_114, s84_117, s84_120, s84_123, List.cons_append, List.nil_append, if_true, if_false, true_and, and_true, and_self, eq_self, true_or, or_true, false_or, or_false, tIn, tLe, fLe, tLt, fLt, tEq, fEq, isL]
          exact ih (k + 1) (X ++ [j]) es σ9 _ _ (by omega) (by simp; omega) (by rw [← q3]; simp) (by omega) q5' i9
        | branch j2 a b =>
          have e2 := Rl_un hj hU.1
          subst e2
          have hc := hU.2.1
          obtain ⟨p1, p2, p3, p4⟩ := put_in hW hj2 hc
          obtain ⟨x1, x2⟩ := b3.2.2.1 j hj2 hc
          simp only [fiL, fi] at q3
          simp (disch := omega) only [s84_0, s84_1, s84_4, s84_5, s84_8, s84_11, s84_12, s84_15, s84_18, s84_19, s84_22, s84_23, s84_26, s84_27, s84_29, s84_32, s84_35, s84_36, s84_39, s84_42, s84_45, s84_46, s84_47, s84_50, s84_53, s84_56, s84_57, s84_58, s84_61, s84_62, s84_65, s84_67, s84_68, s84_71, s84_72, s84_75, s84_76, s84_78, s84_81, s84_83, s84_84, s84_87, s84_88, s84_91, s84_92, s84_95, s84_96, s84_99, s84_102, s84_103, s84_106, s84_107, s84_110, s84_111, s84_114, s84_117, s84_120, s84_123, List.cons_append, List.nil_append, if_true, if_false, true_and, and_true, and_self, eq_self, true_or, or_true, false_or, or_false, tIn, tLe, fLe, tLt, fLt, tEq, fEq, isL, row91.1, row87.1, c30 row87 b1, hc, x2]
          refine radd_ok row91 b1 b5 (by simp [ndL]; omega) _ (fun σ10 k10 w10 f10 => ?_)
          have i10 := TGI_s (st' := ndL ((rt G j, b) :: es)) i9 k10 (by rw [w10]; simp [ndL]) f10
          obtain ⟨d1, d2, d3, d4, d5, d6, d7⟩ := id i10
          obtain ⟨y1, y2⟩ := d3.2.2.1 j hj2 hc
          simp (disch := omega) only [s84_0, s84_1, s84_4, s84_5, s84_8, s84_11, s84_12, s84_15, s84_18, s84_19, s84_22, s84_23, s84_26, s84_27, s84_29, s84_32, s84_35, s84_36, s84_39, s84_42, s84_45, s84_46, s84_47, s84_50, s84_53, s84_56, s84_57, s84_58, s84_61, s84_62, s84_65, s84_67, s84_68, s84_71, s84_72, s84_75, s84_76, s84_78, s84_81, s84_83, s84_84, s84_87, s84_88, s84_91, s84_92, s84_95, s84_96, s84_99, s84_102, s84_103, s84_106, s84_107, s84_110, s84_111, s84_114, s84_117, s84_120, s84_123, List.cons_append, List.nil_append, if_true, if_false, true_and, and_true, and_self, eq_self, true_or, or_true, false_or, or_false, tIn, tLe, fLe, tLt, fLt, tEq, fEq, isL, row91.1, row85.1, c30 row85 d1, y1]
          refine radd_ok row91 d1 d5 (by simp [ndL]; omega) _ (fun σ11 k11 w11 f11 => ?_)
          have i11 := TGI_s (st' := ndL ((lf G j, a) :: (rt G j, b) :: es)) i10 k11 (by rw [w11]; simp [ndL]) f11
          simp (disch := omega) only [s84_0, s84_1, s84_4, s84_5, s84_8, s84_11, s84_12, s84_15, s84_18, s84_19, s84_22, s84_23, s84_26, s84_27, s84_29, s84_32, s84_35, s84_36, s84_39, s84_42, s84_45, s84_46, s84_47, s84_50, s84_53, s84_56, s84_57, s84_58, s84_61, s84_62, s84_65, s84_67, s84_68, s84_71, s84_72, s84_75, s84_76, s84_78, s84_81, s84_83, s84_84, s84_87, s84_88, s84_91, s84_92, s84_95, s84_96, s84_99, s84_102, s84_103, s84_106, s84_107, s84_110, s84_111, s84_114, s84_117, s84_120, s84_123, List.cons_append, List.nil_append, if_true, if_false, true_and, and_true, and_self, eq_self, true_or, or_true, false_or, or_false, tIn, tLe, fLe, tLt, fLt, tEq, fEq, isL]
          refine ih (k + 1) (X ++ [j]) ((lf G j, a) :: (rt G j, b) :: es) σ11 _ _ (by omega) (by simp; omega) (by rw [← q3]; simp [fiL]) (by simp; omega) (fun e he => ?_) i11
          rcases List.mem_cons.mp he with rfl | he
          · exact ⟨p1, hU.2.2.1⟩
          rcases List.mem_cons.mp he with rfl | he
          · exact ⟨p2, hU.2.2.2⟩
          exact q5' e he
  refine lp 301 0 [] [(0, ufd G)] σ4 _ _ (by omega) rfl (by simp [fiL, idG]) (by simp) (fun e he => ?_) (by simpa [ndL] using i4)
  rcases List.mem_singleton.mp he with rfl
  exact ⟨h0, U0⟩
end THG
