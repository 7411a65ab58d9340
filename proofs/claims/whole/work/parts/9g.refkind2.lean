/-! kinds: the reference's search -/
section RK2
variable {σ σ0 σ' : aSg} {K : List AV → aSg → Prop} {n n' n0 : Nat} {fr to fr' to' : Nat → Int} {o o' : Nat → Nat} {lb : Nat → Lb} {T CK st st' : List Int} {p q a b κ : Nat} {c : Int} {s : Int}
theorem psF_one {u : Tm} : psF 0 [u] = [0] := rfl
theorem wr187l (hT : isT T) (hkT : tks T) (hl : T.length ≤ 120) (hn0 : n0 ≤ 146) (Q : List AV → aSg → Prop) (hq : ∀ (σ : aSg) (n : Nat) (fr to : Nat → Int) (o : Nat → Nat) (CK : List Int) (l3 l4 l5 : AV), KLm σ0 σ T n fr to o n0 lb [lat CK 0] → FdD n T CK 0 → FdI n fr to o n0 lb T CK 0 → n0 ≤ n → n ≤ 900 → WP m187 213 [.inr (.inl 130), .inl s, .inl (-1), l3, l4, l5] [] σ Q) : ∀ (p : Nat) (σ : aSg) (n : Nat) (fr to : Nat → Int) (o : Nat → Nat) (CK : List Int) (ts : List Tm) (l3 l4 l5 : AV), p ≤ T.length → T.drop p = flF ts → (∀ v ∈ ts, wt v) → KLm σ0 σ T n fr to o n0 lb ((psF p ts).map (fun q : Nat => lat CK (q : Int))) → FdD n T CK p → FdI n fr to o n0 lb T CK p → n0 ≤ n → n ≤ n0 + csS (T.drop p) → WP m187 88 [.inr (.inl 130), .inl s, .inl ((p : Int) - 1), l3, l4, l5] [] σ Q := by
  have ct := cost_T hT hl
  have l0 := ln134
  have l9 := ln149
  intro p
  induction p with
  | zero =>
    intro σ n fr to o CK ts l3 l4 l5 hp ht hw h hC hF h0 hn
    have cl := csS_le (T := T) (p := 0)
    obtain ⟨u, u1, u2⟩ := ex_fl T hT
    have ht' : flF ts = fl u ++ [] := by rw [← ht, List.drop_zero, u2, List.append_nil]
    obtain ⟨ts', e1, e2⟩ := flF_inj ht' u1 hw
    have e3 : ts' = [] := by
      have := flF_len ts' (fun v hv => hw v (by rw [e1]; exact List.mem_cons_of_mem _ hv))
      rw [e2] at this
      exact List.length_eq_zero_iff.mp (by simpa using this)
    rw [e1, e3, psF_one] at h
    have e0 : ((0 : Nat) : Int) - 1 = -1 := by omega
    rw [e0, s187_88]
    simp (disch := omega) only [s187_0, s187_1, s187_2, s187_5, s187_6, s187_7, s187_10, s187_11, s187_12, s187_15, s187_16, s187_17, s187_18, s187_20, s187_23, s187_24, s187_27, s187_28, s187_29, s187_32, s187_33, s187_36, s187_39, s187_40, s187_41, s187_42, s187_43, s187_46, s187_49, s187_50, s187_53, s187_54, s187_55, s187_58, s187_59, s187_60, s187_63, s187_66, s187_67, s187_70, s187_73, s187_74, s187_75, s187_78, s187_81, s187_82, s187_85, s187_86, s187_87, s187_89, s187_92, s187_93, s187_96, s187_97, s187_98, s187_101, s187_102, s187_105, s187_106, s187_107, s187_110, s187_112, s187_113, s187_116, s187_118, s187_119, s187_120, s187_121, s187_123, s187_125, s187_128, s187_131, s187_132, s187_134, s187_137, s187_140, s187_141, s187_144, s187_145, s187_146, s187_149, s187_152, s187_153, s187_154, s187_155, s187_158, s187_159, s187_160, s187_161, s187_164, s187_167, s187_170, s187_173, s187_174, s187_175, s187_178, s187_179, s187_180, s187_183, s187_186, s187_187, s187_188, s187_191, s187_194, s187_195, s187_196, s187_199, s187_200, s187_201, s187_204, s187_207, s187_210, s187_214, s187_217, s187_218, s187_219, s187_222, s187_225, s187_226, s187_229, s187_230, List.cons_append, List.nil_append, if_true, if_false, true_and, and_true, and_self, eq_self, true_or, or_true, false_or, or_false, tIn, tLe, fLe, tLt, fLt, tEq, fEq, isL]
    exact hq σ n fr to o CK l3 l4 l5 h hC hF h0 (by omega)
  | succ p ih =>
    intro σ n fr to o CK ts l3 l4 l5 hp ht hw h hC hF h0 hn
    have hpl : p < T.length := by omega
    have hg : T.getD p 0 = T[p] := by rw [List.getD_eq_getElem?_getD, List.getElem?_eq_getElem hpl]; rfl
    have e0 : ((p + 1 : Nat) : Int) - 1 = (p : Int) := by omega
    have em : (p : Int) + -1 = (p : Int) - 1 := by omega
    have cd := csS_drop hpl
    have cl := csS_le (T := T) (p := p)
    have tk := hkT _ (List.getElem_mem hpl)
    have hCl := hC.1
    have hcq : ∀ σ1 : aSg, tmM σ1 T → σ1 134 p = tau T[p] := fun σ1 h1 => h1.2 p _ (List.getElem?_eq_getElem hpl)
    obtain ⟨u, hA⟩ := At_ex hT hpl
    obtain ⟨hwu, r, hr⟩ := id hA
    have hsl := flF_len ts hw
    have hsl2 : (flF ts).length ≤ 120 := by rw [← ht, List.length_drop]; omega
    have pl : ∀ q, ((psF q ts).map (fun q : Nat => lat CK (q : Int))).length ≤ 120 := fun q => by rw [List.length_map, psF_len]; omega
    rw [e0, s187_88]
    cases u with
    | num c =>
      obtain ⟨g1, g2⟩ := At_num hA
      obtain ⟨_, g3⟩ := List.getElem?_eq_some_iff.mp g1
      have g0 := arT_0' g2
      rw [g3] at hcq tk hg
      have z1 : ¬ tau c = 0 := fun z => g0.1 ((tau_0 tk).mp z)
      have z2 : ¬ 1000 ≤ tau c := fun z => g0.2 ((tau_b tk).mp z)
      have hcq' := hcq σ h.1
      have hd' : T.drop p = flF (.num c :: ts) := by
        rw [flF, ← ht, List.drop_eq_getElem_cons hpl, g3]; rfl
      have hw' : ∀ v ∈ (.num c :: ts : List Tm), wt v := fun v hv => by
        rcases List.mem_cons.mp hv with rfl | hv
        · exact hwu
        · exact hw v hv
      have fin : ∀ (σ2 : aSg) (n2 : Nat) (fr2 to2 : Nat → Int) (o2 : Nat → Nat) (κ : Nat), KLm σ0 σ2 T n2 fr2 to2 o2 n0 lb ((psF (p + 1) ts).map (fun q : Nat => lat CK (q : Int))) → FdI n2 fr2 to2 o2 n0 lb T (lset CK (p : Int) (κ : Int)) p → n ≤ n2 → n2 ≤ n + cst c → κ < n2 → WP m187 204 [.inr (.inl 130), .inl s, .inl (p : Int), l3, l4, l5] [.inl (κ : Int), .inr (.inl 130)] σ2 Q := by
        intro σ2 n2 fr2 to2 o2 κ h2 hF2 b1 b2 b3
        rw [s187_204]
        refine zpush h2.2.2.2.1 (by have := pl (p + 1); omega) _ (fun σ3 w3 f3 => ?_)
        have h3 := KLm_s (st' := (psF p (.num c :: ts)).map (fun q : Nat => lat (lset CK (p : Int) (κ : Int)) (q : Int))) h2 (by
          simp only [psF, fl, List.length_cons, List.length_nil, List.map_cons]
          rw [psF_map (q := p + 1) (by omega) ts (p + 1) (by omega) (by omega), lset_at (by omega), if_pos rfl]
          exact w3) f3
        simp (disch := omega) only [s187_0, s187_1, s187_2, s187_5, s187_6, s187_7, s187_10, s187_11, s187_12, s187_15, s187_16, s187_17, s187_18, s187_20, s187_23, s187_24, s187_27, s187_28, s187_29, s187_32, s187_33, s187_36, s187_39, s187_40, s187_41, s187_42, s187_43, s187_46, s187_49, s187_50, s187_53, s187_54, s187_55, s187_58, s187_59, s187_60, s187_63, s187_66, s187_67, s187_70, s187_73, s187_74, s187_75, s187_78, s187_81, s187_82, s187_85, s187_86, s187_87, s187_89, s187_92, s187_93, s187_96, s187_97, s187_98, s187_101, s187_102, s187_105, s187_106, s187_107, s187_110, s187_112, s187_113, s187_116, s187_118, s187_119, s187_120, s187_121, s187_123, s187_125, s187_128, s187_131, s187_132, s187_134, s187_137, s187_140, s187_141, s187_144, s187_145, s187_146, s187_149, s187_152, s187_153, s187_154, s187_155, s187_158, s187_159, s187_160, s187_161, s187_164, s187_167, s187_170, s187_173, s187_174, s187_175, s187_178, s187_179, s187_180, s187_183, s187_186, s187_187, s187_188, s187_191, s187_194, s187_195, s187_196, s187_199, s187_200, s187_201, s187_204, s187_207, s187_210, s187_214, s187_217, s187_218, s187_219, s187_222, s187_225, s187_226, s187_229, s187_230, List.cons_append, List.nil_append, if_true, if_false, true_and, and_true, and_self, eq_self, true_or, or_true, false_or, or_false, tIn, tLe, fLe, tLt, fLt, tEq, fEq, isL, em]
        exact ih σ3 n2 fr2 to2 o2 _ (.num c :: ts) _ _ _ (by omega) hd' hw' h3 (FdD_st hC hpl b1 b3) hF2 (by omega) (by rw [cd, hg]; omega)
      by_cases gn : 97 ≤ c ∧ c ≤ 122
      · have tc : tau c = c := tau_big (by omega)
        have gn' : 97 ≤ tau c ∧ tau c ≤ 122 := by rw [tc]; exact gn
        simp (disch := omega) only [s187_0, s187_1, s187_2, s187_5, s187_6, s187_7, s187_10, s187_11, s187_12, s187_15, s187_16, s187_17, s187_18, s187_20, s187_23, s187_24, s187_27, s187_28, s187_29, s187_32, s187_33, s187_36, s187_39, s187_40, s187_41, s187_42, s187_43, s187_46, s187_49, s187_50, s187_53, s187_54, s187_55, s187_58, s187_59, s187_60, s187_63, s187_66, s187_67, s187_70, s187_73, s187_74, s187_75, s187_78, s187_81, s187_82, s187_85, s187_86, s187_87, s187_89, s187_92, s187_93, s187_96, s187_97, s187_98, s187_101, s187_102, s187_105, s187_106, s187_107, s187_110, s187_112, s187_113, s187_116, s187_118, s187_119, s187_120, s187_121, s187_123, s187_125, s187_128, s187_131, s187_132, s187_134, s187_137, s187_140, s187_141, s187_144, s187_145, s187_146, s187_149, s187_152, s187_153, s187_154, s187_155, s187_158, s187_159, s187_160, s187_161, s187_164, s187_167, s187_170, s187_173, s187_174, s187_175, s187_178, s187_179, s187_180, s187_183, s187_186, s187_187, s187_188, s187_191, s187_194, s187_195, s187_196, s187_199, s187_200, s187_201, s187_207, s187_210, s187_214, s187_217, s187_218, s187_219, s187_222, s187_225, s187_226, s187_229, s187_230, List.cons_append, List.nil_append, if_true, if_false, true_and, and_true, and_self, eq_self, true_or, or_true, false_or, or_false, tIn, tLe, fLe, tLt, fLt, tEq, fEq, isL, kd134, ln134, Int.toNat_natCast, hcq', c129, c128, if_neg z2, if_pos gn']
        refine wr184 h.1 h.2.2.1 hT hkT hl (by omega) hpl (by rw [hg]; exact gn) _ (fun i i1 i2 => ?_)
        simp (disch := omega) only [s187_0, s187_1, s187_2, s187_5, s187_6, s187_7, s187_10, s187_11, s187_12, s187_15, s187_16, s187_17, s187_18, s187_20, s187_23, s187_24, s187_27, s187_28, s187_29, s187_32, s187_33, s187_36, s187_39, s187_40, s187_41, s187_42, s187_43, s187_46, s187_49, s187_50, s187_53, s187_54, s187_55, s187_58, s187_59, s187_60, s187_63, s187_66, s187_67, s187_70, s187_73, s187_74, s187_75, s187_78, s187_81, s187_82, s187_85, s187_86, s187_87, s187_89, s187_92, s187_93, s187_96, s187_97, s187_98, s187_101, s187_102, s187_105, s187_106, s187_107, s187_110, s187_112, s187_113, s187_116, s187_118, s187_119, s187_120, s187_121, s187_123, s187_125, s187_128, s187_131, s187_132, s187_134, s187_137, s187_140, s187_141, s187_144, s187_145, s187_146, s187_149, s187_152, s187_153, s187_154, s187_155, s187_158, s187_159, s187_160, s187_161, s187_164, s187_167, s187_170, s187_173, s187_174, s187_175, s187_178, s187_179, s187_180, s187_183, s187_186, s187_187, s187_188, s187_191, s187_194, s187_195, s187_196, s187_199, s187_200, s187_201, s187_207, s187_210, s187_214, s187_217, s187_218, s187_219, s187_222, s187_225, s187_226, s187_229, s187_230, List.cons_append, List.nil_append, if_true, if_false, true_and, and_true, and_self, eq_self, true_or, or_true, false_or, or_false, tIn, tLe, fLe, tLt, fLt, tEq, fEq, isL]
        have cc : cst c = 0 := by unfold cst; rw [if_neg (by omega), if_neg (by omega), if_pos gn]
        exact fin σ n fr to o i h (fs_nam hC hF h0 hpl (by rw [hg]; exact gn) i1 i2) (Nat.le_refl _) (by omega) (by omega)
      · have gs : c = 73 ∨ c = 75 ∨ c = 83 ∨ c = 66 ∨ c = 67 := by unfold tok at tk; omega
        have gn' : ¬ (97 ≤ tau c ∧ tau c ≤ 122) := by
          rcases gs with rfl | rfl | rfl | rfl | rfl <;> decide
        have cc : cst c = 9 := by unfold cst; rw [if_neg (by omega), if_neg (by omega), if_neg gn]
        rw [hg, cc] at cd
        simp (disch := omega) only [s187_0, s187_1, s187_2, s187_5, s187_6, s187_7, s187_10, s187_11, s187_12, s187_15, s187_16, s187_17, s187_18, s187_20, s187_23, s187_24, s187_27, s187_28, s187_29, s187_32, s187_33, s187_36, s187_39, s187_40, s187_41, s187_42, s187_43, s187_46, s187_49, s187_50, s187_53, s187_54, s187_55, s187_58, s187_59, s187_60, s187_63, s187_66, s187_67, s187_70, s187_73, s187_74, s187_75, s187_78, s187_81, s187_82, s187_85, s187_86, s187_87, s187_89, s187_92, s187_93, s187_96, s187_97, s187_98, s187_101, s187_102, s187_105, s187_106, s187_107, s187_110, s187_112, s187_113, s187_116, s187_118, s187_119, s187_120, s187_121, s187_123, s187_125, s187_128, s187_131, s187_132, s187_134, s187_137, s187_140, s187_141, s187_144, s187_145, s187_146, s187_149, s187_152, s187_153, s187_154, s187_155, s187_158, s187_159, s187_160, s187_161, s187_164, s187_167, s187_170, s187_173, s187_174, s187_175, s187_178, s187_179, s187_180, s187_183, s187_186, s187_187, s187_188, s187_191, s187_194, s187_195, s187_196, s187_199, s187_200, s187_201, s187_207, s187_210, s187_214, s187_217, s187_218, s187_219, s187_222, s187_225, s187_226, s187_229, s187_230, List.cons_append, List.nil_append, if_true, if_false, true_and, and_true, and_self, eq_self, true_or, or_true, false_or, or_false, tIn, tLe, fLe, tLt, fLt, tEq, fEq, isL, kd134, ln134, Int.toNat_natCast, hcq', c129, c128, if_neg z2, if_neg gn']
        refine wr183 h.2.1 (by omega) gs _ (fun σ1 n1 fr1 to1 o1 κ i1 b1 b2 b3 E1 E2 => ?_)
        have h1 := KLm_n h i1
        simp (disch := omega) only [s187_0, s187_1, s187_2, s187_5, s187_6, s187_7, s187_10, s187_11, s187_12, s187_15, s187_16, s187_17, s187_18, s187_20, s187_23, s187_24, s187_27, s187_28, s187_29, s187_32, s187_33, s187_36, s187_39, s187_40, s187_41, s187_42, s187_43, s187_46, s187_49, s187_50, s187_53, s187_54, s187_55, s187_58, s187_59, s187_60, s187_63, s187_66, s187_67, s187_70, s187_73, s187_74, s187_75, s187_78, s187_81, s187_82, s187_85, s187_86, s187_87, s187_89, s187_92, s187_93, s187_96, s187_97, s187_98, s187_101, s187_102, s187_105, s187_106, s187_107, s187_110, s187_112, s187_113, s187_116, s187_118, s187_119, s187_120, s187_121, s187_123, s187_125, s187_128, s187_131, s187_132, s187_134, s187_137, s187_140, s187_141, s187_144, s187_145, s187_146, s187_149, s187_152, s187_153, s187_154, s187_155, s187_158, s187_159, s187_160, s187_161, s187_164, s187_167, s187_170, s187_173, s187_174, s187_175, s187_178, s187_179, s187_180, s187_183, s187_186, s187_187, s187_188, s187_191, s187_194, s187_195, s187_196, s187_199, s187_200, s187_201, s187_207, s187_210, s187_214, s187_217, s187_218, s187_219, s187_222, s187_225, s187_226, s187_229, s187_230, List.cons_append, List.nil_append, if_true, if_false, true_and, and_true, and_self, eq_self, true_or, or_true, false_or, or_false, tIn, tLe, fLe, tLt, fLt, tEq, fEq, isL]
        refine fin σ1 n1 fr1 to1 o1 κ h1 (fs_sgn hC hF h0 hpl (by rw [hg]; omega) (by rw [hg]; omega) (by rw [hg]; exact gn) (by rw [hg]; exact E1) (by rw [hg]; exact E2)) b1 (by omega) b3
    | add a b =>
      obtain ⟨g1, A1, A2, e1⟩ := At_add hA
      obtain ⟨_, g3⟩ := List.getElem?_eq_some_iff.mp g1
      rw [g3] at hcq tk hg
      have hcq' := hcq σ h.1
      rw [show tau 1 = 0 from rfl] at hcq'
      have cc : cst 1 = 2 := rfl
      rw [hg, cc] at cd
      have ht1 : flF ts = fl a ++ (fl b ++ r) := by
        have := (At_cons (T := T) (p := p) (c := 1) (l := fl a ++ fl b) (r := r) (by rw [hr]; simp [fl])).2
        rw [← ht, this]; simp
      obtain ⟨ts1, x1, x2⟩ := flF_inj ht1 A1.1 hw
      obtain ⟨ts2, x3, x4⟩ := flF_inj x2 A2.1 (fun v hv => hw v (by rw [x1]; exact List.mem_cons_of_mem _ hv))
      subst x3
      subst x1
      have hd' : T.drop p = flF (.add a b :: ts2) := by rw [flF, x4, hr]
      have hw' : ∀ v ∈ (.add a b :: ts2 : List Tm), wt v := fun v hv => by
        rcases List.mem_cons.mp hv with rfl | hv
        · exact hwu
        · exact hw v (List.mem_cons_of_mem _ (List.mem_cons_of_mem _ hv))
      have lp1 := At_lt A1
      have lp2 := At_lt A2
      obtain ⟨α, α1, α2⟩ := hC.2 (p + 1) (by omega) lp1
      obtain ⟨β, β1, β2⟩ := hC.2 (te T (p + 1)) (by omega) lp2
      have pl2 := pl (p + 1)
      simp only [psF, List.map_cons, List.length_cons] at h pl2
      rw [← e1, α2, β2] at h
      rw [← e1] at pl2
      simp (disch := omega) only [s187_0, s187_1, s187_2, s187_5, s187_6, s187_7, s187_10, s187_11, s187_12, s187_15, s187_16, s187_17, s187_18, s187_20, s187_23, s187_24, s187_27, s187_28, s187_29, s187_32, s187_33, s187_36, s187_39, s187_40, s187_41, s187_42, s187_43, s187_46, s187_49, s187_50, s187_53, s187_54, s187_55, s187_58, s187_59, s187_60, s187_63, s187_66, s187_67, s187_70, s187_73, s187_74, s187_75, s187_78, s187_81, s187_82, s187_85, s187_86, s187_87, s187_89, s187_92, s187_93, s187_96, s187_97, s187_98, s187_101, s187_102, s187_105, s187_106, s187_107, s187_110, s187_112, s187_113, s187_116, s187_118, s187_119, s187_120, s187_121, s187_123, s187_125, s187_128, s187_131, s187_132, s187_134, s187_137, s187_140, s187_141, s187_144, s187_145, s187_146, s187_149, s187_152, s187_153, s187_154, s187_155, s187_158, s187_159, s187_160, s187_161, s187_164, s187_167, s187_170, s187_173, s187_174, s187_175, s187_178, s187_179, s187_180, s187_183, s187_186, s187_187, s187_188, s187_191, s187_194, s187_195, s187_196, s187_199, s187_200, s187_201, s187_204, s187_207, s187_210, s187_214, s187_217, s187_218, s187_219, s187_222, s187_225, s187_226, s187_229, s187_230, List.cons_append, List.nil_append, if_true, if_false, true_and, and_true, and_self, eq_self, true_or, or_true, false_or, or_false, tIn, tLe, fLe, tLt, fLt, tEq, fEq, isL, kd134, ln134, Int.toNat_natCast, hcq']
      refine zpop h.2.2.2.1 (by simp only [List.length_cons]; omega) _ (fun σ1 w1 f1 => ?_)
      have h1 := KLm_s h w1 f1
      simp (disch := omega) only [s187_0, s187_1, s187_2, s187_5, s187_6, s187_7, s187_10, s187_11, s187_12, s187_15, s187_16, s187_17, s187_18, s187_20, s187_23, s187_24, s187_27, s187_28, s187_29, s187_32, s187_33, s187_36, s187_39, s187_40, s187_41, s187_42, s187_43, s187_46, s187_49, s187_50, s187_53, s187_54, s187_55, s187_58, s187_59, s187_60, s187_63, s187_66, s187_67, s187_70, s187_73, s187_74, s187_75, s187_78, s187_81, s187_82, s187_85, s187_86, s187_87, s187_89, s187_92, s187_93, s187_96, s187_97, s187_98, s187_101, s187_102, s187_105, s187_106, s187_107, s187_110, s187_112, s187_113, s187_116, s187_118, s187_119, s187_120, s187_121, s187_123, s187_125, s187_128, s187_131, s187_132, s187_134, s187_137, s187_140, s187_141, s187_144, s187_145, s187_146, s187_149, s187_152, s187_153, s187_154, s187_155, s187_158, s187_159, s187_160, s187_161, s187_164, s187_167, s187_170, s187_173, s187_174, s187_175, s187_178, s187_179, s187_180, s187_183, s187_186, s187_187, s187_188, s187_191, s187_194, s187_195, s187_196, s187_199, s187_200, s187_201, s187_204, s187_207, s187_210, s187_214, s187_217, s187_218, s187_219, s187_222, s187_225, s187_226, s187_229, s187_230, List.cons_append, List.nil_append, if_true, if_false, true_and, and_true, and_self, eq_self, true_or, or_true, false_or, or_false, tIn, tLe, fLe, tLt, fLt, tEq, fEq, isL]
      refine zpop h1.2.2.2.1 (by omega) _ (fun σ2 w2 f2 => ?_)
      have h2 := KLm_s h1 w2 f2
      simp (disch := omega) only [s187_0, s187_1, s187_2, s187_5, s187_6, s187_7, s187_10, s187_11, s187_12, s187_15, s187_16, s187_17, s187_18, s187_20, s187_23, s187_24, s187_27, s187_28, s187_29, s187_32, s187_33, s187_36, s187_39, s187_40, s187_41, s187_42, s187_43, s187_46, s187_49, s187_50, s187_53, s187_54, s187_55, s187_58, s187_59, s187_60, s187_63, s187_66, s187_67, s187_70, s187_73, s187_74, s187_75, s187_78, s187_81, s187_82, s187_85, s187_86, s187_87, s187_89, s187_92, s187_93, s187_96, s187_97, s187_98, s187_101, s187_102, s187_105, s187_106, s187_107, s187_110, s187_112, s187_113, s187_116, s187_118, s187_119, s187_120, s187_121, s187_123, s187_125, s187_128, s187_131, s187_132, s187_134, s187_137, s187_140, s187_141, s187_144, s187_145, s187_146, s187_149, s187_152, s187_153, s187_154, s187_155, s187_158, s187_159, s187_160, s187_161, s187_164, s187_167, s187_170, s187_173, s187_174, s187_175, s187_178, s187_179, s187_180, s187_183, s187_186, s187_187, s187_188, s187_191, s187_194, s187_195, s187_196, s187_199, s187_200, s187_201, s187_204, s187_207, s187_210, s187_214, s187_217, s187_218, s187_219, s187_222, s187_225, s187_226, s187_229, s187_230, List.cons_append, List.nil_append, if_true, if_false, true_and, and_true, and_self, eq_self, true_or, or_true, false_or, or_false, tIn, tLe, fLe, tLt, fLt, tEq, fEq, isL]
      refine unk_m h2.2.1 (by omega) _ (fun σ3 fr3 to3 o3 i3 E3 => ?_)
      have h3 := KLm_n h2 i3
      simp (disch := omega) only [s187_0, s187_1, s187_2, s187_5, s187_6, s187_7, s187_10, s187_11, s187_12, s187_15, s187_16, s187_17, s187_18, s187_20, s187_23, s187_24, s187_27, s187_28, s187_29, s187_32, s187_33, s187_36, s187_39, s187_40, s187_41, s187_42, s187_43, s187_46, s187_49, s187_50, s187_53, s187_54, s187_55, s187_58, s187_59, s187_60, s187_63, s187_66, s187_67, s187_70, s187_73, s187_74, s187_75, s187_78, s187_81, s187_82, s187_85, s187_86, s187_87, s187_89, s187_92, s187_93, s187_96, s187_97, s187_98, s187_101, s187_102, s187_105, s187_106, s187_107, s187_110, s187_112, s187_113, s187_116, s187_118, s187_119, s187_120, s187_121, s187_123, s187_125, s187_128, s187_131, s187_132, s187_134, s187_137, s187_140, s187_141, s187_144, s187_145, s187_146, s187_149, s187_152, s187_153, s187_154, s187_155, s187_158, s187_159, s187_160, s187_161, s187_164, s187_167, s187_170, s187_173, s187_174, s187_175, s187_178, s187_179, s187_180, s187_183, s187_186, s187_187, s187_188, s187_191, s187_194, s187_195, s187_196, s187_199, s187_200, s187_201, s187_204, s187_207, s187_210, s187_214, s187_217, s187_218, s187_219, s187_222, s187_225, s187_226, s187_229, s187_230, List.cons_append, List.nil_append, if_true, if_false, true_and, and_true, and_self, eq_self, true_or, or_true, false_or, or_false, tIn, tLe, fLe, tLt, fLt, tEq, fEq, isL]
      refine arw_m (a := β) (b := n) h3.2.1 (by omega) (by omega) (by omega) _ (fun σ4 fr4 to4 o4 i4 E4 => ?_)
      have h4 := KLm_n h3 i4
      have n1 : (n : Int) + 1 = ((n + 1 : Nat) : Int) := by omega
      simp (disch := omega) only [s187_0, s187_1, s187_2, s187_5, s187_6, s187_7, s187_10, s187_11, s187_12, s187_15, s187_16, s187_17, s187_18, s187_20, s187_23, s187_24, s187_27, s187_28, s187_29, s187_32, s187_33, s187_36, s187_39, s187_40, s187_41, s187_42, s187_43, s187_46, s187_49, s187_50, s187_53, s187_54, s187_55, s187_58, s187_59, s187_60, s187_63, s187_66, s187_67, s187_70, s187_73, s187_74, s187_75, s187_78, s187_81, s187_82, s187_85, s187_86, s187_87, s187_89, s187_92, s187_93, s187_96, s187_97, s187_98, s187_101, s187_102, s187_105, s187_106, s187_107, s187_110, s187_112, s187_113, s187_116, s187_118, s187_119, s187_120, s187_121, s187_123, s187_125, s187_128, s187_131, s187_132, s187_134, s187_137, s187_140, s187_141, s187_144, s187_145, s187_146, s187_149, s187_152, s187_153, s187_154, s187_155, s187_158, s187_159, s187_160, s187_161, s187_164, s187_167, s187_170, s187_173, s187_174, s187_175, s187_178, s187_179, s187_180, s187_183, s187_186, s187_187, s187_188, s187_191, s187_194, s187_195, s187_196, s187_199, s187_200, s187_201, s187_204, s187_207, s187_210, s187_214, s187_217, s187_218, s187_219, s187_222, s187_225, s187_226, s187_229, s187_230, List.cons_append, List.nil_append, if_true, if_false, true_and, and_true, and_self, eq_self, true_or, or_true, false_or, or_false, tIn, tLe, fLe, tLt, fLt, tEq, fEq, isL, n1]
      refine wr185 (k := α) (l := n + 1) h4.2.1 (by omega) (by omega) (by omega) _ (fun σ5 o5 i5 E5 => ?_)
      have h5 := KLm_n h4 i5
      simp (disch := omega) only [s187_0, s187_1, s187_2, s187_5, s187_6, s187_7, s187_10, s187_11, s187_12, s187_15, s187_16, s187_17, s187_18, s187_20, s187_23, s187_24, s187_27, s187_28, s187_29, s187_32, s187_33, s187_36, s187_39, s187_40, s187_41, s187_42, s187_43, s187_46, s187_49, s187_50, s187_53, s187_54, s187_55, s187_58, s187_59, s187_60, s187_63, s187_66, s187_67, s187_70, s187_73, s187_74, s187_75, s187_78, s187_81, s187_82, s187_85, s187_86, s187_87, s187_89, s187_92, s187_93, s187_96, s187_97, s187_98, s187_101, s187_102, s187_105, s187_106, s187_107, s187_110, s187_112, s187_113, s187_116, s187_118, s187_119, s187_120, s187_121, s187_123, s187_125, s187_128, s187_131, s187_132, s187_134, s187_137, s187_140, s187_141, s187_144, s187_145, s187_146, s187_149, s187_152, s187_153, s187_154, s187_155, s187_158, s187_159, s187_160, s187_161, s187_164, s187_167, s187_170, s187_173, s187_174, s187_175, s187_178, s187_179, s187_180, s187_183, s187_186, s187_187, s187_188, s187_191, s187_194, s187_195, s187_196, s187_199, s187_200, s187_201, s187_204, s187_207, s187_210, s187_214, s187_217, s187_218, s187_219, s187_222, s187_225, s187_226, s187_229, s187_230, List.cons_append, List.nil_append, if_true, if_false, true_and, and_true, and_self, eq_self, true_or, or_true, false_or, or_false, tIn, tLe, fLe, tLt, fLt, tEq, fEq, isL]
      refine zpush h5.2.2.2.1 (by omega) _ (fun σ6 w6 f6 => ?_)
      have h6 := KLm_s (st' := (psF p (.add a b :: ts2)).map (fun q : Nat => lat (lset CK (p : Int) (n : Int)) (q : Int))) h5 (by
        simp only [psF, fl, List.length_cons, List.length_append, List.map_cons]
        rw [psF_map (q := p + 1) (by omega) ts2 _ (by omega) (by omega), lset_at (by omega), if_pos rfl]
        rw [show p + ((fl a).length + (fl b).length + 1) = te T (p + 1) + (fl b).length by omega]
        exact w6) f6
      simp (disch := omega) only [s187_0, s187_1, s187_2, s187_5, s187_6, s187_7, s187_10, s187_11, s187_12, s187_15, s187_16, s187_17, s187_18, s187_20, s187_23, s187_24, s187_27, s187_28, s187_29, s187_32, s187_33, s187_36, s187_39, s187_40, s187_41, s187_42, s187_43, s187_46, s187_49, s187_50, s187_53, s187_54, s187_55, s187_58, s187_59, s187_60, s187_63, s187_66, s187_67, s187_70, s187_73, s187_74, s187_75, s187_78, s187_81, s187_82, s187_85, s187_86, s187_87, s187_89, s187_92, s187_93, s187_96, s187_97, s187_98, s187_101, s187_102, s187_105, s187_106, s187_107, s187_110, s187_112, s187_113, s187_116, s187_118, s187_119, s187_120, s187_121, s187_123, s187_125, s187_128, s187_131, s187_132, s187_134, s187_137, s187_140, s187_141, s187_144, s187_145, s187_146, s187_149, s187_152, s187_153, s187_154, s187_155, s187_158, s187_159, s187_160, s187_161, s187_164, s187_167, s187_170, s187_173, s187_174, s187_175, s187_178, s187_179, s187_180, s187_183, s187_186, s187_187, s187_188, s187_191, s187_194, s187_195, s187_196, s187_199, s187_200, s187_201, s187_204, s187_207, s187_210, s187_214, s187_217, s187_218, s187_219, s187_222, s187_225, s187_226, s187_229, s187_230, List.cons_append, List.nil_append, if_true, if_false, true_and, and_true, and_self, eq_self, true_or, or_true, false_or, or_false, tIn, tLe, fLe, tLt, fLt, tEq, fEq, isL, em]
      refine ih σ6 (n + 2) fr4 to4 o5 _ (.add a b :: ts2) _ _ _ (by omega) hd' hw' h6 (FdD_st hC hpl (by omega) (by omega)) (fs_put hC hF h0 hpl hg lp1 lp2 α2 β2 (fun v s => ?_) (fun v τ s e => ?_)) (by omega) (by rw [cd]; omega)
      · obtain ⟨s1, s2⟩ := (E5 v).mp s
        obtain ⟨s3, s4⟩ := (E4 v).mp s1
        exact ⟨(E3 v).mp s3, by rw [s2, s4]⟩
      · have c1 : Sl n fr to o (exV v n τ) := Sl_agr h.2.1.2.2.2.2.1 s (fun i hi => if_neg (by omega))
        have c2 : Sl (n + 1) fr3 to3 o3 (exV v n τ) := (E3 _).mpr c1
        have c3 : Sl (n + 1) fr3 to3 o3 (exV (exV v n τ) (n + 1) (v α)) := Sl_agr h3.2.1.2.2.2.2.1 c2 (fun i hi => if_neg (by omega))
        have v1 : ∀ i, i < n → exV (exV v n τ) (n + 1) (v α) i = v i := fun i hi => by unfold exV; rw [if_neg (by omega), if_neg (by omega)]
        have v2 : exV (exV v n τ) (n + 1) (v α) n = τ := by unfold exV; rw [if_neg (by omega), if_pos rfl]
        have v3 : exV (exV v n τ) (n + 1) (v α) (n + 1) = v α := by unfold exV; rw [if_pos rfl]
        refine ⟨_, (E5 _).mpr ⟨(E4 _).mpr ⟨c3, ?_⟩, ?_⟩, v1, v2⟩
        · rw [v3, v2, v1 β β1, e]
        · rw [v3, v1 α α1]
    | mulL c a =>
      obtain ⟨g1, g2, A1⟩ := At_mul hA
      obtain ⟨_, g3⟩ := List.getElem?_eq_some_iff.mp g1
      have g0 := arT_1' g2
      rw [g3] at hcq tk hg
      have z1 : ¬ tau c = 0 := fun z => by have := (tau_0 tk).mp z; omega
      have z2 : 1000 ≤ tau c := (tau_b tk).mpr g0
      have hcq' := hcq σ h.1
      have cc : cst c = 1 := by unfold cst; rw [if_neg (by omega), if_pos g0]
      rw [hg, cc] at cd
      have ht1 : flF ts = fl a ++ r := by
        have := (At_cons (T := T) (p := p) (c := c) (l := fl a) (r := r) (by rw [hr]; simp [fl])).2
        rw [← ht, this]
      obtain ⟨ts1, x1, x2⟩ := flF_inj ht1 A1.1 hw
      subst x1
      have hd' : T.drop p = flF (.mulL c a :: ts1) := by rw [flF, x2, hr]
      have hw' : ∀ v ∈ (.mulL c a :: ts1 : List Tm), wt v := fun v hv => by
        rcases List.mem_cons.mp hv with rfl | hv
        · exact hwu
        · exact hw v (List.mem_cons_of_mem _ hv)
      have lp1 := At_lt A1
      obtain ⟨β, β1, β2⟩ := hC.2 (p + 1) (by omega) lp1
      obtain ⟨i, i1, i2, i3⟩ := h.2.2.1.2 p hpl (by rw [hg]; exact g0)
      have pl2 := pl (p + 1)
      simp only [psF, List.map_cons, List.length_cons] at h pl2
      rw [β2] at h
      simp (disch := omega) only [s187_0, s187_1, s187_2, s187_5, s187_6, s187_7, s187_10, s187_11, s187_12, s187_15, s187_16, s187_17, s187_18, s187_20, s187_23, s187_24, s187_27, s187_28, s187_29, s187_32, s187_33, s187_36, s187_39, s187_40, s187_41, s187_42, s187_43, s187_46, s187_49, s187_50, s187_53, s187_54, s187_55, s187_58, s187_59, s187_60, s187_63, s187_66, s187_67, s187_70, s187_73, s187_74, s187_75, s187_78, s187_81, s187_82, s187_85, s187_86, s187_87, s187_89, s187_92, s187_93, s187_96, s187_97, s187_98, s187_101, s187_102, s187_105, s187_106, s187_107, s187_110, s187_112, s187_113, s187_116, s187_118, s187_119, s187_120, s187_121, s187_123, s187_125, s187_128, s187_131, s187_132, s187_134, s187_137, s187_140, s187_141, s187_144, s187_145, s187_146, s187_149, s187_152, s187_153, s187_154, s187_155, s187_158, s187_159, s187_160, s187_161, s187_164, s187_167, s187_170, s187_173, s187_174, s187_175, s187_178, s187_179, s187_180, s187_183, s187_186, s187_187, s187_188, s187_191, s187_194, s187_195, s187_196, s187_199, s187_200, s187_201, s187_204, s187_207, s187_210, s187_214, s187_217, s187_218, s187_219, s187_222, s187_225, s187_226, s187_229, s187_230, List.cons_append, List.nil_append, if_true, if_false, true_and, and_true, and_self, eq_self, true_or, or_true, false_or, or_false, tIn, tLe, fLe, tLt, fLt, tEq, fEq, isL, kd134, ln134, Int.toNat_natCast, hcq', c129, if_pos z2, kd149, ln149, i2]
      refine zpop h.2.2.2.1 (by omega) _ (fun σ1 w1 f1 => ?_)
      have h1 := KLm_s h w1 f1
      simp (disch := omega) only [s187_0, s187_1, s187_2, s187_5, s187_6, s187_7, s187_10, s187_11, s187_12, s187_15, s187_16, s187_17, s187_18, s187_20, s187_23, s187_24, s187_27, s187_28, s187_29, s187_32, s187_33, s187_36, s187_39, s187_40, s187_41, s187_42, s187_43, s187_46, s187_49, s187_50, s187_53, s187_54, s187_55, s187_58, s187_59, s187_60, s187_63, s187_66, s187_67, s187_70, s187_73, s187_74, s187_75, s187_78, s187_81, s187_82, s187_85, s187_86, s187_87, s187_89, s187_92, s187_93, s187_96, s187_97, s187_98, s187_101, s187_102, s187_105, s187_106, s187_107, s187_110, s187_112, s187_113, s187_116, s187_118, s187_119, s187_120, s187_121, s187_123, s187_125, s187_128, s187_131, s187_132, s187_134, s187_137, s187_140, s187_141, s187_144, s187_145, s187_146, s187_149, s187_152, s187_153, s187_154, s187_155, s187_158, s187_159, s187_160, s187_161, s187_164, s187_167, s187_170, s187_173, s187_174, s187_175, s187_178, s187_179, s187_180, s187_183, s187_186, s187_187, s187_188, s187_191, s187_194, s187_195, s187_196, s187_199, s187_200, s187_201, s187_204, s187_207, s187_210, s187_214, s187_217, s187_218, s187_219, s187_222, s187_225, s187_226, s187_229, s187_230, List.cons_append, List.nil_append, if_true, if_false, true_and, and_true, and_self, eq_self, true_or, or_true, false_or, or_false, tIn, tLe, fLe, tLt, fLt, tEq, fEq, isL]
      refine arw_m (a := i) (b := β) h1.2.1 (by omega) (by omega) (by omega) _ (fun σ4 fr4 to4 o4 i4 E4 => ?_)
      have h4 := KLm_n h1 i4
      simp (disch := omega) only [s187_0, s187_1, s187_2, s187_5, s187_6, s187_7, s187_10, s187_11, s187_12, s187_15, s187_16, s187_17, s187_18, s187_20, s187_23, s187_24, s187_27, s187_28, s187_29, s187_32, s187_33, s187_36, s187_39, s187_40, s187_41, s187_42, s187_43, s187_46, s187_49, s187_50, s187_53, s187_54, s187_55, s187_58, s187_59, s187_60, s187_63, s187_66, s187_67, s187_70, s187_73, s187_74, s187_75, s187_78, s187_81, s187_82, s187_85, s187_86, s187_87, s187_89, s187_92, s187_93, s187_96, s187_97, s187_98, s187_101, s187_102, s187_105, s187_106, s187_107, s187_110, s187_112, s187_113, s187_116, s187_118, s187_119, s187_120, s187_121, s187_123, s187_125, s187_128, s187_131, s187_132, s187_134, s187_137, s187_140, s187_141, s187_144, s187_145, s187_146, s187_149, s187_152, s187_153, s187_154, s187_155, s187_158, s187_159, s187_160, s187_161, s187_164, s187_167, s187_170, s187_173, s187_174, s187_175, s187_178, s187_179, s187_180, s187_183, s187_186, s187_187, s187_188, s187_191, s187_194, s187_195, s187_196, s187_199, s187_200, s187_201, s187_204, s187_207, s187_210, s187_214, s187_217, s187_218, s187_219, s187_222, s187_225, s187_226, s187_229, s187_230, List.cons_append, List.nil_append, if_true, if_false, true_and, and_true, and_self, eq_self, true_or, or_true, false_or, or_false, tIn, tLe, fLe, tLt, fLt, tEq, fEq, isL]
      refine zpush h4.2.2.2.1 (by omega) _ (fun σ6 w6 f6 => ?_)
      have h6 := KLm_s (st' := (psF p (.mulL c a :: ts1)).map (fun q : Nat => lat (lset CK (p : Int) (n : Int)) (q : Int))) h4 (by
        simp only [psF, fl, List.length_cons, List.map_cons]
        rw [psF_map (q := p + 1) (by omega) ts1 _ (by omega) (by omega), lset_at (by omega), if_pos rfl]
        rw [show p + ((fl a).length + 1) = p + 1 + (fl a).length by omega]
        exact w6) f6
      simp (disch := omega) only [s187_0, s187_1, s187_2, s187_5, s187_6, s187_7, s187_10, s187_11, s187_12, s187_15, s187_16, s187_17, s187_18, s187_20, s187_23, s187_24, s187_27, s187_28, s187_29, s187_32, s187_33, s187_36, s187_39, s187_40, s187_41, s187_42, s187_43, s187_46, s187_49, s187_50, s187_53, s187_54, s187_55, s187_58, s187_59, s187_60, s187_63, s187_66, s187_67, s187_70, s187_73, s187_74, s187_75, s187_78, s187_81, s187_82, s187_85, s187_86, s187_87, s187_89, s187_92, s187_93, s187_96, s187_97, s187_98, s187_101, s187_102, s187_105, s187_106, s187_107, s187_110, s187_112, s187_113, s187_116, s187_118, s187_119, s187_120, s187_121, s187_123, s187_125, s187_128, s187_131, s187_132, s187_134, s187_137, s187_140, s187_141, s187_144, s187_145, s187_146, s187_149, s187_152, s187_153, s187_154, s187_155, s187_158, s187_159, s187_160, s187_161, s187_164, s187_167, s187_170, s187_173, s187_174, s187_175, s187_178, s187_179, s187_180, s187_183, s187_186, s187_187, s187_188, s187_191, s187_194, s187_195, s187_196, s187_199, s187_200, s187_201, s187_204, s187_207, s187_210, s187_214, s187_217, s187_218, s187_219, s187_222, s187_225, s187_226, s187_229, s187_230, List.cons_append, List.nil_append, if_true, if_false, true_and, and_true, and_self, eq_self, true_or, or_true, false_or, or_false, tIn, tLe, fLe, tLt, fLt, tEq, fEq, isL, em]
      exact ih σ6 (n + 1) fr4 to4 o4 _ (.mulL c a :: ts1) _ _ _ (by omega) hd' hw' h6 (FdD_st hC hpl (by omega) (by omega)) (fs_bnd h.2.1.2.2.2.2.1 hC hF h0 hpl (by rw [hg]; exact g0) lp1 i1 i3 β1 β2 E4) (by omega) (by rw [cd]; omega)
    | _ => exact absurd hwu (fun z => z)
abbrev FrP (σ σ' : aSg) : Prop := (∀ a, a ≠ 130 → a < 144 ∨ 150 < a → σ' a = σ a) ∧ ∀ j, j ≠ 29 → σ' 130 j = σ 130 j
theorem FrN_P (h : FrN σ σ') : FrP σ σ' := ⟨fun a h1 h2 => h.1 a h1 (by omega) (by omega) (by omega) (by omega), h.2⟩
theorem FrP_tr {σ1 σ2 : aSg} (h : FrP σ σ1) (h' : FrP σ1 σ2) : FrP σ σ2 := ⟨fun a h1 h2 => (h'.1 a h1 h2).trans (h.1 a h1 h2), fun j hj => (h'.2 j hj).trans (h.2 j hj)⟩
theorem wr187 (hs : κ < 4) (h : shM σ (121 * κ) T) (hT : isT T) (hkT : tks T) (hl : T.length ≤ 120) (Q : List AV → aSg → Prop) (hq0 : ¬ hasK T → ∀ σ', FrJ σ σ' → Q [.inl (-1)] σ') (hq1 : ∀ (σ' : aSg) (n : Nat) (fr to : Nat → Int) (o ρ : Nat → Nat) (V : Nat → Ty) (k : Nat), σ' 130 29 = (n : Int) → (∀ i, i < n → σ' 144 i = fr i) → (∀ i, i < n → σ' 145 i = to i) → (∀ i, i < n → σ' 146 i = (o i : Int)) → KGr n fr to → UFr n o ρ → KSh n fr to o V → k < n → prK T (V k) → n ≤ 900 → FrJ σ σ' → Q [.inl (k : Int)] σ') : CA m187 [.inr (.inl 130), .inl (κ : Int)] σ Q := by
  rw [e187]
  have l0 := ln134
  have l8 := ln148
  have l9 := ln149
  simp (disch := omega) only [s187_0, s187_1, s187_2, s187_5, s187_6, s187_7, s187_10, s187_11, s187_12, s187_15, s187_16, s187_18, s187_20, s187_23, s187_24, s187_27, s187_28, s187_29, s187_32, s187_33, s187_36, s187_39, s187_40, s187_42, s187_43, s187_46, s187_49, s187_50, s187_53, s187_54, s187_55, s187_58, s187_59, s187_60, s187_63, s187_66, s187_67, s187_70, s187_73, s187_74, s187_75, s187_78, s187_81, s187_82, s187_85, s187_86, s187_87, s187_89, s187_92, s187_93, s187_96, s187_97, s187_98, s187_101, s187_102, s187_105, s187_106, s187_107, s187_110, s187_112, s187_113, s187_116, s187_118, s187_119, s187_120, s187_121, s187_123, s187_125, s187_128, s187_131, s187_132, s187_134, s187_137, s187_140, s187_141, s187_144, s187_145, s187_146, s187_149, s187_152, s187_153, s187_154, s187_155, s187_158, s187_159, s187_160, s187_161, s187_164, s187_167, s187_170, s187_173, s187_174, s187_175, s187_178, s187_179, s187_180, s187_183, s187_186, s187_187, s187_188, s187_191, s187_194, s187_195, s187_196, s187_199, s187_200, s187_201, s187_204, s187_207, s187_210, s187_214, s187_217, s187_218, s187_219, s187_222, s187_225, s187_226, s187_229, s187_230, List.cons_append, List.nil_append, if_true, if_false, true_and, and_true, and_self, eq_self, true_or, or_true, false_or, or_false, tIn, tLe, fLe, tLt, fLt, tEq, fEq, isL]
  refine c136 hs h hl _ (fun σ1 t1 f1 f1' => ?_)
  simp (disch := omega) only [s187_0, s187_1, s187_2, s187_5, s187_6, s187_7, s187_10, s187_11, s187_12, s187_15, s187_16, s187_18, s187_20, s187_23, s187_24, s187_27, s187_28, s187_29, s187_32, s187_33, s187_36, s187_39, s187_40, s187_42, s187_43, s187_46, s187_49, s187_50, s187_53, s187_54, s187_55, s187_58, s187_59, s187_60, s187_63, s187_66, s187_67, s187_70, s187_73, s187_74, s187_75, s187_78, s187_81, s187_82, s187_85, s187_86, s187_87, s187_89, s187_92, s187_93, s187_96, s187_97, s187_98, s187_101, s187_102, s187_105, s187_106, s187_107, s187_110, s187_112, s187_113, s187_116, s187_118, s187_119, s187_120, s187_121, s187_123, s187_125, s187_128, s187_131, s187_132, s187_134, s187_137, s187_140, s187_141, s187_144, s187_145, s187_146, s187_149, s187_152, s187_153, s187_154, s187_155, s187_158, s187_159, s187_160, s187_161, s187_164, s187_167, s187_170, s187_173, s187_174, s187_175, s187_178, s187_179, s187_180, s187_183, s187_186, s187_187, s187_188, s187_191, s187_194, s187_195, s187_196, s187_199, s187_200, s187_201, s187_204, s187_207, s187_210, s187_214, s187_217, s187_218, s187_219, s187_222, s187_225, s187_226, s187_229, s187_230, List.cons_append, List.nil_append, if_true, if_false, true_and, and_true, and_self, eq_self, true_or, or_true, false_or, or_false, tIn, tLe, fLe, tLt, fLt, tEq, fEq, isL]
  obtain ⟨σ2, hσ2⟩ : ∃ σ2, aup (aup σ1 130 29 0) 130 11 0 = σ2 := ⟨_, rfl⟩
  rw [hσ2]
  have G2 : FrJ σ σ2 := by
    rw [← hσ2]
    refine ⟨fun a h1 h2 => by rw [aup_f h2, aup_f h2]; exact f1 a (by omega) h2, ?_, ?_, ?_⟩
    · rw [aup_n2 (by omega), aup_n2 (by omega)]; exact f1' 1 (by omega)
    · rw [aup_n2 (by omega), aup_n2 (by omega)]; exact f1' 4 (by omega)
    · rw [aup_n2 (by omega), aup_n2 (by omega)]; exact f1' 5 (by omega)
  have T2 : tmM σ2 T := by
    rw [← hσ2]
    exact ⟨by rw [aup_n2 (by omega), aup_n2 (by omega)]; exact t1.1, fun k c hc => by rw [aup_n1 (by omega), aup_n1 (by omega)]; exact t1.2 k c hc⟩
  have D2 : σ2 130 11 = 0 := by rw [← hσ2, aup_s]
  have K2 : σ2 130 29 = 0 := by rw [← hσ2, aup_n2 (by omega), aup_s]
  clear hσ2
  have main : ∀ (σ3 : aSg) (n : Nat) (fr to : Nat → Int) (o : Nat → Nat) (lb : Nat → Lb) (l3 l4 l5 : AV), FrP σ2 σ3 → KRm σ3 σ3 n fr to o → NLm σ3 T n lb → (∀ v, Sl n fr to o v) → LbJ n lb T.length → n ≤ 146 → WP m187 88 [.inr (.inl 130), .inl (κ : Int), .inl ((T.length : Int) - 1), l3, l4, l5] [] σ3 Q := by
    intro σ3 n fr to o lb l3 l4 l5 F3 R3 N3 S3 J3 hn
    have T3 : tmM σ3 T := ⟨by rw [F3.2 7 (by omega)]; exact T2.1, fun k c hc => by rw [F3.1 134 (by omega) (by omega)]; exact T2.2 k c hc⟩
    have G3 : FrJ σ σ3 := FrJ_tr G2 ⟨fun a h1 h2 => F3.1 a h2 (by omega), F3.2 1 (by omega), F3.2 4 (by omega), F3.2 5 (by omega)⟩
    refine wr187l (σ0 := σ) (n0 := n) (lb := lb) hT hkT hl hn Q (fun σ4 n4 fr4 to4 o4 CK4 m3 m4 m5 h4 hC hF h0 hn4 => ?_) T.length σ3 n fr to o (List.replicate T.length 0) [] l3 l4 l5 (Nat.le_refl _) (by rw [List.drop_length]; rfl) (fun v hv => by cases hv) ⟨T3, R3, N3, ⟨by rw [F3.2 11 (by omega), D2]; rfl, fun k c hc => by simp [psF] at hc⟩, G3⟩ ⟨by simp, fun q h1 h2 => by omega⟩ (FdI_0 S3) (Nat.le_refl _) (by rw [csS_drop_all]; omega)
    obtain ⟨k4, k1, k2⟩ := hC.2 0 (Nat.le_refl _) (isT_pos hT)
    have k2' : lat CK4 0 = (k4 : Int) := k2
    rw [k2'] at h4
    obtain ⟨-, -, -, -, ⟨H1, ⟨ρ, H2⟩, H3⟩, -⟩ := id h4.2.1
    rw [s187_213]
    simp (disch := omega) only [s187_0, s187_1, s187_2, s187_5, s187_6, s187_7, s187_10, s187_11, s187_12, s187_15, s187_16, s187_17, s187_18, s187_20, s187_23, s187_24, s187_27, s187_28, s187_29, s187_32, s187_33, s187_36, s187_39, s187_40, s187_41, s187_42, s187_43, s187_46, s187_49, s187_50, s187_53, s187_54, s187_55, s187_58, s187_59, s187_60, s187_63, s187_66, s187_67, s187_70, s187_73, s187_74, s187_75, s187_78, s187_81, s187_82, s187_85, s187_86, s187_87, s187_89, s187_92, s187_93, s187_96, s187_97, s187_98, s187_101, s187_102, s187_105, s187_106, s187_107, s187_110, s187_112, s187_113, s187_116, s187_118, s187_119, s187_120, s187_121, s187_123, s187_125, s187_128, s187_131, s187_132, s187_134, s187_137, s187_140, s187_141, s187_144, s187_145, s187_146, s187_149, s187_152, s187_153, s187_154, s187_155, s187_158, s187_159, s187_160, s187_161, s187_164, s187_167, s187_170, s187_173, s187_174, s187_175, s187_178, s187_179, s187_180, s187_183, s187_186, s187_187, s187_188, s187_191, s187_194, s187_195, s187_196, s187_199, s187_200, s187_201, s187_204, s187_207, s187_210, s187_214, s187_217, s187_218, s187_219, s187_222, s187_225, s187_226, s187_229, s187_230, List.cons_append, List.nil_append, if_true, if_false, true_and, and_true, and_self, eq_self, true_or, or_true, false_or, or_false, tIn, tLe, fLe, tLt, fLt, tEq, fEq, isL]
    refine zpop h4.2.2.2.1 (by simp) _ (fun σ5 w5 f5 => ?_)
    have h5 := KLm_s h4 w5 f5
    obtain ⟨a1, a2, a3, a4, -, -⟩ := h5.2.1
    simp (disch := omega) only [s187_0, s187_1, s187_2, s187_5, s187_6, s187_7, s187_10, s187_11, s187_12, s187_15, s187_16, s187_17, s187_18, s187_20, s187_23, s187_24, s187_27, s187_28, s187_29, s187_32, s187_33, s187_36, s187_39, s187_40, s187_41, s187_42, s187_43, s187_46, s187_49, s187_50, s187_53, s187_54, s187_55, s187_58, s187_59, s187_60, s187_63, s187_66, s187_67, s187_70, s187_73, s187_74, s187_75, s187_78, s187_81, s187_82, s187_85, s187_86, s187_87, s187_89, s187_92, s187_93, s187_96, s187_97, s187_98, s187_101, s187_102, s187_105, s187_106, s187_107, s187_110, s187_112, s187_113, s187_116, s187_118, s187_119, s187_120, s187_121, s187_123, s187_125, s187_128, s187_131, s187_132, s187_134, s187_137, s187_140, s187_141, s187_144, s187_145, s187_146, s187_149, s187_152, s187_153, s187_154, s187_155, s187_158, s187_159, s187_160, s187_161, s187_164, s187_167, s187_170, s187_173, s187_174, s187_175, s187_178, s187_179, s187_180, s187_183, s187_186, s187_187, s187_188, s187_191, s187_194, s187_195, s187_196, s187_199, s187_200, s187_201, s187_204, s187_207, s187_210, s187_214, s187_217, s187_218, s187_219, s187_222, s187_225, s187_226, s187_229, s187_230, List.cons_append, List.nil_append, if_true, if_false, true_and, and_true, and_self, eq_self, true_or, or_true, false_or, or_false, tIn, tLe, fLe, tLt, fLt, tEq, fEq, isL]
    refine wr186 a1 a2 a3 a4 H1 H2 (by omega) _ (fun hno σ6 f6 => ?_) (fun hA σ6 f6 => ?_)
    · simp (disch := omega) only [s187_0, s187_1, s187_2, s187_5, s187_6, s187_7, s187_10, s187_11, s187_12, s187_15, s187_16, s187_17, s187_18, s187_20, s187_23, s187_24, s187_27, s187_28, s187_29, s187_32, s187_33, s187_36, s187_39, s187_40, s187_41, s187_42, s187_43, s187_46, s187_49, s187_50, s187_53, s187_54, s187_55, s187_58, s187_59, s187_60, s187_63, s187_66, s187_67, s187_70, s187_73, s187_74, s187_75, s187_78, s187_81, s187_82, s187_85, s187_86, s187_87, s187_89, s187_92, s187_93, s187_96, s187_97, s187_98, s187_101, s187_102, s187_105, s187_106, s187_107, s187_110, s187_112, s187_113, s187_116, s187_118, s187_119, s187_120, s187_121, s187_123, s187_125, s187_128, s187_131, s187_132, s187_134, s187_137, s187_140, s187_141, s187_144, s187_145, s187_146, s187_149, s187_152, s187_153, s187_154, s187_155, s187_158, s187_159, s187_160, s187_161, s187_164, s187_167, s187_170, s187_173, s187_174, s187_175, s187_178, s187_179, s187_180, s187_183, s187_186, s187_187, s187_188, s187_191, s187_194, s187_195, s187_196, s187_199, s187_200, s187_201, s187_204, s187_207, s187_210, s187_214, s187_217, s187_218, s187_219, s187_222, s187_225, s187_226, s187_229, s187_230, List.cons_append, List.nil_append, if_true, if_false, true_and, and_true, and_self, eq_self, true_or, or_true, false_or, or_false, tIn, tLe, fLe, tLt, fLt, tEq, fEq, isL]
      exact hq0 (fd_no hT hF hno) σ6 (FrJ_tr h5.2.2.2.2 ⟨fun a h1 h2 => f6 a (by omega), by rw [f6 130 (by omega)], by rw [f6 130 (by omega)], by rw [f6 130 (by omega)]⟩)
    · simp (disch := omega) only [s187_0, s187_1, s187_2, s187_5, s187_6, s187_7, s187_10, s187_11, s187_12, s187_15, s187_16, s187_17, s187_18, s187_20, s187_23, s187_24, s187_27, s187_28, s187_29, s187_32, s187_33, s187_36, s187_39, s187_40, s187_41, s187_42, s187_43, s187_46, s187_49, s187_50, s187_53, s187_54, s187_55, s187_58, s187_59, s187_60, s187_63, s187_66, s187_67, s187_70, s187_73, s187_74, s187_75, s187_78, s187_81, s187_82, s187_85, s187_86, s187_87, s187_89, s187_92, s187_93, s187_96, s187_97, s187_98, s187_101, s187_102, s187_105, s187_106, s187_107, s187_110, s187_112, s187_113, s187_116, s187_118, s187_119, s187_120, s187_121, s187_123, s187_125, s187_128, s187_131, s187_132, s187_134, s187_137, s187_140, s187_141, s187_144, s187_145, s187_146, s187_149, s187_152, s187_153, s187_154, s187_155, s187_158, s187_159, s187_160, s187_161, s187_164, s187_167, s187_170, s187_173, s187_174, s187_175, s187_178, s187_179, s187_180, s187_183, s187_186, s187_187, s187_188, s187_191, s187_194, s187_195, s187_196, s187_199, s187_200, s187_201, s187_204, s187_207, s187_210, s187_214, s187_217, s187_218, s187_219, s187_222, s187_225, s187_226, s187_229, s187_230, List.cons_append, List.nil_append, if_true, if_false, true_and, and_true, and_self, eq_self, true_or, or_true, false_or, or_false, tIn, tLe, fLe, tLt, fLt, tEq, fEq, isL]
      obtain ⟨V, s1, s2⟩ := fd_yes hT J3 hF H1 H3 UEq_rf H2 hA k2' k1
      exact hq1 σ6 n4 fr4 to4 o4 ρ V k4 (by rw [f6 130 (by omega)]; exact a1) (by rw [f6 144 (by omega)]; exact a2) (by rw [f6 145 (by omega)]; exact a3) (by rw [f6 146 (by omega)]; exact a4) H1 H2 s1 k1 s2 hn4 (FrJ_tr h5.2.2.2.2 ⟨fun a h1 h2 => f6 a (by omega), by rw [f6 130 (by omega)], by rw [f6 130 (by omega)], by rw [f6 130 (by omega)]⟩)
  have bnds : ∀ (m q : Nat) (σ3 : aSg) (n : Nat) (fr to : Nat → Int) (o : Nat → Nat) (lb : Nat → Lb) (l3 l4 l5 : AV), q + m = T.length → FrP σ2 σ3 → KRm σ3 σ3 n fr to o → NLm σ3 (T.take q) n lb → (∀ v, Sl n fr to o v) → LbJ n lb q → n ≤ 26 + q → WP m187 41 [.inr (.inl 130), .inl (κ : Int), .inl (q : Int), l3, l4, l5] [] σ3 Q := by
    intro m
    induction m with
    | zero =>
      intro q σ3 n fr to o lb l3 l4 l5 hq F3 R3 N3 S3 J3 hn
      have e7 : σ3 130 7 = (T.length : Int) := by rw [F3.2 7 (by omega)]; exact T2.1
      have eq : (q : Int) = (T.length : Int) := by omega
      have eq' : q = T.length := by omega
      rw [eq', List.take_length] at N3
      rw [s187_41]
      simp (disch := omega) only [s187_0, s187_1, s187_2, s187_5, s187_6, s187_7, s187_10, s187_11, s187_12, s187_15, s187_16, s187_18, s187_20, s187_23, s187_24, s187_27, s187_28, s187_29, s187_32, s187_33, s187_36, s187_39, s187_40, s187_42, s187_43, s187_46, s187_49, s187_50, s187_53, s187_54, s187_55, s187_58, s187_59, s187_60, s187_63, s187_66, s187_67, s187_70, s187_73, s187_74, s187_75, s187_78, s187_81, s187_82, s187_85, s187_86, s187_87, s187_89, s187_92, s187_93, s187_96, s187_97, s187_98, s187_101, s187_102, s187_105, s187_106, s187_107, s187_110, s187_112, s187_113, s187_116, s187_118, s187_119, s187_120, s187_121, s187_123, s187_125, s187_128, s187_131, s187_132, s187_134, s187_137, s187_140, s187_141, s187_144, s187_145, s187_146, s187_149, s187_152, s187_153, s187_154, s187_155, s187_158, s187_159, s187_160, s187_161, s187_164, s187_167, s187_170, s187_173, s187_174, s187_175, s187_178, s187_179, s187_180, s187_183, s187_186, s187_187, s187_188, s187_191, s187_194, s187_195, s187_196, s187_199, s187_200, s187_201, s187_204, s187_207, s187_210, s187_214, s187_217, s187_218, s187_219, s187_222, s187_225, s187_226, s187_229, s187_230, List.cons_append, List.nil_append, if_true, if_false, true_and, and_true, and_self, eq_self, true_or, or_true, false_or, or_false, tIn, tLe, fLe, tLt, fLt, tEq, fEq, isL, e7, eq]
      exact main σ3 n fr to o lb l3 l4 l5 F3 R3 N3 S3 (by rw [← eq']; exact J3) (by omega)
    | succ m ih =>
      intro q σ3 n fr to o lb l3 l4 l5 hq F3 R3 N3 S3 J3 hn
      have e7 : σ3 130 7 = (T.length : Int) := by rw [F3.2 7 (by omega)]; exact T2.1
      have hql : q < T.length := by omega
      have tk := hkT _ (List.getElem_mem hql)
      have hcq : σ3 134 q = tau T[q] := by rw [F3.1 134 (by omega) (by omega)]; exact T2.2 q _ (List.getElem?_eq_getElem hql)
      have ec : (q : Int) + 1 = ((q + 1 : Nat) : Int) := by omega
      have gd : ∀ b, b < q → (T.take (q + 1)).getD b 0 = (T.take q).getD b 0 := fun b hb => by
        rw [List.getD_eq_getElem?_getD, List.getD_eq_getElem?_getD, List.getElem?_take_of_lt (by omega), List.getElem?_take_of_lt (by omega)]
      have gq : (T.take (q + 1)).getD q 0 = T[q] := by
        rw [List.getD_eq_getElem?_getD, List.getElem?_take_of_lt (by omega), List.getElem?_eq_getElem hql]; rfl
      have ln1 : (T.take (q + 1)).length = q + 1 := by rw [List.length_take]; omega
      have ln2 : (T.take q).length = q := by rw [List.length_take]; omega
      rw [s187_41]
      by_cases g : 1000 < T[q]
      · have z2 := (tau_b tk).mpr g
        simp (disch := omega) only [s187_0, s187_1, s187_2, s187_5, s187_6, s187_7, s187_10, s187_11, s187_12, s187_15, s187_16, s187_18, s187_20, s187_23, s187_24, s187_27, s187_28, s187_29, s187_32, s187_33, s187_36, s187_39, s187_40, s187_42, s187_43, s187_46, s187_49, s187_50, s187_53, s187_54, s187_55, s187_58, s187_59, s187_60, s187_63, s187_66, s187_67, s187_70, s187_73, s187_74, s187_75, s187_78, s187_81, s187_82, s187_85, s187_86, s187_87, s187_89, s187_92, s187_93, s187_96, s187_97, s187_98, s187_101, s187_102, s187_105, s187_106, s187_107, s187_110, s187_112, s187_113, s187_116, s187_118, s187_119, s187_120, s187_121, s187_123, s187_125, s187_128, s187_131, s187_132, s187_134, s187_137, s187_140, s187_141, s187_144, s187_145, s187_146, s187_149, s187_152, s187_153, s187_154, s187_155, s187_158, s187_159, s187_160, s187_161, s187_164, s187_167, s187_170, s187_173, s187_174, s187_175, s187_178, s187_179, s187_180, s187_183, s187_186, s187_187, s187_188, s187_191, s187_194, s187_195, s187_196, s187_199, s187_200, s187_201, s187_204, s187_207, s187_210, s187_214, s187_217, s187_218, s187_219, s187_222, s187_225, s187_226, s187_229, s187_230, List.cons_append, List.nil_append, if_true, if_false, true_and, and_true, and_self, eq_self, true_or, or_true, false_or, or_false, tIn, tLe, fLe, tLt, fLt, tEq, fEq, isL, e7, kd134, ln134, Int.toNat_natCast, hcq, c129, if_pos z2]
        refine unk_m R3 (by omega) _ (fun σ4 fr4 to4 o4 i4 E4 => ?_)
        have F4 := FrP_tr F3 (FrN_P i4.2.2.2.2.2)
        simp (disch := omega) only [s187_0, s187_1, s187_2, s187_5, s187_6, s187_7, s187_10, s187_11, s187_12, s187_15, s187_16, s187_18, s187_20, s187_23, s187_24, s187_27, s187_28, s187_29, s187_32, s187_33, s187_36, s187_39, s187_40, s187_42, s187_43, s187_46, s187_49, s187_50, s187_53, s187_54, s187_55, s187_58, s187_59, s187_60, s187_63, s187_66, s187_67, s187_70, s187_73, s187_74, s187_75, s187_78, s187_81, s187_82, s187_85, s187_86, s187_87, s187_89, s187_92, s187_93, s187_96, s187_97, s187_98, s187_101, s187_102, s187_105, s187_106, s187_107, s187_110, s187_112, s187_113, s187_116, s187_118, s187_119, s187_120, s187_121, s187_123, s187_125, s187_128, s187_131, s187_132, s187_134, s187_137, s187_140, s187_141, s187_144, s187_145, s187_146, s187_149, s187_152, s187_153, s187_154, s187_155, s187_158, s187_159, s187_160, s187_161, s187_164, s187_167, s187_170, s187_173, s187_174, s187_175, s187_178, s187_179, s187_180, s187_183, s187_186, s187_187, s187_188, s187_191, s187_194, s187_195, s187_196, s187_199, s187_200, s187_201, s187_204, s187_207, s187_210, s187_214, s187_217, s187_218, s187_219, s187_222, s187_225, s187_226, s187_229, s187_230, List.cons_append, List.nil_append, if_true, if_false, true_and, and_true, and_self, eq_self, true_or, or_true, false_or, or_false, tIn, tLe, fLe, tLt, fLt, tEq, fEq, isL, kd149, ln149, Int.toNat_natCast, ec]
        have hlb : ∀ i, i < n → (fun i => if i = n then (.inl q : Lb) else lb i) i = lb i := fun i hi => by simp only [if_neg (show ¬ i = n by omega)]
        have i4' := i4.2.2.2.2.2
        refine ih (q + 1) (aup σ4 149 q (n : Int)) (n + 1) fr4 to4 o4 (fun i => if i = n then .inl q else lb i) l3 l4 l5 (by omega) (FrP_tr F4 ⟨fun a h1 h2 => aup_f (by omega), fun j _ => aup_n1 (by omega)⟩) ⟨by rw [aup_n1 (by omega)]; exact i4.1, fun i hi => by rw [aup_n1 (by omega)]; exact i4.2.1 i hi, fun i hi => by rw [aup_n1 (by omega)]; exact i4.2.2.1 i hi, fun i hi => by rw [aup_n1 (by omega)]; exact i4.2.2.2.1 i hi, i4.2.2.2.2.1, FrN_rf⟩ ⟨fun j hj => ?_, fun b hb hb2 => ?_⟩ (fun v => (E4 v).mpr (S3 v)) (LbJ_up J3 (fun i hi e => ?_) (fun b e => ?_) (by omega)) (by omega)
        · obtain ⟨i, a1, a2, a3⟩ := N3.1 j hj
          exact ⟨i, by omega, by rw [aup_n1 (by omega), i4'.1 148 (by omega) (by omega) (by omega) (by omega) (by omega)]; exact a2, by simp only [if_neg (show ¬ i = n by omega)]; exact a3⟩
        · by_cases e : b = q
          · exact ⟨n, by omega, by rw [e, aup_s], by simp only [if_true, e]⟩
          · obtain ⟨i, a1, a2, a3⟩ := N3.2 b (by omega) (by rw [← gd b (by omega)]; exact hb2)
            exact ⟨i, by omega, by rw [aup_n2 e, i4'.1 149 (by omega) (by omega) (by omega) (by omega) (by omega)]; exact a2, by simp only [if_neg (show ¬ i = n by omega)]; exact a3⟩
        · have := J3.2 i q hi e; omega
        · have : q = b := by simpa using e
          omega
      · have z2 : ¬ 1000 ≤ tau T[q] := fun z => g ((tau_b tk).mp z)
        simp (disch := omega) only [s187_0, s187_1, s187_2, s187_5, s187_6, s187_7, s187_10, s187_11, s187_12, s187_15, s187_16, s187_18, s187_20, s187_23, s187_24, s187_27, s187_28, s187_29, s187_32, s187_33, s187_36, s187_39, s187_40, s187_42, s187_43, s187_46, s187_49, s187_50, s187_53, s187_54, s187_55, s187_58, s187_59, s187_60, s187_63, s187_66, s187_67, s187_70, s187_73, s187_74, s187_75, s187_78, s187_81, s187_82, s187_85, s187_86, s187_87, s187_89, s187_92, s187_93, s187_96, s187_97, s187_98, s187_101, s187_102, s187_105, s187_106, s187_107, s187_110, s187_112, s187_113, s187_116, s187_118, s187_119, s187_120, s187_121, s187_123, s187_125, s187_128, s187_131, s187_132, s187_134, s187_137, s187_140, s187_141, s187_144, s187_145, s187_146, s187_149, s187_152, s187_153, s187_154, s187_155, s187_158, s187_159, s187_160, s187_161, s187_164, s187_167, s187_170, s187_173, s187_174, s187_175, s187_178, s187_179, s187_180, s187_183, s187_186, s187_187, s187_188, s187_191, s187_194, s187_195, s187_196, s187_199, s187_200, s187_201, s187_204, s187_207, s187_210, s187_214, s187_217, s187_218, s187_219, s187_222, s187_225, s187_226, s187_229, s187_230, List.cons_append, List.nil_append, if_true, if_false, true_and, and_true, and_self, eq_self, true_or, or_true, false_or, or_false, tIn, tLe, fLe, tLt, fLt, tEq, fEq, isL, e7, kd134, ln134, Int.toNat_natCast, hcq, c129, if_neg z2, kd149, ln149, ec]
        refine ih (q + 1) (aup σ3 149 q 0) n fr to o lb l3 l4 l5 (by omega) (FrP_tr F3 ⟨fun a h1 h2 => aup_f (by omega), fun j _ => aup_n1 (by omega)⟩) ⟨by rw [aup_n1 (by omega)]; exact R3.1, fun i hi => by rw [aup_n1 (by omega)]; exact R3.2.1 i hi, fun i hi => by rw [aup_n1 (by omega)]; exact R3.2.2.1 i hi, fun i hi => by rw [aup_n1 (by omega)]; exact R3.2.2.2.1 i hi, R3.2.2.2.2.1, FrN_rf⟩ ⟨fun j hj => ?_, fun b hb hb2 => ?_⟩ S3 ⟨J3.1, fun i b hi e => by have := J3.2 i b hi e; omega⟩ (by omega)
        · obtain ⟨i, a1, a2, a3⟩ := N3.1 j hj
          exact ⟨i, a1, by rw [aup_n1 (by omega)]; exact a2, a3⟩
        · by_cases e : b = q
          · rw [e, gq] at hb2; exact absurd hb2 g
          · obtain ⟨i, a1, a2, a3⟩ := N3.2 b (by omega) (by rw [← gd b (by omega)]; exact hb2)
            exact ⟨i, a1, by rw [aup_n2 e]; exact a2, a3⟩
  have nams : ∀ (m j : Nat) (σ3 : aSg) (fr to : Nat → Int) (o : Nat → Nat) (l3 l4 l5 : AV), j + m = 26 → FrP σ2 σ3 → KRm σ3 σ3 j fr to o → (∀ i, i < j → σ3 148 i = (i : Int)) → (∀ v, Sl j fr to o v) → WP m187 17 [.inr (.inl 130), .inl (κ : Int), .inl (j : Int), l3, l4, l5] [] σ3 Q := by
    intro m
    induction m with
    | zero =>
      intro j σ3 fr to o l3 l4 l5 hj F3 R3 N3 S3
      have ej : j = 26 := by omega
      subst ej
      rw [s187_17]
      simp (disch := omega) only [s187_0, s187_1, s187_2, s187_5, s187_6, s187_7, s187_10, s187_11, s187_12, s187_15, s187_16, s187_18, s187_20, s187_23, s187_24, s187_27, s187_28, s187_29, s187_32, s187_33, s187_36, s187_39, s187_40, s187_42, s187_43, s187_46, s187_49, s187_50, s187_53, s187_54, s187_55, s187_58, s187_59, s187_60, s187_63, s187_66, s187_67, s187_70, s187_73, s187_74, s187_75, s187_78, s187_81, s187_82, s187_85, s187_86, s187_87, s187_89, s187_92, s187_93, s187_96, s187_97, s187_98, s187_101, s187_102, s187_105, s187_106, s187_107, s187_110, s187_112, s187_113, s187_116, s187_118, s187_119, s187_120, s187_121, s187_123, s187_125, s187_128, s187_131, s187_132, s187_134, s187_137, s187_140, s187_141, s187_144, s187_145, s187_146, s187_149, s187_152, s187_153, s187_154, s187_155, s187_158, s187_159, s187_160, s187_161, s187_164, s187_167, s187_170, s187_173, s187_174, s187_175, s187_178, s187_179, s187_180, s187_183, s187_186, s187_187, s187_188, s187_191, s187_194, s187_195, s187_196, s187_199, s187_200, s187_201, s187_204, s187_207, s187_210, s187_214, s187_217, s187_218, s187_219, s187_222, s187_225, s187_226, s187_229, s187_230, List.cons_append, List.nil_append, if_true, if_false, true_and, and_true, and_self, eq_self, true_or, or_true, false_or, or_false, tIn, tLe, fLe, tLt, fLt, tEq, fEq, isL]
      exact bnds T.length 0 σ3 26 fr to o (fun i => .inr (97 + (i : Int))) l3 l4 l5 (by omega) F3 R3 ⟨fun j hj => ⟨j, hj, N3 j hj, rfl⟩, fun b hb => by simp at hb⟩ S3 ⟨fun i j hi hj e => by simp only [Sum.inr.injEq] at e; omega, fun i b hi e => by simp at e⟩ (by omega)
    | succ m ih =>
      intro j σ3 fr to o l3 l4 l5 hj F3 R3 N3 S3
      have ec : (j : Int) + 1 = ((j + 1 : Nat) : Int) := by omega
      rw [s187_17]
      simp (disch := omega) only [s187_0, s187_1, s187_2, s187_5, s187_6, s187_7, s187_10, s187_11, s187_12, s187_15, s187_16, s187_18, s187_20, s187_23, s187_24, s187_27, s187_28, s187_29, s187_32, s187_33, s187_36, s187_39, s187_40, s187_42, s187_43, s187_46, s187_49, s187_50, s187_53, s187_54, s187_55, s187_58, s187_59, s187_60, s187_63, s187_66, s187_67, s187_70, s187_73, s187_74, s187_75, s187_78, s187_81, s187_82, s187_85, s187_86, s187_87, s187_89, s187_92, s187_93, s187_96, s187_97, s187_98, s187_101, s187_102, s187_105, s187_106, s187_107, s187_110, s187_112, s187_113, s187_116, s187_118, s187_119, s187_120, s187_121, s187_123, s187_125, s187_128, s187_131, s187_132, s187_134, s187_137, s187_140, s187_141, s187_144, s187_145, s187_146, s187_149, s187_152, s187_153, s187_154, s187_155, s187_158, s187_159, s187_160, s187_161, s187_164, s187_167, s187_170, s187_173, s187_174, s187_175, s187_178, s187_179, s187_180, s187_183, s187_186, s187_187, s187_188, s187_191, s187_194, s187_195, s187_196, s187_199, s187_200, s187_201, s187_204, s187_207, s187_210, s187_214, s187_217, s187_218, s187_219, s187_222, s187_225, s187_226, s187_229, s187_230, List.cons_append, List.nil_append, if_true, if_false, true_and, and_true, and_self, eq_self, true_or, or_true, false_or, or_false, tIn, tLe, fLe, tLt, fLt, tEq, fEq, isL]
      refine unk_m R3 (by omega) _ (fun σ4 fr4 to4 o4 i4 E4 => ?_)
      have F4 := FrP_tr F3 (FrN_P i4.2.2.2.2.2)
      have i4' := i4.2.2.2.2.2
      simp (disch := omega) only [s187_0, s187_1, s187_2, s187_5, s187_6, s187_7, s187_10, s187_11, s187_12, s187_15, s187_16, s187_18, s187_20, s187_23, s187_24, s187_27, s187_28, s187_29, s187_32, s187_33, s187_36, s187_39, s187_40, s187_42, s187_43, s187_46, s187_49, s187_50, s187_53, s187_54, s187_55, s187_58, s187_59, s187_60, s187_63, s187_66, s187_67, s187_70, s187_73, s187_74, s187_75, s187_78, s187_81, s187_82, s187_85, s187_86, s187_87, s187_89, s187_92, s187_93, s187_96, s187_97, s187_98, s187_101, s187_102, s187_105, s187_106, s187_107, s187_110, s187_112, s187_113, s187_116, s187_118, s187_119, s187_120, s187_121, s187_123, s187_125, s187_128, s187_131, s187_132, s187_134, s187_137, s187_140, s187_141, s187_144, s187_145, s187_146, s187_149, s187_152, s187_153, s187_154, s187_155, s187_158, s187_159, s187_160, s187_161, s187_164, s187_167, s187_170, s187_173, s187_174, s187_175, s187_178, s187_179, s187_180, s187_183, s187_186, s187_187, s187_188, s187_191, s187_194, s187_195, s187_196, s187_199, s187_200, s187_201, s187_204, s187_207, s187_210, s187_214, s187_217, s187_218, s187_219, s187_222, s187_225, s187_226, s187_229, s187_230, List.cons_append, List.nil_append, if_true, if_false, true_and, and_true, and_self, eq_self, true_or, or_true, false_or, or_false, tIn, tLe, fLe, tLt, fLt, tEq, fEq, isL, kd148, ln148, Int.toNat_natCast, ec]
      refine ih (j + 1) (aup σ4 148 j (j : Int)) fr4 to4 o4 l3 l4 l5 (by omega) (FrP_tr F4 ⟨fun a h1 h2 => aup_f (by omega), fun j _ => aup_n1 (by omega)⟩) ⟨by rw [aup_n1 (by omega)]; exact i4.1, fun i hi => by rw [aup_n1 (by omega)]; exact i4.2.1 i hi, fun i hi => by rw [aup_n1 (by omega)]; exact i4.2.2.1 i hi, fun i hi => by rw [aup_n1 (by omega)]; exact i4.2.2.2.1 i hi, i4.2.2.2.2.1, FrN_rf⟩ (fun i hi => ?_) (fun v => (E4 v).mpr (S3 v))
      by_cases e : i = j
      · rw [e, aup_s]
      · rw [aup_n2 e, i4'.1 148 (by omega) (by omega) (by omega) (by omega) (by omega)]; exact N3 i (by omega)
  exact nams 26 0 σ2 (fun _ => 0) (fun _ => 0) (fun _ => 0) _ _ _ (by omega) ⟨fun _ _ _ => rfl, fun _ _ => rfl⟩ ⟨K2, fun i hi => by omega, fun i hi => by omega, fun i hi => by omega, ⟨fun i hi => by omega, ⟨fun _ => 0, fun i hi => by omega⟩, fun i r hi => by omega⟩, FrN_rf⟩ (fun i hi => by omega) (fun v => ⟨fun i hi => by omega, fun i hi => by omega⟩)
end RK2
