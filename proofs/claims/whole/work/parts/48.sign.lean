/-! sign, both sides -/
section SGN
variable {σ σ0 σ' : aSg} {K : List AV → aSg → Prop} {x y z i : Int} {S : SS} {T W st : List Int} {r q t a j b k : Nat}
theorem wr190 {s : Nat} (hs : s < 4) (h : shM σ (121 * s) T) (hT : isT T) (hkT : tks T) (hl : T.length ≤ 120) (Q : List AV → aSg → Prop) (hq : ∀ σ', wrM σ' (sgL T) → FrG σ σ' → (∀ a, a < 130 → σ' a = σ a) → Q [] σ') : CA m190 [.inr (.inl 130), .inl (s : Int)] σ Q := by
  rw [e190]
  have l0 := ln134
  have i0 : scI T 0 := Or.inr (Or.inr ⟨by omega, isT_pos hT⟩)
  have m0 : scM T [0] ≤ 358 := by
    have h1 := scG_n (T := T) 0
    have h2 := te_gt hT (isT_pos hT)
    simp only [scM]
    rw [show ((0 : Nat) : Int) = 0 from rfl] at h1
    omega
  simp (disch := omega) only [s190_0, s190_1, s190_2, s190_5, s190_6, s190_7, s190_10, s190_11, s190_12, s190_15, s190_16, s190_17, s190_21, s190_24, s190_27, s190_28, s190_31, s190_32, s190_33, s190_36, s190_37, s190_38, s190_39, s190_42, s190_45, s190_46, s190_49, s190_50, s190_51, s190_54, s190_55, s190_56, s190_59, s190_62, s190_63, s190_66, s190_67, s190_68, s190_71, s190_74, s190_75, s190_77, s190_80, s190_81, s190_82, s190_85, s190_86, s190_87, s190_90, s190_91, s190_94, s190_95, s190_97, s190_100, s190_101, s190_102, s190_103, s190_104, s190_107, s190_110, s190_111, s190_112, s190_115, s190_116, s190_117, s190_120, s190_123, s190_124, s190_127, s190_128, s190_129, s190_132, s190_133, s190_136, s190_137, s190_138, s190_141, s190_144, s190_147, List.cons_append, List.nil_append, if_true, if_false, true_and, and_true, and_self, eq_self, true_or, or_true, false_or, or_false, tIn, tLe, fLe, tLt, fLt, tEq, fEq, isL]
  refine c136 hs h hl _ (fun σ1 t1 a1 a2 => ?_)
  have F1 : FrA 134 7 σ σ1 := ⟨a1, a2⟩
  simp (disch := omega) only [s190_0, s190_1, s190_2, s190_5, s190_6, s190_7, s190_10, s190_11, s190_12, s190_15, s190_16, s190_17, s190_21, s190_24, s190_27, s190_28, s190_31, s190_32, s190_33, s190_36, s190_37, s190_38, s190_39, s190_42, s190_45, s190_46, s190_49, s190_50, s190_51, s190_54, s190_55, s190_56, s190_59, s190_62, s190_63, s190_66, s190_67, s190_68, s190_71, s190_74, s190_75, s190_77, s190_80, s190_81, s190_82, s190_85, s190_86, s190_87, s190_90, s190_91, s190_94, s190_95, s190_97, s190_100, s190_101, s190_102, s190_103, s190_104, s190_107, s190_110, s190_111, s190_112, s190_115, s190_116, s190_117, s190_120, s190_123, s190_124, s190_127, s190_128, s190_129, s190_132, s190_133, s190_136, s190_137, s190_138, s190_141, s190_144, s190_147, List.cons_append, List.nil_append, if_true, if_false, true_and, and_true, and_self, eq_self, true_or, or_true, false_or, or_false, tIn, tLe, fLe, tLt, fLt, tEq, fEq, isL]
  have S0' : stM (aup (aup σ1 130 34 0) 130 11 0) [] := ⟨by rw [aup_s]; rfl, fun k c hc => by simp at hc⟩
  have I0 : SRI σ (aup (aup σ1 130 34 0) 130 11 0) T [] [] := by
    refine ⟨⟨?_, ?_⟩, ⟨?_, fun k c hc => by simp at hc⟩, S0', ⟨fun a h1 h2 => ?_, ?_, ?_, ?_⟩, fun a ha => ?_⟩
    · rw [aup_n2 (by omega), aup_n2 (by omega)]; exact t1.1
    · rw [aup_f (by omega), aup_f (by omega)]; exact t1.2
    · rw [aup_n2 (by omega), aup_s]; rfl
    · rw [aup_f (by omega), aup_f (by omega)]; exact a1 a (by omega) h2
    · rw [aup_n2 (by omega), aup_n2 (by omega)]; exact a2 1 (by omega)
    · rw [aup_n2 (by omega), aup_n2 (by omega)]; exact a2 4 (by omega)
    · rw [aup_n2 (by omega), aup_n2 (by omega)]; exact a2 5 (by omega)
    · rw [aup_f (by omega), aup_f (by omega)]; exact a1 a (by omega) (by omega)
  refine zpush S0' (by simp) _ (fun σ3 w3 f3 => ?_)
  have I1 := SRI_s I0 w3 f3
  simp (disch := omega) only [s190_0, s190_1, s190_2, s190_5, s190_6, s190_7, s190_10, s190_11, s190_12, s190_15, s190_16, s190_17, s190_21, s190_24, s190_27, s190_28, s190_31, s190_32, s190_33, s190_36, s190_37, s190_38, s190_39, s190_42, s190_45, s190_46, s190_49, s190_50, s190_51, s190_54, s190_55, s190_56, s190_59, s190_62, s190_63, s190_66, s190_67, s190_68, s190_71, s190_74, s190_75, s190_77, s190_80, s190_81, s190_82, s190_85, s190_86, s190_87, s190_90, s190_91, s190_94, s190_95, s190_97, s190_100, s190_101, s190_102, s190_103, s190_104, s190_107, s190_110, s190_111, s190_112, s190_115, s190_116, s190_117, s190_120, s190_123, s190_124, s190_127, s190_128, s190_129, s190_132, s190_133, s190_136, s190_137, s190_138, s190_141, s190_144, s190_147, List.cons_append, List.nil_append, if_true, if_false, true_and, and_true, and_self, eq_self, true_or, or_true, false_or, or_false, tIn, tLe, fLe, tLt, fLt, tEq, fEq, isL]
  have lp : ∀ (n : Nat) (W st : List Int) (σ1 : aSg) (l3 : AV), scM T st ≤ n → n ≤ 488 → (∀ u ∈ st, scI T u) → W.length + scM T st ≤ 358 → W ++ scR T n st = sgL T → SRI σ σ1 T W st → WP m190 20 [.inr (.inl 130), .inl (s : Int), l3] [] σ1 Q := by
    intro n
    induction n with
    | zero =>
      intro W st σ1 l3 hm hn8 hs hw he hi
      have := scM_len hT st hs
      have e : st = [] := List.length_eq_zero_iff.mp (by omega)
      subst e
      have d0 : σ1 130 11 = 0 := hi.2.2.1.1
      rw [s190_20]
      simp (disch := omega) only [s190_0, s190_1, s190_2, s190_5, s190_6, s190_7, s190_10, s190_11, s190_12, s190_15, s190_16, s190_17, s190_21, s190_24, s190_27, s190_28, s190_31, s190_32, s190_33, s190_36, s190_37, s190_38, s190_39, s190_42, s190_45, s190_46, s190_49, s190_50, s190_51, s190_54, s190_55, s190_56, s190_59, s190_62, s190_63, s190_66, s190_67, s190_68, s190_71, s190_74, s190_75, s190_77, s190_80, s190_81, s190_82, s190_85, s190_86, s190_87, s190_90, s190_91, s190_94, s190_95, s190_97, s190_100, s190_101, s190_102, s190_103, s190_104, s190_107, s190_110, s190_111, s190_112, s190_115, s190_116, s190_117, s190_120, s190_123, s190_124, s190_127, s190_128, s190_129, s190_132, s190_133, s190_136, s190_137, s190_138, s190_141, s190_144, s190_147, List.cons_append, List.nil_append, if_true, if_false, true_and, and_true, and_self, eq_self, true_or, or_true, false_or, or_false, tIn, tLe, fLe, tLt, fLt, tEq, fEq, isL, d0]
      exact hq σ1 (by have := hi.2.1; rw [← he]; simpa [scR] using this) hi.2.2.2.1 hi.2.2.2.2
    | succ n ih =>
      intro W st σ1 l3 hm hn8 hs hw he hi
      cases st with
      | nil =>
        have d0 : σ1 130 11 = 0 := hi.2.2.1.1
        rw [s190_20]
        simp (disch := omega) only [s190_0, s190_1, s190_2, s190_5, s190_6, s190_7, s190_10, s190_11, s190_12, s190_15, s190_16, s190_17, s190_21, s190_24, s190_27, s190_28, s190_31, s190_32, s190_33, s190_36, s190_37, s190_38, s190_39, s190_42, s190_45, s190_46, s190_49, s190_50, s190_51, s190_54, s190_55, s190_56, s190_59, s190_62, s190_63, s190_66, s190_67, s190_68, s190_71, s190_74, s190_75, s190_77, s190_80, s190_81, s190_82, s190_85, s190_86, s190_87, s190_90, s190_91, s190_94, s190_95, s190_97, s190_100, s190_101, s190_102, s190_103, s190_104, s190_107, s190_110, s190_111, s190_112, s190_115, s190_116, s190_117, s190_120, s190_123, s190_124, s190_127, s190_128, s190_129, s190_132, s190_133, s190_136, s190_137, s190_138, s190_141, s190_144, s190_147, List.cons_append, List.nil_append, if_true, if_false, true_and, and_true, and_self, eq_self, true_or, or_true, false_or, or_false, tIn, tLe, fLe, tLt, fLt, tEq, fEq, isL, d0]
        exact hq σ1 (by have := hi.2.1; rw [← he]; simpa [scR] using this) hi.2.2.2.1 hi.2.2.2.2
      | cons v st =>
        have hv := hs v (List.mem_cons_self ..)
        have hs' : ∀ u ∈ st, scI T u := fun u hu => hs u (List.mem_cons_of_mem _ hu)
        obtain ⟨s1, s2, s3⟩ := sc_step hT hkT hv hs'
        have hsl := scM_len hT st hs'
        simp only [scM] at hm hw
        simp only [scR, ← List.append_assoc] at he
        have hg := scG_pos hT hv
        have d0 : σ1 130 11 = (st.length : Int) + 1 := by have := hi.2.2.1.1; rw [this]; simp
        rw [s190_20]
        simp (disch := omega) only [s190_0, s190_1, s190_2, s190_5, s190_6, s190_7, s190_10, s190_11, s190_12, s190_15, s190_16, s190_17, s190_21, s190_24, s190_27, s190_28, s190_31, s190_32, s190_33, s190_36, s190_37, s190_38, s190_39, s190_42, s190_45, s190_46, s190_49, s190_50, s190_51, s190_54, s190_55, s190_56, s190_59, s190_62, s190_63, s190_66, s190_67, s190_68, s190_71, s190_74, s190_75, s190_77, s190_80, s190_81, s190_82, s190_85, s190_86, s190_87, s190_90, s190_91, s190_94, s190_95, s190_97, s190_100, s190_101, s190_102, s190_103, s190_104, s190_107, s190_110, s190_111, s190_112, s190_115, s190_116, s190_117, s190_120, s190_123, s190_124, s190_127, s190_128, s190_129, s190_132, s190_133, s190_136, s190_137, s190_138, s190_141, s190_144, s190_147, List.cons_append, List.nil_append, if_true, if_false, true_and, and_true, and_self, eq_self, true_or, or_true, false_or, or_false, tIn, tLe, fLe, tLt, fLt, tEq, fEq, isL, d0]
        refine zpop hi.2.2.1 (by omega) _ (fun σ2 w2 f2 => ?_)
        have i2 := SRI_s hi w2 f2
        by_cases g : v < 0
        · have hb : -41 ≤ v := by rcases hv with q | q | q <;> omega
          have e1 : scS T v st = st := by unfold scS; rw [if_pos g]
          have e2 : scW T v = [-v] := by unfold scW; rw [if_pos g]
          rw [e1, e2] at he s2
          simp (disch := omega) only [s190_0, s190_1, s190_2, s190_5, s190_6, s190_7, s190_10, s190_11, s190_12, s190_15, s190_16, s190_17, s190_21, s190_24, s190_27, s190_28, s190_31, s190_32, s190_33, s190_36, s190_37, s190_38, s190_39, s190_42, s190_45, s190_46, s190_49, s190_50, s190_51, s190_54, s190_55, s190_56, s190_59, s190_62, s190_63, s190_66, s190_67, s190_68, s190_71, s190_74, s190_75, s190_77, s190_80, s190_81, s190_82, s190_85, s190_86, s190_87, s190_90, s190_91, s190_94, s190_95, s190_97, s190_100, s190_101, s190_102, s190_103, s190_104, s190_107, s190_110, s190_111, s190_112, s190_115, s190_116, s190_117, s190_120, s190_123, s190_124, s190_127, s190_128, s190_129, s190_132, s190_133, s190_136, s190_137, s190_138, s190_141, s190_144, s190_147, List.cons_append, List.nil_append, if_true, if_false, true_and, and_true, and_self, eq_self, true_or, or_true, false_or, or_false, tIn, tLe, fLe, tLt, fLt, tEq, fEq, isL]
          refine zwrite i2.2.1 (by omega) _ (fun σ3 w3 f3 => ?_)
          simp (disch := omega) only [s190_0, s190_1, s190_2, s190_5, s190_6, s190_7, s190_10, s190_11, s190_12, s190_15, s190_16, s190_17, s190_21, s190_24, s190_27, s190_28, s190_31, s190_32, s190_33, s190_36, s190_37, s190_38, s190_39, s190_42, s190_45, s190_46, s190_49, s190_50, s190_51, s190_54, s190_55, s190_56, s190_59, s190_62, s190_63, s190_66, s190_67, s190_68, s190_71, s190_74, s190_75, s190_77, s190_80, s190_81, s190_82, s190_85, s190_86, s190_87, s190_90, s190_91, s190_94, s190_95, s190_97, s190_100, s190_101, s190_102, s190_103, s190_104, s190_107, s190_110, s190_111, s190_112, s190_115, s190_116, s190_117, s190_120, s190_123, s190_124, s190_127, s190_128, s190_129, s190_132, s190_133, s190_136, s190_137, s190_138, s190_141, s190_144, s190_147, List.cons_append, List.nil_append, if_true, if_false, true_and, and_true, and_self, eq_self, true_or, or_true, false_or, or_false, tIn, tLe, fLe, tLt, fLt, tEq, fEq, isL]
          exact ih _ st σ3 _ (by omega) (by omega) hs' (by simp at s2 ⊢; omega) he (SRI_w i2 w3 f3)
        · obtain ⟨p, rfl⟩ := Int.eq_ofNat_of_zero_le (show 0 ≤ v by omega)
          have hp : p < T.length := by
            rcases hv with q | q | q
            · omega
            · omega
            · simpa using q.2
          have el := lat_i2 hp
          have n1 := i2.1.2 _ _ (List.getElem?_eq_getElem hp)
          have tk := hkT _ (List.getElem_mem hp)
          have tb := tau_b tk
          have tz := tau_0 tk
          have ti := tau_in tk
          have ih' : ∀ (σ3 : aSg) (W3 st3 : List Int) (l3 : AV), st3 = scS T (p : Int) st → W3 = W ++ scW T (p : Int) → SRI σ σ3 T W3 st3 → WP m190 20 [.inr (.inl 130), .inl (s : Int), l3] [] σ3 Q := by
            intro σ3 W3 st3 l3 e1 e2 e3
            subst e1 e2
            exact ih _ _ σ3 l3 (by omega) (by omega) s1 (by rw [List.length_append]; omega) he e3
          unfold scW scS at ih'
          simp only [if_neg g, el] at ih'
          unfold scW at s2
          rw [if_neg g, el] at s2
          by_cases g1 : T[p] = 1
          · have z1 := tz.mpr g1
            simp only [if_pos g1] at ih'
            simp (disch := omega) only [s190_0, s190_1, s190_2, s190_5, s190_6, s190_7, s190_10, s190_11, s190_12, s190_15, s190_16, s190_17, s190_21, s190_24, s190_27, s190_28, s190_31, s190_32, s190_33, s190_36, s190_37, s190_38, s190_39, s190_42, s190_45, s190_46, s190_49, s190_50, s190_51, s190_54, s190_55, s190_56, s190_59, s190_62, s190_63, s190_66, s190_67, s190_68, s190_71, s190_74, s190_75, s190_77, s190_80, s190_81, s190_82, s190_85, s190_86, s190_87, s190_90, s190_91, s190_94, s190_95, s190_97, s190_100, s190_101, s190_102, s190_103, s190_104, s190_107, s190_110, s190_111, s190_112, s190_115, s190_116, s190_117, s190_120, s190_123, s190_124, s190_127, s190_128, s190_129, s190_132, s190_133, s190_136, s190_137, s190_138, s190_141, s190_144, s190_147, List.cons_append, List.nil_append, if_true, if_false, true_and, and_true, and_self, eq_self, true_or, or_true, false_or, or_false, tIn, tLe, fLe, tLt, fLt, tEq, fEq, isL, kd134, ln134, Int.toNat_natCast, n1, z1]
            refine wr193 i2 hT hkT hl hp g1 (by omega) _ (fun σ3 i3 => ?_)
            simp (disch := omega) only [s190_0, s190_1, s190_2, s190_5, s190_6, s190_7, s190_10, s190_11, s190_12, s190_15, s190_16, s190_17, s190_21, s190_24, s190_27, s190_28, s190_31, s190_32, s190_33, s190_36, s190_37, s190_38, s190_39, s190_42, s190_45, s190_46, s190_49, s190_50, s190_51, s190_54, s190_55, s190_56, s190_59, s190_62, s190_63, s190_66, s190_67, s190_68, s190_71, s190_74, s190_75, s190_77, s190_80, s190_81, s190_82, s190_85, s190_86, s190_87, s190_90, s190_91, s190_94, s190_95, s190_97, s190_100, s190_101, s190_102, s190_103, s190_104, s190_107, s190_110, s190_111, s190_112, s190_115, s190_116, s190_117, s190_120, s190_123, s190_124, s190_127, s190_128, s190_129, s190_132, s190_133, s190_136, s190_137, s190_138, s190_141, s190_144, s190_147, List.cons_append, List.nil_append, if_true, if_false, true_and, and_true, and_self, eq_self, true_or, or_true, false_or, or_false, tIn, tLe, fLe, tLt, fLt, tEq, fEq, isL]
            exact ih' σ3 W _ _ rfl (by simp) i3
          · have z1 : ¬ tau T[p] = 0 := fun z => g1 (tz.mp z)
            simp only [if_neg g1] at ih'
            rw [if_neg g1] at s2
            by_cases g2 : 1000 < T[p]
            · have z2 := tb.mpr g2
              have tb2 : tau T[p] = T[p] := tau_big (by omega)
              simp only [if_pos g2] at ih'
              rw [if_pos g2] at s2
              simp only [List.length_cons, List.length_nil] at s2
              simp (disch := omega) only [s190_0, s190_1, s190_2, s190_5, s190_6, s190_7, s190_10, s190_11, s190_12, s190_15, s190_16, s190_17, s190_21, s190_24, s190_27, s190_28, s190_31, s190_32, s190_33, s190_36, s190_37, s190_38, s190_39, s190_42, s190_45, s190_46, s190_49, s190_50, s190_51, s190_54, s190_55, s190_56, s190_59, s190_62, s190_63, s190_66, s190_67, s190_68, s190_71, s190_74, s190_75, s190_77, s190_80, s190_81, s190_82, s190_85, s190_86, s190_87, s190_90, s190_91, s190_94, s190_95, s190_97, s190_100, s190_101, s190_102, s190_103, s190_104, s190_107, s190_110, s190_111, s190_112, s190_115, s190_116, s190_117, s190_120, s190_123, s190_124, s190_127, s190_128, s190_129, s190_132, s190_133, s190_136, s190_137, s190_138, s190_141, s190_144, s190_147, List.cons_append, List.nil_append, if_true, if_false, true_and, and_true, and_self, eq_self, true_or, or_true, false_or, or_false, tIn, tLe, fLe, tLt, fLt, tEq, fEq, isL, kd134, ln134, Int.toNat_natCast, n1, c129]
              refine zwrite i2.2.1 (by omega) _ (fun σ3 w3 f3 => ?_)
              have i3 := SRI_w i2 w3 f3
              have n3 := i3.1.2 _ _ (List.getElem?_eq_getElem hp)
              simp (disch := omega) only [s190_0, s190_1, s190_2, s190_5, s190_6, s190_7, s190_10, s190_11, s190_12, s190_15, s190_16, s190_17, s190_21, s190_24, s190_27, s190_28, s190_31, s190_32, s190_33, s190_36, s190_37, s190_38, s190_39, s190_42, s190_45, s190_46, s190_49, s190_50, s190_51, s190_54, s190_55, s190_56, s190_59, s190_62, s190_63, s190_66, s190_67, s190_68, s190_71, s190_74, s190_75, s190_77, s190_80, s190_81, s190_82, s190_85, s190_86, s190_87, s190_90, s190_91, s190_94, s190_95, s190_97, s190_100, s190_101, s190_102, s190_103, s190_104, s190_107, s190_110, s190_111, s190_112, s190_115, s190_116, s190_117, s190_120, s190_123, s190_124, s190_127, s190_128, s190_129, s190_132, s190_133, s190_136, s190_137, s190_138, s190_141, s190_144, s190_147, List.cons_append, List.nil_append, if_true, if_false, true_and, and_true, and_self, eq_self, true_or, or_true, false_or, or_false, tIn, tLe, fLe, tLt, fLt, tEq, fEq, isL, kd134, ln134, Int.toNat_natCast, n3]
              refine zwrite i3.2.1 (by simp; omega) _ (fun σ4 w4 f4 => ?_)
              have i4 := SRI_w i3 w4 f4
              simp (disch := omega) only [s190_0, s190_1, s190_2, s190_5, s190_6, s190_7, s190_10, s190_11, s190_12, s190_15, s190_16, s190_17, s190_21, s190_24, s190_27, s190_28, s190_31, s190_32, s190_33, s190_36, s190_37, s190_38, s190_39, s190_42, s190_45, s190_46, s190_49, s190_50, s190_51, s190_54, s190_55, s190_56, s190_59, s190_62, s190_63, s190_66, s190_67, s190_68, s190_71, s190_74, s190_75, s190_77, s190_80, s190_81, s190_82, s190_85, s190_86, s190_87, s190_90, s190_91, s190_94, s190_95, s190_97, s190_100, s190_101, s190_102, s190_103, s190_104, s190_107, s190_110, s190_111, s190_112, s190_115, s190_116, s190_117, s190_120, s190_123, s190_124, s190_127, s190_128, s190_129, s190_132, s190_133, s190_136, s190_137, s190_138, s190_141, s190_144, s190_147, List.cons_append, List.nil_append, if_true, if_false, true_and, and_true, and_self, eq_self, true_or, or_true, false_or, or_false, tIn, tLe, fLe, tLt, fLt, tEq, fEq, isL]
              refine zwrite i4.2.1 (by simp; omega) _ (fun σ5 w5 f5 => ?_)
              have i5 := SRI_w i4 w5 f5
              simp (disch := omega) only [s190_0, s190_1, s190_2, s190_5, s190_6, s190_7, s190_10, s190_11, s190_12, s190_15, s190_16, s190_17, s190_21, s190_24, s190_27, s190_28, s190_31, s190_32, s190_33, s190_36, s190_37, s190_38, s190_39, s190_42, s190_45, s190_46, s190_49, s190_50, s190_51, s190_54, s190_55, s190_56, s190_59, s190_62, s190_63, s190_66, s190_67, s190_68, s190_71, s190_74, s190_75, s190_77, s190_80, s190_81, s190_82, s190_85, s190_86, s190_87, s190_90, s190_91, s190_94, s190_95, s190_97, s190_100, s190_101, s190_102, s190_103, s190_104, s190_107, s190_110, s190_111, s190_112, s190_115, s190_116, s190_117, s190_120, s190_123, s190_124, s190_127, s190_128, s190_129, s190_132, s190_133, s190_136, s190_137, s190_138, s190_141, s190_144, s190_147, List.cons_append, List.nil_append, if_true, if_false, true_and, and_true, and_self, eq_self, true_or, or_true, false_or, or_false, tIn, tLe, fLe, tLt, fLt, tEq, fEq, isL]
              refine zpush i5.2.2.1 (by omega) _ (fun σ6 w6 f6 => ?_)
              simp (disch := omega) only [s190_0, s190_1, s190_2, s190_5, s190_6, s190_7, s190_10, s190_11, s190_12, s190_15, s190_16, s190_17, s190_21, s190_24, s190_27, s190_28, s190_31, s190_32, s190_33, s190_36, s190_37, s190_38, s190_39, s190_42, s190_45, s190_46, s190_49, s190_50, s190_51, s190_54, s190_55, s190_56, s190_59, s190_62, s190_63, s190_66, s190_67, s190_68, s190_71, s190_74, s190_75, s190_77, s190_80, s190_81, s190_82, s190_85, s190_86, s190_87, s190_90, s190_91, s190_94, s190_95, s190_97, s190_100, s190_101, s190_102, s190_103, s190_104, s190_107, s190_110, s190_111, s190_112, s190_115, s190_116, s190_117, s190_120, s190_123, s190_124, s190_127, s190_128, s190_129, s190_132, s190_133, s190_136, s190_137, s190_138, s190_141, s190_144, s190_147, List.cons_append, List.nil_append, if_true, if_false, true_and, and_true, and_self, eq_self, true_or, or_true, false_or, or_false, tIn, tLe, fLe, tLt, fLt, tEq, fEq, isL]
              exact ih' σ6 _ _ _ rfl (by rw [tb2]; simp) (SRI_s i5 w6 f6)
            · have z2 : ¬ 1000 ≤ tau T[p] := fun z => g2 (tb.mp z)
              simp only [if_neg g2] at ih'
              rw [if_neg g2] at s2
              simp only [List.length_cons, List.length_nil] at s2
              by_cases g3 : 97 ≤ tau T[p] ∧ tau T[p] ≤ 122
              · have e4 := nm_tau tk g3
                simp (disch := omega) only [s190_0, s190_1, s190_2, s190_5, s190_6, s190_7, s190_10, s190_11, s190_12, s190_15, s190_16, s190_17, s190_21, s190_24, s190_27, s190_28, s190_31, s190_32, s190_33, s190_36, s190_37, s190_38, s190_39, s190_42, s190_45, s190_46, s190_49, s190_50, s190_51, s190_54, s190_55, s190_56, s190_59, s190_62, s190_63, s190_66, s190_67, s190_68, s190_71, s190_74, s190_75, s190_77, s190_80, s190_81, s190_82, s190_85, s190_86, s190_87, s190_90, s190_91, s190_94, s190_95, s190_97, s190_100, s190_101, s190_102, s190_103, s190_104, s190_107, s190_110, s190_111, s190_112, s190_115, s190_116, s190_117, s190_120, s190_123, s190_124, s190_127, s190_128, s190_129, s190_132, s190_133, s190_136, s190_137, s190_138, s190_141, s190_144, s190_147, List.cons_append, List.nil_append, if_true, if_false, true_and, and_true, and_self, eq_self, true_or, or_true, false_or, or_false, tIn, tLe, fLe, tLt, fLt, tEq, fEq, isL, kd134, ln134, Int.toNat_natCast, n1, c129, c128, g3]
                refine zwrite i2.2.1 (by omega) _ (fun σ3 w3 f3 => ?_)
                simp (disch := omega) only [s190_0, s190_1, s190_2, s190_5, s190_6, s190_7, s190_10, s190_11, s190_12, s190_15, s190_16, s190_17, s190_21, s190_24, s190_27, s190_28, s190_31, s190_32, s190_33, s190_36, s190_37, s190_38, s190_39, s190_42, s190_45, s190_46, s190_49, s190_50, s190_51, s190_54, s190_55, s190_56, s190_59, s190_62, s190_63, s190_66, s190_67, s190_68, s190_71, s190_74, s190_75, s190_77, s190_80, s190_81, s190_82, s190_85, s190_86, s190_87, s190_90, s190_91, s190_94, s190_95, s190_97, s190_100, s190_101, s190_102, s190_103, s190_104, s190_107, s190_110, s190_111, s190_112, s190_115, s190_116, s190_117, s190_120, s190_123, s190_124, s190_127, s190_128, s190_129, s190_132, s190_133, s190_136, s190_137, s190_138, s190_141, s190_144, s190_147, List.cons_append, List.nil_append, if_true, if_false, true_and, and_true, and_self, eq_self, true_or, or_true, false_or, or_false, tIn, tLe, fLe, tLt, fLt, tEq, fEq, isL]
                exact ih' σ3 _ _ _ rfl (by rw [e4]) (SRI_w i2 w3 f3)
              · have e4 := lSg_tau tk g1 g2 g3
                simp (disch := omega) only [s190_0, s190_1, s190_2, s190_5, s190_6, s190_7, s190_10, s190_11, s190_12, s190_15, s190_16, s190_17, s190_21, s190_24, s190_27, s190_28, s190_31, s190_32, s190_33, s190_36, s190_37, s190_38, s190_39, s190_42, s190_45, s190_46, s190_49, s190_50, s190_51, s190_54, s190_55, s190_56, s190_59, s190_62, s190_63, s190_66, s190_67, s190_68, s190_71, s190_74, s190_75, s190_77, s190_80, s190_81, s190_82, s190_85, s190_86, s190_87, s190_90, s190_91, s190_94, s190_95, s190_97, s190_100, s190_101, s190_102, s190_103, s190_104, s190_107, s190_110, s190_111, s190_112, s190_115, s190_116, s190_117, s190_120, s190_123, s190_124, s190_127, s190_128, s190_129, s190_132, s190_133, s190_136, s190_137, s190_138, s190_141, s190_144, s190_147, List.cons_append, List.nil_append, if_true, if_false, true_and, and_true, and_self, eq_self, true_or, or_true, false_or, or_false, tIn, tLe, fLe, tLt, fLt, tEq, fEq, isL, kd134, ln134, Int.toNat_natCast, n1, c129, c128, g3, c191]
                refine zwrite i2.2.1 (by omega) _ (fun σ3 w3 f3 => ?_)
                simp (disch := omega) only [s190_0, s190_1, s190_2, s190_5, s190_6, s190_7, s190_10, s190_11, s190_12, s190_15, s190_16, s190_17, s190_21, s190_24, s190_27, s190_28, s190_31, s190_32, s190_33, s190_36, s190_37, s190_38, s190_39, s190_42, s190_45, s190_46, s190_49, s190_50, s190_51, s190_54, s190_55, s190_56, s190_59, s190_62, s190_63, s190_66, s190_67, s190_68, s190_71, s190_74, s190_75, s190_77, s190_80, s190_81, s190_82, s190_85, s190_86, s190_87, s190_90, s190_91, s190_94, s190_95, s190_97, s190_100, s190_101, s190_102, s190_103, s190_104, s190_107, s190_110, s190_111, s190_112, s190_115, s190_116, s190_117, s190_120, s190_123, s190_124, s190_127, s190_128, s190_129, s190_132, s190_133, s190_136, s190_137, s190_138, s190_141, s190_144, s190_147, List.cons_append, List.nil_append, if_true, if_false, true_and, and_true, and_self, eq_self, true_or, or_true, false_or, or_false, tIn, tLe, fLe, tLt, fLt, tEq, fEq, isL]
                exact ih' σ3 _ _ _ rfl (by rw [e4]) (SRI_w i2 w3 f3)
  exact lp 488 [] [0] σ3 _ (by omega) (by omega) (fun u hu => by rcases List.mem_singleton.mp hu with rfl; exact i0) (by simpa using m0) (by simp [sgL]) I1
def f100 (S : SS) (x i : Int) : Int × SS := (if ¬ (0 ≤ x ∧ x < 4) then UNK else if i < 0 then OUT else if sv S x.toNat = [] then NOTc else latOr (sgL (sv S x.toNat)) i (-1), S)
theorem sgL_len (hT : isT T) (hkT : tks T) : (sgL T).length ≤ 3 * T.length := by
  have : ∀ (n : Nat) (st : List Int), (∀ u ∈ st, scI T u) → (scR T n st).length ≤ scM T st := by
    intro n
    induction n with
    | zero => intro st _; simp [scR]
    | succ n ih =>
      intro st hs
      cases st with
      | nil => simp [scR]
      | cons v st =>
        have hv := hs v (List.mem_cons_self ..)
        have hs' : ∀ u ∈ st, scI T u := fun u hu => hs u (List.mem_cons_of_mem _ hu)
        obtain ⟨s1, s2, s3⟩ := sc_step hT hkT hv hs'
        have := ih _ s1
        simp only [scR, scM, List.length_append]
        omega
  have h := this 488 [0] (fun u hu => by rcases List.mem_singleton.mp hu with rfl; exact Or.inr (Or.inr ⟨by omega, isT_pos hT⟩))
  have h1 := scG_n (T := T) 0
  have h2 := te_gt hT (isT_pos hT)
  simp only [scM] at h
  rw [show ((0 : Nat) : Int) = 0 from rfl] at h1
  unfold sgL
  omega
theorem RepC_day (hR : RepC σ S) (hk : RK σ') (hf : ∀ a, a < 53 → σ' a = σ a) : RepC σ' S := hR.keep hk hf
theorem k100 (hR : RepC σ S) : CC m100 [.inr (.inl 0), .inl x, .inl i] σ (f100 S x i).1 (f100 S x i).2 := by
  unfold CC
  rw [e100]
  unfold f100
  have hk := hR.1
  by_cases hx : 0 ≤ x ∧ x < 4
  · rw [if_neg (fun q => q hx)]
    obtain ⟨p, rfl⟩ := Int.eq_ofNat_of_zero_le hx.1
    have hp : p < 4 := by omega
    have vp := hR.2.2.2.1 p hp
    have op := hR.2.1.2.2.1 p hp
    have lp := sh_len op
    have rp := rowS hp
    have tp := ptS p hp
    have k3 := kd3
    have l3 := ln3
    simp only [Int.toNat_natCast]
    by_cases hi : i < 0
    · rw [if_pos hi]
      simp (disch := omega) only [s100_0, s100_1, s100_4, s100_7, s100_9, s100_10, s100_11, s100_14, s100_16, s100_17, s100_18, s100_19, s100_22, s100_25, s100_27, s100_28, s100_29, s100_32, s100_33, s100_36, s100_37, s100_38, s100_41, s100_42, s100_45, s100_48, s100_49, s100_50, s100_53, List.cons_append, List.nil_append, if_true, if_false, true_and, and_true, and_self, eq_self, true_or, or_true, false_or, or_false, tIn, tLe, fLe, tLt, fLt, tEq, fEq, isL, c113]
      exact ⟨hR, fun _ _ => rfl⟩
    · rw [if_neg hi]
      by_cases ep : sv S p = []
      · rw [if_pos ep]
        simp (disch := omega) only [s100_0, s100_1, s100_4, s100_7, s100_9, s100_10, s100_11, s100_14, s100_16, s100_17, s100_18, s100_19, s100_22, s100_25, s100_27, s100_28, s100_29, s100_32, s100_33, s100_36, s100_37, s100_38, s100_41, s100_42, s100_45, s100_48, s100_49, s100_50, s100_53, List.cons_append, List.nil_append, if_true, if_false, true_and, and_true, and_self, eq_self, true_or, or_true, false_or, or_false, tIn, tLe, fLe, tLt, fLt, tEq, fEq, isL, c113, c111 hp hk, vp, ep]
        exact ⟨hR, fun _ _ => rfl⟩
      · rw [if_neg ep]
        have wf := sh_wf op ep
        simp (disch := omega) only [s100_0, s100_1, s100_4, s100_7, s100_9, s100_10, s100_11, s100_14, s100_16, s100_17, s100_18, s100_19, s100_22, s100_25, s100_27, s100_28, s100_29, s100_32, s100_33, s100_36, s100_37, s100_38, s100_41, s100_42, s100_45, s100_48, s100_49, s100_50, s100_53, List.cons_append, List.nil_append, if_true, if_false, true_and, and_true, and_self, eq_self, true_or, or_true, false_or, or_false, tIn, tLe, fLe, tLt, fLt, tEq, fEq, isL, c113, c111 hp hk, vp, ep, k3, l3, Int.toNat_natCast, tp.1, tp.2]
        refine wr45 rp (by omega) hk vp wf.1 wf.2 lp _ (fun σ1 k1 w1 f1 => ?_)
        simp (disch := omega) only [s100_0, s100_1, s100_4, s100_7, s100_9, s100_10, s100_11, s100_14, s100_16, s100_17, s100_18, s100_19, s100_22, s100_25, s100_27, s100_28, s100_29, s100_32, s100_33, s100_36, s100_37, s100_38, s100_41, s100_42, s100_45, s100_48, s100_49, s100_50, s100_53, List.cons_append, List.nil_append, if_true, if_false, true_and, and_true, and_self, eq_self, true_or, or_true, false_or, or_false, tIn, tLe, fLe, tLt, fLt, tEq, fEq, isL, c44, row104.1, c31 row104 k1, w1]
        exact ⟨hR.keep k1 (fun a ha => f1 a (by omega)), fun a ha => f1 a (by omega)⟩
  · rw [if_pos hx]
    simp (disch := omega) only [s100_0, s100_1, s100_4, s100_7, s100_9, s100_10, s100_11, s100_14, s100_16, s100_17, s100_18, s100_19, s100_22, s100_25, s100_27, s100_28, s100_29, s100_32, s100_33, s100_36, s100_37, s100_38, s100_41, s100_42, s100_45, s100_48, s100_49, s100_50, s100_53, List.cons_append, List.nil_append, if_true, if_false, true_and, and_true, and_self, eq_self, true_or, or_true, false_or, or_false, tIn, tLe, fLe, tLt, fLt, tEq, fEq, isL, c113, hx]
    exact ⟨hR, fun _ _ => rfl⟩
theorem m199_ok (hR : RepM σ S) : MM m199 [.inr (.inl 130), .inl x, .inl i] σ (f100 S x i).1 (f100 S x i).2 := by
  unfold MM
  rw [e199]
  unfold f100
  by_cases hx : 0 ≤ x ∧ x < 4
  · rw [if_neg (fun q => q hx)]
    obtain ⟨p, rfl⟩ := Int.eq_ofNat_of_zero_le hx.1
    have hp : p < 4 := by omega
    have sp := hR.sh hp
    have op := hR.1.2.2.1 p hp
    have lp := sh_len op
    have hsz : σ 131 (121 * p) = ((sv S p).length : Int) := sp.1
    simp only [Int.toNat_natCast]
    by_cases hi : i < 0
    · rw [if_pos hi]
      simp (disch := omega) only [s199_0, s199_1, s199_4, s199_7, s199_9, s199_10, s199_11, s199_14, s199_16, s199_17, s199_18, s199_19, s199_22, s199_25, s199_27, s199_28, s199_29, s199_30, s199_33, s199_34, s199_35, s199_38, s199_41, s199_42, s199_45, s199_46, s199_47, s199_50, s199_51, List.cons_append, List.nil_append, if_true, if_false, true_and, and_true, and_self, eq_self, true_or, or_true, false_or, or_false, tIn, tLe, fLe, tLt, fLt, tEq, fEq, isL, c130]
      exact ⟨hR, fun _ _ => rfl⟩
    · rw [if_neg hi]
      by_cases ep : sv S p = []
      · rw [if_pos ep]
        have z0 : ((sv S p).length : Int) = 0 := by rw [ep]; rfl
        simp (disch := omega) only [s199_0, s199_1, s199_4, s199_7, s199_9, s199_10, s199_11, s199_14, s199_16, s199_17, s199_18, s199_19, s199_22, s199_25, s199_27, s199_28, s199_29, s199_30, s199_33, s199_34, s199_35, s199_38, s199_41, s199_42, s199_45, s199_46, s199_47, s199_50, s199_51, List.cons_append, List.nil_append, if_true, if_false, true_and, and_true, and_self, eq_self, true_or, or_true, false_or, or_false, tIn, tLe, fLe, tLt, fLt, tEq, fEq, isL, c130, c131 hp, hsz]
        exact ⟨hR, fun _ _ => rfl⟩
      · rw [if_neg ep]
        have z0 : 0 < (sv S p).length := List.length_pos_iff.mpr ep
        have wf := sh_wf op ep
        simp (disch := omega) only [s199_0, s199_1, s199_4, s199_7, s199_9, s199_10, s199_11, s199_14, s199_16, s199_17, s199_18, s199_19, s199_22, s199_25, s199_27, s199_28, s199_29, s199_30, s199_33, s199_34, s199_35, s199_38, s199_41, s199_42, s199_45, s199_46, s199_47, s199_50, s199_51, List.cons_append, List.nil_append, if_true, if_false, true_and, and_true, and_self, eq_self, true_or, or_true, false_or, or_false, tIn, tLe, fLe, tLt, fLt, tEq, fEq, isL, c130, c131 hp, hsz]
        refine wr190 hp sp wf.1 wf.2 lp _ (fun σ1 w1 f1 f2 => ?_)
        have sl := sgL_len wf.1 wf.2
        have l0 := ln151
        have e34 : σ1 130 34 = ((sgL (sv S p)).length : Int) := w1.1
        unfold latOr
        by_cases hg : i < ((sgL (sv S p)).length : Int)
        · rw [if_pos ⟨by omega, hg⟩]
          obtain ⟨k, rfl⟩ := Int.eq_ofNat_of_zero_le (show 0 ≤ i by omega)
          have hkl : k < (sgL (sv S p)).length := by omega
          have ev := w1.2 k _ (List.getElem?_eq_getElem hkl)
          simp (disch := omega) only [s199_0, s199_1, s199_4, s199_7, s199_9, s199_10, s199_11, s199_14, s199_16, s199_17, s199_18, s199_19, s199_22, s199_25, s199_27, s199_28, s199_29, s199_30, s199_33, s199_34, s199_35, s199_38, s199_41, s199_42, s199_45, s199_46, s199_47, s199_50, s199_51, List.cons_append, List.nil_append, if_true, if_false, true_and, and_true, and_self, eq_self, true_or, or_true, false_or, or_false, tIn, tLe, fLe, tLt, fLt, tEq, fEq, isL, e34, kd151, ln151, Int.toNat_natCast, ev]
          refine ⟨?_, RepM_G hR f1, f2⟩
          rw [List.getD_eq_getElem?_getD, List.getElem?_eq_getElem hkl]
          rfl
        · rw [if_neg (fun q => hg q.2)]
          simp (disch := omega) only [s199_0, s199_1, s199_4, s199_7, s199_9, s199_10, s199_11, s199_14, s199_16, s199_17, s199_18, s199_19, s199_22, s199_25, s199_27, s199_28, s199_29, s199_30, s199_33, s199_34, s199_35, s199_38, s199_41, s199_42, s199_45, s199_46, s199_47, s199_50, s199_51, List.cons_append, List.nil_append, if_true, if_false, true_and, and_true, and_self, eq_self, true_or, or_true, false_or, or_false, tIn, tLe, fLe, tLt, fLt, tEq, fEq, isL, e34]
          exact ⟨RepM_G hR f1, f2⟩
  · rw [if_pos hx]
    have gx : ¬ (0 ≤ x ∧ x ≤ 3) := by omega
    simp (disch := omega) only [s199_0, s199_1, s199_4, s199_7, s199_9, s199_10, s199_11, s199_14, s199_16, s199_17, s199_18, s199_19, s199_22, s199_25, s199_27, s199_28, s199_29, s199_30, s199_33, s199_34, s199_35, s199_38, s199_41, s199_42, s199_45, s199_46, s199_47, s199_50, s199_51, List.cons_append, List.nil_append, if_true, if_false, true_and, and_true, and_self, eq_self, true_or, or_true, false_or, or_false, tIn, tLe, fLe, tLt, fLt, tEq, fEq, isL, c130, gx]
    exact ⟨hR, fun _ _ => rfl⟩
end SGN
