/-! putIn: the reference -/
section PK
variable {σ : aSg} {K : List AV → aSg → Prop} {x y z i : Int} {S : SS} {T : List Int} {r : Nat}
theorem m161_ok (hR : RepM σ S) : MM m161 [.inr (.inl 130), .inl x, .inl y, .inl z] σ (f93 S x y z).1 (f93 S x y z).2 := by
  unfold MM
  rw [e161]
  unfold f93
  by_cases hx : 0 ≤ x ∧ x < 4
  · by_cases hz : 0 ≤ z ∧ z < 4
    · rw [if_neg (fun q => q ⟨hx, hz⟩)]
      obtain ⟨p, rfl⟩ := Int.eq_ofNat_of_zero_le hx.1
      obtain ⟨q, rfl⟩ := Int.eq_ofNat_of_zero_le hz.1
      have hp : p < 4 := by omega
      have hq : q < 4 := by omega
      have sp := hR.sh hp
      have sq := hR.sh hq
      have op := hR.1.2.2.1 p hp
      have oq := hR.1.2.2.1 q hq
      have lp := sh_len op
      have lq := sh_len oq
      simp only [Int.toNat_natCast]
      by_cases hy : 97 ≤ y ∧ y ≤ 122
      · rw [if_neg (fun q => q hy)]
        by_cases np : sv S p = [] ∨ 0 < nbB (sv S p)
        · rw [if_pos (by rcases np with h | h; exact Or.inl h; exact Or.inr (Or.inr (Or.inl h)))]
          simp (disch := omega) only [s161_0, s161_1, s161_4, s161_7, s161_8, s161_11, s161_14, s161_16, s161_17, s161_18, s161_21, s161_24, s161_26, s161_27, s161_28, s161_29, s161_32, s161_35, s161_36, s161_37, s161_40, s161_43, s161_45, s161_46, s161_47, s161_48, s161_51, s161_52, s161_53, s161_56, s161_57, s161_61, s161_62, s161_65, s161_68, s161_69, s161_72, s161_74, s161_77, s161_78, s161_81, s161_83, s161_84, s161_85, s161_88, s161_89, s161_90, s161_93, s161_96, s161_97, s161_98, s161_101, s161_103, s161_104, s161_107, s161_110, s161_113, s161_114, s161_117, s161_118, s161_119, s161_122, List.cons_append, List.nil_append, if_true, if_false, true_and, and_true, and_self, eq_self, true_or, or_true, false_or, or_false, tIn, tLe, fLe, tLt, fLt, tEq, fEq, c130, c128, c160 hp sp lp (sh_tks op), np]
          exact ⟨hR, fun _ _ => rfl⟩
        by_cases nq : sv S q = [] ∨ 0 < nbB (sv S q)
        · rw [if_pos (by rcases nq with h | h; exact Or.inr (Or.inl h); exact Or.inr (Or.inr (Or.inr h)))]
          simp (disch := omega) only [s161_0, s161_1, s161_4, s161_7, s161_8, s161_11, s161_14, s161_16, s161_17, s161_18, s161_21, s161_24, s161_26, s161_27, s161_28, s161_29, s161_32, s161_35, s161_36, s161_37, s161_40, s161_43, s161_45, s161_46, s161_47, s161_48, s161_51, s161_52, s161_53, s161_56, s161_57, s161_61, s161_62, s161_65, s161_68, s161_69, s161_72, s161_74, s161_77, s161_78, s161_81, s161_83, s161_84, s161_85, s161_88, s161_89, s161_90, s161_93, s161_96, s161_97, s161_98, s161_101, s161_103, s161_104, s161_107, s161_110, s161_113, s161_114, s161_117, s161_118, s161_119, s161_122, List.cons_append, List.nil_append, if_true, if_false, true_and, and_true, and_self, eq_self, true_or, or_true, false_or, or_false, tIn, tLe, fLe, tLt, fLt, tEq, fEq, c130, c128, c160 hp sp lp (sh_tks op), c160 hq sq lq (sh_tks oq), np, nq]
          exact ⟨hR, fun _ _ => rfl⟩
        rw [if_neg (by rintro (h | h | h | h); exact np (Or.inl h); exact nq (Or.inl h); exact np (Or.inr h); exact nq (Or.inr h))]
        have wf : wfT (putL y (sv S q) (sv S p)) := putL_ok (arT_0 (by omega) (by omega)) (sh_wf oq (fun h => nq (Or.inl h))) (sh_wf op (fun h => np (Or.inl h)))
        have kp := sh_tks op
        simp (disch := omega) only [s161_0, s161_1, s161_4, s161_7, s161_8, s161_11, s161_14, s161_16, s161_17, s161_18, s161_21, s161_24, s161_26, s161_27, s161_28, s161_29, s161_32, s161_35, s161_36, s161_37, s161_40, s161_43, s161_45, s161_46, s161_47, s161_48, s161_51, s161_52, s161_53, s161_56, s161_57, s161_61, s161_62, s161_65, s161_68, s161_69, s161_72, s161_74, s161_77, s161_78, s161_81, s161_83, s161_84, s161_85, s161_88, s161_89, s161_90, s161_93, s161_96, s161_97, s161_98, s161_101, s161_103, s161_104, s161_107, s161_110, s161_113, s161_114, s161_117, s161_118, s161_119, s161_122, List.cons_append, List.nil_append, if_true, if_false, true_and, and_true, and_self, eq_self, true_or, or_true, false_or, or_false, tIn, tLe, fLe, tLt, fLt, tEq, fEq, c130, c128, c160 hp sp lp (sh_tks op), c160 hq sq lq (sh_tks oq), np, nq]
        refine c136 hp sp lp _ (fun σ1 t1 a1 a2 => ?_)
        simp (disch := omega) only [s161_0, s161_1, s161_4, s161_7, s161_8, s161_11, s161_14, s161_16, s161_17, s161_18, s161_21, s161_24, s161_26, s161_27, s161_28, s161_29, s161_32, s161_35, s161_36, s161_37, s161_40, s161_43, s161_45, s161_46, s161_47, s161_48, s161_51, s161_52, s161_53, s161_56, s161_57, s161_61, s161_62, s161_65, s161_68, s161_69, s161_72, s161_74, s161_77, s161_78, s161_81, s161_83, s161_84, s161_85, s161_88, s161_89, s161_90, s161_93, s161_96, s161_97, s161_98, s161_101, s161_103, s161_104, s161_107, s161_110, s161_113, s161_114, s161_117, s161_118, s161_119, s161_122, List.cons_append, List.nil_append, if_true, if_false, true_and, and_true, and_self, eq_self, true_or, or_true, false_or, or_false, tIn, tLe, fLe, tLt, fLt, tEq, fEq, isL]
        have R1 : RepM σ1 S := hR.frT ⟨a1, a2⟩
        have l0 := ln134
        have m0 : mdM (aup σ1 130 9 0) [] := ⟨aup_s, fun k c hc => by simp at hc⟩
        have f0 : FrK σ1 (aup σ1 130 9 0) := ⟨fun a h1 h2 => aup_f h2, fun j hj => aup_n2 hj⟩
        have fin : ∀ (σ2 : aSg) (l : List Int) (w : Int), mdM σ2 l → FrK σ1 σ2 → (l = putL y (sv S q) (sv S p) ∨ (120 < l.length ∧ 120 < (putL y (sv S q) (sv S p)).length)) → l.length ≤ 2200 → WP m161 113 [.inr (.inl 130), .inl (p : Int), .inl y, .inl (q : Int), .inl w] [] σ2 (fun v σ' => v = [.inl (layS S p (putL y (sv S q) (sv S p))).1] ∧ RepM σ' (layS S p (putL y (sv S q) (sv S p))).2 ∧ FrM σ σ') := by
          intro σ2 l w g1 g2 g3 g4
          simp (disch := omega) only [s161_0, s161_1, s161_4, s161_7, s161_8, s161_11, s161_14, s161_16, s161_17, s161_18, s161_21, s161_24, s161_26, s161_27, s161_28, s161_29, s161_32, s161_35, s161_36, s161_37, s161_40, s161_43, s161_45, s161_46, s161_47, s161_48, s161_51, s161_52, s161_53, s161_56, s161_57, s161_61, s161_62, s161_65, s161_68, s161_69, s161_72, s161_74, s161_77, s161_78, s161_81, s161_83, s161_84, s161_85, s161_88, s161_89, s161_90, s161_93, s161_96, s161_97, s161_98, s161_101, s161_103, s161_104, s161_107, s161_110, s161_113, s161_114, s161_117, s161_118, s161_119, s161_122, List.cons_append, List.nil_append, if_true, if_false, true_and, and_true, and_self, eq_self, true_or, or_true, false_or, or_false, tIn, tLe, fLe, tLt, fLt, tEq, fEq, isL]
          refine c139 g1 g4 _ (fun σ3 t3 b1 b2 => ?_)
          simp (disch := omega) only [s161_0, s161_1, s161_4, s161_7, s161_8, s161_11, s161_14, s161_16, s161_17, s161_18, s161_21, s161_24, s161_26, s161_27, s161_28, s161_29, s161_32, s161_35, s161_36, s161_37, s161_40, s161_43, s161_45, s161_46, s161_47, s161_48, s161_51, s161_52, s161_53, s161_56, s161_57, s161_61, s161_62, s161_65, s161_68, s161_69, s161_72, s161_74, s161_77, s161_78, s161_81, s161_83, s161_84, s161_85, s161_88, s161_89, s161_90, s161_93, s161_96, s161_97, s161_98, s161_101, s161_103, s161_104, s161_107, s161_110, s161_113, s161_114, s161_117, s161_118, s161_119, s161_122, List.cons_append, List.nil_append, if_true, if_false, true_and, and_true, and_self, eq_self, true_or, or_true, false_or, or_false, tIn, tLe, fLe, tLt, fLt, tEq, fEq, isL]
          rw [← lay_big g3]
          refine CA_use (lay_ok ((R1.frK g2).frT ⟨b1, b2⟩) hp t3 (fun hl => Or.inr ⟨?_, hl⟩)) (fun v σ' h => ?_)
          · rcases g3 with g3 | g3
            · rw [g3]; exact wf
            · omega
          · obtain ⟨rfl, h2, h3⟩ := h
            simp (disch := omega) only [s161_0, s161_1, s161_4, s161_7, s161_8, s161_11, s161_14, s161_16, s161_17, s161_18, s161_21, s161_24, s161_26, s161_27, s161_28, s161_29, s161_32, s161_35, s161_36, s161_37, s161_40, s161_43, s161_45, s161_46, s161_47, s161_48, s161_51, s161_52, s161_53, s161_56, s161_57, s161_61, s161_62, s161_65, s161_68, s161_69, s161_72, s161_74, s161_77, s161_78, s161_81, s161_83, s161_84, s161_85, s161_88, s161_89, s161_90, s161_93, s161_96, s161_97, s161_98, s161_101, s161_103, s161_104, s161_107, s161_110, s161_113, s161_114, s161_117, s161_118, s161_119, s161_122, List.cons_append, List.nil_append, if_true, if_false, true_and, and_true, and_self, eq_self, true_or, or_true, false_or, or_false, tIn, tLe, fLe, tLt, fLt, tEq, fEq]
            exact ⟨h2, fun a ha => (h3 a ha).trans ((b1 a (by omega) (by omega)).trans ((g2.1 a (by omega) (by omega)).trans (a1 a (by omega) (by omega))))⟩
        have lp2 : ∀ (n k : Nat) (σ2 : aSg), (sv S p).length - k = n → k ≤ (sv S p).length → mdM σ2 (putL y (sv S q) ((sv S p).take k)) → (putL y (sv S q) ((sv S p).take k)).length ≤ 240 → FrK σ1 σ2 → WP m161 59 [.inr (.inl 130), .inl (p : Int), .inl y, .inl (q : Int), .inl (k : Int)] [] σ2 (fun v σ' => v = [.inl (layS S p (putL y (sv S q) (sv S p))).1] ∧ RepM σ' (layS S p (putL y (sv S q) (sv S p))).2 ∧ FrM σ σ') := by
          intro n
          induction n with
          | zero =>
            intro k σ2 hn hk g1 g2 g3
            have e7 : σ2 130 7 = ((sv S p).length : Int) := by rw [g3.2 7 (by omega)]; exact t1.1
            rw [List.take_of_length_le (by omega)] at g1 g2
            rw [s161_59]
            simp (disch := omega) only [s161_0, s161_1, s161_4, s161_7, s161_8, s161_11, s161_14, s161_16, s161_17, s161_18, s161_21, s161_24, s161_26, s161_27, s161_28, s161_29, s161_32, s161_35, s161_36, s161_37, s161_40, s161_43, s161_45, s161_46, s161_47, s161_48, s161_51, s161_52, s161_53, s161_56, s161_57, s161_61, s161_62, s161_65, s161_68, s161_69, s161_72, s161_74, s161_77, s161_78, s161_81, s161_83, s161_84, s161_85, s161_88, s161_89, s161_90, s161_93, s161_96, s161_97, s161_98, s161_101, s161_103, s161_104, s161_107, s161_110, s161_114, s161_117, s161_118, s161_119, s161_122, List.cons_append, List.nil_append, if_true, if_false, true_and, and_true, and_self, eq_self, true_or, or_true, false_or, or_false, tIn, tLe, fLe, tLt, fLt, tEq, fEq, isL, e7]
            exact fin σ2 _ _ g1 g3 (Or.inl rfl) (by omega)
          | succ n ih =>
            intro k σ2 hn hk g1 g2 g3
            have hkl : k < (sv S p).length := by omega
            have e7 : σ2 130 7 = ((sv S p).length : Int) := by rw [g3.2 7 (by omega)]; exact t1.1
            have e9 := g1.1
            have st : putL y (sv S q) ((sv S p).take (k + 1)) = putL y (sv S q) ((sv S p).take k) ++ (if (sv S p)[k] = y then sv S q else [(sv S p)[k]]) := by
              rw [List.take_succ, List.getElem?_eq_getElem hkl, putL_app]
              simp only [Option.toList_some, putL]
              split <;> simp
            have e134 : σ2 134 k = tau (sv S p)[k] := by rw [g3.1 134 (by omega) (by omega)]; exact t1.2 k _ (List.getElem?_eq_getElem hkl)
            have tn := tau_nm (kp _ (List.getElem_mem hkl)) hy
            rw [s161_59]
            by_cases gb : 120 < (putL y (sv S q) ((sv S p).take k)).length
            · simp (disch := omega) only [s161_0, s161_1, s161_4, s161_7, s161_8, s161_11, s161_14, s161_16, s161_17, s161_18, s161_21, s161_24, s161_26, s161_27, s161_28, s161_29, s161_32, s161_35, s161_36, s161_37, s161_40, s161_43, s161_45, s161_46, s161_47, s161_48, s161_51, s161_52, s161_53, s161_56, s161_57, s161_61, s161_62, s161_65, s161_68, s161_69, s161_72, s161_74, s161_77, s161_78, s161_81, s161_83, s161_84, s161_85, s161_88, s161_89, s161_90, s161_93, s161_96, s161_97, s161_98, s161_101, s161_103, s161_104, s161_107, s161_110, s161_114, s161_117, s161_118, s161_119, s161_122, List.cons_append, List.nil_append, if_true, if_false, true_and, and_true, and_self, eq_self, true_or, or_true, false_or, or_false, tIn, tLe, fLe, tLt, fLt, tEq, fEq, isL, e7, e9]
              refine fin σ2 _ _ g1 g3 (Or.inr ⟨gb, ?_⟩) (by omega)
              have : putL y (sv S q) (sv S p) = putL y (sv S q) ((sv S p).take k) ++ putL y (sv S q) ((sv S p).drop k) := by rw [← putL_app, List.take_append_drop]
              rw [this, List.length_append]
              omega
            · have ih' := fun σ3 => ih (k + 1) σ3 (by omega) (by omega)
              rw [st] at ih'
              by_cases g : (sv S p)[k] = y
              · rw [if_pos g] at ih'
                have gt := tn.mpr g
                simp (disch := omega) only [s161_0, s161_1, s161_4, s161_7, s161_8, s161_11, s161_14, s161_16, s161_17, s161_18, s161_21, s161_24, s161_26, s161_27, s161_28, s161_29, s161_32, s161_35, s161_36, s161_37, s161_40, s161_43, s161_45, s161_46, s161_47, s161_48, s161_51, s161_52, s161_53, s161_56, s161_57, s161_61, s161_62, s161_65, s161_68, s161_69, s161_72, s161_74, s161_77, s161_78, s161_81, s161_83, s161_84, s161_85, s161_88, s161_89, s161_90, s161_93, s161_96, s161_97, s161_98, s161_101, s161_103, s161_104, s161_107, s161_110, s161_114, s161_117, s161_118, s161_119, s161_122, List.cons_append, List.nil_append, if_true, if_false, true_and, and_true, and_self, eq_self, true_or, or_true, false_or, or_false, tIn, tLe, fLe, tLt, fLt, tEq, fEq, isL, e7, e9, kd134, ln134, Int.toNat_natCast, e134]
                refine copyShelf_ok hq ((R1.frK g3).sh hq) lq g1 (by omega) _ (fun σ3 b1 b2 => ?_)
                simp (disch := omega) only [s161_0, s161_1, s161_4, s161_7, s161_8, s161_11, s161_14, s161_16, s161_17, s161_18, s161_21, s161_24, s161_26, s161_27, s161_28, s161_29, s161_32, s161_35, s161_36, s161_37, s161_40, s161_43, s161_45, s161_46, s161_47, s161_48, s161_51, s161_52, s161_53, s161_56, s161_57, s161_61, s161_62, s161_65, s161_68, s161_69, s161_72, s161_74, s161_77, s161_78, s161_81, s161_83, s161_84, s161_85, s161_88, s161_89, s161_90, s161_93, s161_96, s161_97, s161_98, s161_101, s161_103, s161_104, s161_107, s161_110, s161_114, s161_117, s161_118, s161_119, s161_122, List.cons_append, List.nil_append, if_true, if_false, true_and, and_true, and_self, eq_self, true_or, or_true, false_or, or_false, tIn, tLe, fLe, tLt, fLt, tEq, fEq, isL]
                exact ih' σ3 b1 (by rw [List.length_append]; omega) (g3.trans b2)
              · rw [if_neg g] at ih'
                have gt : ¬ tau (sv S p)[k] = y := fun h => g (tn.mp h)
                simp (disch := omega) only [s161_0, s161_1, s161_4, s161_7, s161_8, s161_11, s161_14, s161_16, s161_17, s161_18, s161_21, s161_24, s161_26, s161_27, s161_28, s161_29, s161_32, s161_35, s161_36, s161_37, s161_40, s161_43, s161_45, s161_46, s161_47, s161_48, s161_51, s161_52, s161_53, s161_56, s161_57, s161_61, s161_62, s161_65, s161_68, s161_69, s161_72, s161_74, s161_77, s161_78, s161_81, s161_83, s161_84, s161_85, s161_88, s161_89, s161_90, s161_93, s161_96, s161_97, s161_98, s161_101, s161_103, s161_104, s161_107, s161_110, s161_114, s161_117, s161_118, s161_119, s161_122, List.cons_append, List.nil_append, if_true, if_false, true_and, and_true, and_self, eq_self, true_or, or_true, false_or, or_false, tIn, tLe, fLe, tLt, fLt, tEq, fEq, isL, e7, e9, kd134, ln134, Int.toNat_natCast, e134]
                refine make_ok g1 rfl (by omega) _ (fun σ3 b1 b2 => ?_)
                simp (disch := omega) only [s161_0, s161_1, s161_4, s161_7, s161_8, s161_11, s161_14, s161_16, s161_17, s161_18, s161_21, s161_24, s161_26, s161_27, s161_28, s161_29, s161_32, s161_35, s161_36, s161_37, s161_40, s161_43, s161_45, s161_46, s161_47, s161_48, s161_51, s161_52, s161_53, s161_56, s161_57, s161_61, s161_62, s161_65, s161_68, s161_69, s161_72, s161_74, s161_77, s161_78, s161_81, s161_83, s161_84, s161_85, s161_88, s161_89, s161_90, s161_93, s161_96, s161_97, s161_98, s161_101, s161_103, s161_104, s161_107, s161_110, s161_114, s161_117, s161_118, s161_119, s161_122, List.cons_append, List.nil_append, if_true, if_false, true_and, and_true, and_self, eq_self, true_or, or_true, false_or, or_false, tIn, tLe, fLe, tLt, fLt, tEq, fEq, isL]
                exact ih' σ3 b1 (by rw [List.length_append]; simp; omega) (g3.trans b2)
        exact lp2 _ 0 _ rfl (by omega) (by simpa [putL] using m0) (by simp [putL]) f0
      · rw [if_pos hy]
        simp (disch := omega) only [s161_0, s161_1, s161_4, s161_7, s161_8, s161_11, s161_14, s161_16, s161_17, s161_18, s161_21, s161_24, s161_26, s161_27, s161_28, s161_29, s161_32, s161_35, s161_36, s161_37, s161_40, s161_43, s161_45, s161_46, s161_47, s161_48, s161_51, s161_52, s161_53, s161_56, s161_57, s161_61, s161_62, s161_65, s161_68, s161_69, s161_72, s161_74, s161_77, s161_78, s161_81, s161_83, s161_84, s161_85, s161_88, s161_89, s161_90, s161_93, s161_96, s161_97, s161_98, s161_101, s161_103, s161_104, s161_107, s161_110, s161_113, s161_114, s161_117, s161_118, s161_119, s161_122, List.cons_append, List.nil_append, if_true, if_false, true_and, and_true, and_self, eq_self, true_or, or_true, false_or, or_false, tIn, tLe, fLe, tLt, fLt, tEq, fEq, c130, c128, hy]
        exact ⟨hR, fun _ _ => rfl⟩
    · rw [if_pos (fun q => hz q.2)]
      have gz : ¬ (0 ≤ z ∧ z ≤ 3) := by omega
      simp (disch := omega) only [s161_0, s161_1, s161_4, s161_7, s161_8, s161_11, s161_14, s161_16, s161_17, s161_18, s161_21, s161_24, s161_26, s161_27, s161_28, s161_29, s161_32, s161_35, s161_36, s161_37, s161_40, s161_43, s161_45, s161_46, s161_47, s161_48, s161_51, s161_52, s161_53, s161_56, s161_57, s161_61, s161_62, s161_65, s161_68, s161_69, s161_72, s161_74, s161_77, s161_78, s161_81, s161_83, s161_84, s161_85, s161_88, s161_89, s161_90, s161_93, s161_96, s161_97, s161_98, s161_101, s161_103, s161_104, s161_107, s161_110, s161_113, s161_114, s161_117, s161_118, s161_119, s161_122, List.cons_append, List.nil_append, if_true, if_false, true_and, and_true, and_self, eq_self, true_or, or_true, false_or, or_false, tIn, tLe, fLe, tLt, fLt, tEq, fEq, c130, gz]
      exact ⟨hR, fun _ _ => rfl⟩
  · rw [if_pos (fun q => hx q.1)]
    have gx : ¬ (0 ≤ x ∧ x ≤ 3) := by omega
    simp (disch := omega) only [s161_0, s161_1, s161_4, s161_7, s161_8, s161_11, s161_14, s161_16, s161_17, s161_18, s161_21, s161_24, s161_26, s161_27, s161_28, s161_29, s161_32, s161_35, s161_36, s161_37, s161_40, s161_43, s161_45, s161_46, s161_47, s161_48, s161_51, s161_52, s161_53, s161_56, s161_57, s161_61, s161_62, s161_65, s161_68, s161_69, s161_72, s161_74, s161_77, s161_78, s161_81, s161_83, s161_84, s161_85, s161_88, s161_89, s161_90, s161_93, s161_96, s161_97, s161_98, s161_101, s161_103, s161_104, s161_107, s161_110, s161_113, s161_114, s161_117, s161_118, s161_119, s161_122, List.cons_append, List.nil_append, if_true, if_false, true_and, and_true, and_self, eq_self, true_or, or_true, false_or, or_false, tIn, tLe, fLe, tLt, fLt, tEq, fEq, c130, gx]
    exact ⟨hR, fun _ _ => rfl⟩
end PK
