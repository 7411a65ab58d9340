/-! things: the reference looks for a step -/
def ro : Lt → Nat
  | .leaf j => j
  | .branch j _ _ => j
section TRH
variable {σ σ0 σ' : aSg} {K : List AV → aSg → Prop} {x y z c : Int} {T W st F I L R C s : List Int} {r q t i p h m w N : Nat} {G G' : Gr} {ρ : Nat → Nat} {v : Int × Nat × Nat} {X : Gr}
abbrev FrE (σ σ' : aSg) : Prop := (∀ a, a ≠ 136 → a ≠ 143 → a ≠ 130 → σ' a = σ a) ∧ ∀ j, j ≠ 11 → σ' 130 j = σ 130 j
theorem FrE_tr {σ1 σ2 : aSg} (h : FrE σ σ1) (h' : FrE σ1 σ2) : FrE σ σ2 := ⟨fun a h1 h2 h3 => (h'.1 a h1 h2 h3).trans (h.1 a h1 h2 h3), fun j h1 => (h'.2 j h1).trans (h.2 j h1)⟩
theorem FrE_s (h : FrA 136 11 σ σ') : FrE σ σ' := ⟨fun a h1 _ h3 => h.1 a h1 h3, h.2⟩
theorem RGr_E (hR : RGr σ G N) (h : FrE σ σ') : RGr σ' G N := RGr_k hR (h.1 140 (by omega) (by omega) (by omega)) (h.1 141 (by omega) (by omega) (by omega)) (h.1 142 (by omega) (by omega) (by omega)) (h.2 23 (by omega))
theorem Ul_ro {T : Lt} (h : Ul G i T) : Rl G i (ro T) := by
  cases T with
  | leaf j => exact h.1
  | branch j a b => exact h.1
theorem fiL_app : ∀ l m : List Nt, fiL (l ++ m) = fiL l ++ fiL m := by
  intro l m
  induction l with
  | nil => rfl
  | cons e l ih => simp only [List.cons_append, fiL, ih, List.append_assoc]
theorem wr175 (hR : RGr σ G N) (hW : WG G ρ) (h0 : 0 < G.length) (hF : (fG G).length ≤ 300) (Q : List AV → aSg → Prop) (hq : ∀ σ', FrE σ σ' → Q [.inl (if (scn (fG G) 0 0).isSome = true then 1 else 0)] σ') : CA m175 [.inr (.inl 130), .inl (pI N 0 : Int)] σ Q := by
  rw [e175]
  have l0 := ln140
  have l1 := ln141
  have l2 := ln142
  have l3 := ln143
  obtain ⟨r1, r2, r3, r4⟩ := id hR
  have U0 := ufd_ok hW h0
  have hI : (idG G).length = (fG G).length := by simp [fG]
  simp (disch := omega) only [s175_0, s175_1, s175_2, s175_5, s175_6, s175_7, s175_11, s175_14, s175_17, s175_18, s175_19, s175_22, s175_25, s175_26, s175_27, s175_28, s175_29, s175_32, s175_33, s175_34, s175_37, s175_38, s175_41, s175_42, s175_43, s175_44, s175_47, s175_48, s175_49, s175_52, s175_53, s175_54, s175_57, s175_58, s175_61, s175_62, s175_65, s175_66, s175_67, s175_70, s175_71, s175_74, s175_75, s175_76, s175_77, s175_79, s175_81, s175_82, s175_85, s175_86, s175_87, s175_90, s175_91, s175_94, s175_96, s175_97, s175_98, s175_101, s175_104, s175_107, s175_110, s175_111, List.cons_append, List.nil_append, if_true, if_false, true_and, and_true, and_self, eq_self, true_or, or_true, false_or, or_false, tIn, tLe, fLe, tLt, fLt, tEq, fEq, isL]
  have S0' : stM (aup σ 130 11 0) [] := ⟨by rw [aup_s]; rfl, fun k c hc => by simp at hc⟩
  have F0 : FrA 136 11 σ (aup σ 130 11 0) := ⟨fun b _ h2 => by rw [aup_f h2], fun i hi => by rw [aup_n2 hi]⟩
  refine zpush S0' (by simp) _ (fun σ1 w1 f1 => ?_)
  simp (disch := omega) only [s175_0, s175_1, s175_2, s175_5, s175_6, s175_7, s175_11, s175_14, s175_17, s175_18, s175_19, s175_22, s175_25, s175_26, s175_27, s175_28, s175_29, s175_32, s175_33, s175_34, s175_37, s175_38, s175_41, s175_42, s175_43, s175_44, s175_47, s175_48, s175_49, s175_52, s175_53, s175_54, s175_57, s175_58, s175_61, s175_62, s175_65, s175_66, s175_67, s175_70, s175_71, s175_74, s175_75, s175_76, s175_77, s175_79, s175_81, s175_82, s175_85, s175_86, s175_87, s175_90, s175_91, s175_94, s175_96, s175_97, s175_98, s175_101, s175_104, s175_107, s175_110, s175_111, List.cons_append, List.nil_append, if_true, if_false, true_and, and_true, and_self, eq_self, true_or, or_true, false_or, or_false, tIn, tLe, fLe, tLt, fLt, tEq, fEq, isL]
  have lp : ∀ (m q : Nat) (es : List Nt) (σ2 : aSg) (l2 l3 l4 : AV), q + m = (idG G).length → (idG G).drop q = fiL es → (∀ e ∈ es, e.1 < G.length ∧ Ul G e.1 e.2) → scn ((fG G).drop q) 0 q = scn (fG G) 0 0 → stM σ2 (es.map (fun e => (pI N e.1 : Int))) → FrE σ σ2 → WP m175 10 [.inr (.inl 130), .inl (pI N 0 : Int), l2, l3, l4] [] σ2 Q := by
    intro m
    induction m using Nat.strongRecOn with
    | ind m ih =>
      intro q es σ2 l2 l3 l4 hm1 hd1 hv1 hs1 hst hFr
      cases es with
      | nil =>
        have hq' : q = (idG G).length := by
          have := congrArg List.length hd1
          simp [fiL] at this
          omega
        have d0 : σ2 130 11 = 0 := hst.1
        have es : scn (fG G) 0 0 = none := by rw [← hs1, List.drop_eq_nil_of_le (by omega)]; rfl
        rw [s175_10]
        simp (disch := omega) only [s175_0, s175_1, s175_2, s175_5, s175_6, s175_7, s175_11, s175_14, s175_17, s175_18, s175_19, s175_22, s175_25, s175_26, s175_27, s175_28, s175_29, s175_32, s175_33, s175_34, s175_37, s175_38, s175_41, s175_42, s175_43, s175_44, s175_47, s175_48, s175_49, s175_52, s175_53, s175_54, s175_57, s175_58, s175_61, s175_62, s175_65, s175_66, s175_67, s175_70, s175_71, s175_74, s175_75, s175_76, s175_77, s175_79, s175_81, s175_82, s175_85, s175_86, s175_87, s175_90, s175_91, s175_94, s175_96, s175_97, s175_98, s175_101, s175_104, s175_107, s175_110, s175_111, List.cons_append, List.nil_append, if_true, if_false, true_and, and_true, and_self, eq_self, true_or, or_true, false_or, or_false, tIn, tLe, fLe, tLt, fLt, tEq, fEq, isL, d0]
        rw [es] at hq
        exact hq σ2 hFr
      | cons e es =>
        obtain ⟨n, U⟩ := e
        obtain ⟨hn, hU⟩ := hv1 _ (List.mem_cons_self ..)
        have hv2 : ∀ e ∈ es, e.1 < G.length ∧ Ul G e.1 e.2 := fun u hu => hv1 u (List.mem_cons_of_mem _ hu)
        have lenes : ∀ l : List Nt, l.length ≤ (fiL l).length := by
          intro l
          induction l with
          | nil => simp
          | cons e l ihl => have := fi_pos e.2; simp only [fiL, List.length_cons, List.length_append]; omega
        have hel : (fiL ((n, U) :: es)).length ≤ 300 := by
          have := congrArg List.length hd1
          simp only [List.length_drop] at this
          omega
        have hel2 := lenes ((n, U) :: es)
        simp only [List.length_cons] at hel2
        have d0 : σ2 130 11 = (es.length : Int) + 1 := by have := hst.1; rw [this]; simp
        rw [s175_10]
        simp (disch := omega) only [s175_0, s175_1, s175_2, s175_5, s175_6, s175_7, s175_11, s175_14, s175_17, s175_18, s175_19, s175_22, s175_25, s175_26, s175_27, s175_28, s175_29, s175_32, s175_33, s175_34, s175_37, s175_38, s175_41, s175_42, s175_43, s175_44, s175_47, s175_48, s175_49, s175_52, s175_53, s175_54, s175_57, s175_58, s175_61, s175_62, s175_65, s175_66, s175_67, s175_70, s175_71, s175_74, s175_75, s175_76, s175_77, s175_79, s175_81, s175_82, s175_85, s175_86, s175_87, s175_90, s175_91, s175_94, s175_96, s175_97, s175_98, s175_101, s175_104, s175_107, s175_110, s175_111, List.cons_append, List.nil_append, if_true, if_false, true_and, and_true, and_self, eq_self, true_or, or_true, false_or, or_false, tIn, tLe, fLe, tLt, fLt, tEq, fEq, isL, d0]
        refine zpop (st := es.map (fun e => (pI N e.1 : Int))) (v := (pI N n : Int)) (by simpa using hst) (by simp; omega) _ (fun σ3 w3 f3 => ?_)
        have F3 := FrE_tr hFr (FrE_s f3)
        have R3 : RGr σ3 G N := RGr_E hR F3
        simp (disch := omega) only [s175_0, s175_1, s175_2, s175_5, s175_6, s175_7, s175_11, s175_14, s175_17, s175_18, s175_19, s175_22, s175_25, s175_26, s175_27, s175_29, s175_32, s175_33, s175_34, s175_37, s175_38, s175_41, s175_42, s175_43, s175_44, s175_47, s175_48, s175_49, s175_52, s175_53, s175_54, s175_57, s175_58, s175_61, s175_62, s175_65, s175_66, s175_67, s175_70, s175_71, s175_74, s175_75, s175_76, s175_77, s175_79, s175_81, s175_82, s175_85, s175_86, s175_87, s175_90, s175_91, s175_94, s175_96, s175_97, s175_98, s175_101, s175_104, s175_107, s175_110, s175_111, List.cons_append, List.nil_append, if_true, if_false, true_and, and_true, and_self, eq_self, true_or, or_true, false_or, or_false, tIn, tLe, fLe, tLt, fLt, tEq, fEq, isL, c170 R3 hW hn (Ul_ro hU)]
        -- down the left
        have sp : ∀ (C : Lt) (cn : Nat) (js : List Nat) (args : List Nt) (σ4 : aSg), Ul G cn C → cn < G.length → (idG G).drop q = js ++ (fi C ++ (fiL args ++ fiL es)) → (∀ j ∈ js, j < G.length ∧ cl G j = 1) → (∀ (a j : Nat), js[a]? = some j → σ4 143 a = (pI N j : Int)) → args.map (fun e => e.1) = (js.map (rt G)).reverse → (∀ e ∈ args, e.1 < G.length ∧ Ul G e.1 e.2) → stM σ4 (es.map (fun e => (pI N e.1 : Int))) → FrE σ σ4 → ∀ (l4 : AV), WP m175 28 [.inr (.inl 130), .inl (pI N 0 : Int), .inl (pI N (ro C) : Int), .inl (js.length : Int), l4] [] σ4 Q := by
          intro C
          induction C with
          | leaf j =>
            intro cn js args σ4 hC hcn hd2 hjs hspn hargs hva hst4 F4 l4
            have R4 : RGr σ4 G N := RGr_E hR F4
            obtain ⟨g1, g2, g3⟩ := Rl_in hW hcn hC.1
            have hj1 := hC.2
            obtain ⟨b1, b2, b3⟩ := RG_at R4 g1
            have hpj := pI_lt r2 g1
            have tk : tok (cl G j) ∧ arT (cl G j) = 0 := by
              rcases hW j g1 with z | z | z
              · exact absurd z.1 hj1
              · exact absurd z.1 g3
              · exact z
            obtain ⟨t1, t2⟩ := cT_t tk.1
            rw [t1] at b1
            have tz : ¬ tau (cl G j) = 0 := fun z => hj1 ((tau_0 tk.1).mp z)
            have hjl : js.length + 1 ≤ 300 := by
              have := congrArg List.length hd2
              simp only [List.length_drop, List.length_append, fi, List.length_cons, List.length_nil] at this
              omega
            have iat : ∀ a v, (js ++ (j :: (fiL args ++ fiL es)))[a]? = some v → (idG G)[q + a]? = some v := by
              intro a v hv
              have : ((idG G).drop q)[a]? = some v := by rw [hd2]; simpa [fi] using hv
              rwa [List.getElem?_drop] at this
            have fat : ∀ a v, (idG G)[q + a]? = some v → (fG G)[q + a]? = some (cl G v) := by
              intro a v hv
              unfold fG
              rw [List.getElem?_map, hv]; rfl
            have hputs : ∀ a, a < js.length → (fG G)[q + a]? = some 1 := by
              intro a ha
              have e1 := fat a _ (iat a js[a] (by rw [List.getElem?_append_left ha, List.getElem?_eq_getElem ha]))
              rw [(hjs _ (List.getElem_mem ha)).2] at e1
              exact e1
            have hhead : (fG G)[q + js.length]? = some (cl G j) := fat _ _ (iat _ j (by rw [List.getElem?_append_right (Nat.le_refl _)]; simp))
            have hs2 := scn_puts js.length q 0 hputs
            obtain ⟨hlt, hev⟩ := List.getElem?_eq_some_iff.mp hhead
            rw [hs1, List.drop_eq_getElem_cons hlt, hev] at hs2
            simp only [scn, if_neg hj1, Nat.zero_add] at hs2
            have wb := wnt_in (c := cl G j)
            have ero : ro (.leaf j) = j := rfl
            rw [ero]
            rw [s175_28]
            by_cases g5 : 0 < wnt (cl G j) ∧ wnt (cl G j) ≤ (js.length : Int)
            · rw [if_pos g5] at hs2
              have e9 : w9 (cl G j) = wnt (cl G j) := by unfold w9; rw [if_neg (by omega)]
              simp (disch := omega) only [s175_0, s175_1, s175_2, s175_5, s175_6, s175_7, s175_11, s175_14, s175_17, s175_18, s175_19, s175_22, s175_25, s175_26, s175_27, s175_29, s175_32, s175_33, s175_34, s175_37, s175_38, s175_41, s175_42, s175_43, s175_44, s175_47, s175_48, s175_49, s175_52, s175_53, s175_54, s175_57, s175_58, s175_61, s175_62, s175_65, s175_66, s175_67, s175_70, s175_71, s175_74, s175_75, s175_76, s175_77, s175_81, s175_82, s175_85, s175_86, s175_87, s175_90, s175_91, s175_94, s175_96, s175_97, s175_98, s175_101, s175_104, s175_107, s175_110, s175_111, List.cons_append, List.nil_append, if_true, if_false, true_and, and_true, and_self, eq_self, true_or, or_true, false_or, or_false, tIn, tLe, fLe, tLt, fLt, tEq, fEq, isL, kd140, ln140, Int.toNat_natCast, b1, c165 tk.1, e9]
              have es : (scn (fG G) 0 0).isSome = true := by rw [hs2]; rfl
              rw [if_pos es] at hq
              exact hq σ4 F4
            · rw [if_neg g5] at hs2
              have e9 : (js.length : Int) < w9 (cl G j) := by unfold w9; split <;> omega
              simp (disch := omega) only [s175_0, s175_1, s175_2, s175_5, s175_6, s175_7, s175_11, s175_14, s175_17, s175_18, s175_19, s175_22, s175_25, s175_26, s175_27, s175_29, s175_32, s175_33, s175_34, s175_37, s175_38, s175_41, s175_42, s175_43, s175_44, s175_47, s175_48, s175_49, s175_52, s175_53, s175_54, s175_57, s175_58, s175_61, s175_62, s175_65, s175_66, s175_67, s175_70, s175_71, s175_74, s175_75, s175_76, s175_77, s175_81, s175_82, s175_85, s175_86, s175_87, s175_90, s175_91, s175_94, s175_96, s175_97, s175_98, s175_101, s175_104, s175_107, s175_110, s175_111, List.cons_append, List.nil_append, if_true, if_false, true_and, and_true, and_self, eq_self, true_or, or_true, false_or, or_false, tIn, tLe, fLe, tLt, fLt, tEq, fEq, isL, kd140, ln140, Int.toNat_natCast, b1, c165 tk.1]
              have hal : args.length = js.length := by have := congrArg List.length hargs; simpa using this
              have pl : ∀ (m2 a : Nat) (σ5 : aSg), a + m2 = js.length → stM σ5 ((args.drop (js.length - a) ++ es).map (fun e => (pI N e.1 : Int))) → FrA 136 11 σ4 σ5 → WP m175 79 [.inr (.inl 130), .inl (pI N 0 : Int), .inl (pI N j : Int), .inl (js.length : Int), .inl (a : Int)] [] σ5 Q := by
                intro m2
                induction m2 with
                | zero =>
                  intro a σ5 ha i5 f5
                  rw [s175_79]
                  simp (disch := omega) only [s175_0, s175_1, s175_2, s175_5, s175_6, s175_7, s175_11, s175_14, s175_17, s175_18, s175_19, s175_22, s175_25, s175_26, s175_27, s175_28, s175_29, s175_32, s175_33, s175_34, s175_37, s175_38, s175_41, s175_42, s175_43, s175_44, s175_47, s175_48, s175_49, s175_52, s175_53, s175_54, s175_57, s175_58, s175_61, s175_62, s175_65, s175_66, s175_67, s175_70, s175_71, s175_74, s175_75, s175_76, s175_77, s175_81, s175_82, s175_85, s175_86, s175_87, s175_90, s175_91, s175_94, s175_96, s175_97, s175_98, s175_101, s175_104, s175_107, s175_110, s175_111, List.cons_append, List.nil_append, if_true, if_false, true_and, and_true, and_self, eq_self, true_or, or_true, false_or, or_false, tIn, tLe, fLe, tLt, fLt, tEq, fEq, isL]
                  rw [show js.length - a = 0 by omega, List.drop_zero] at i5
                  refine ih (m - (js.length + 1)) (by omega) (q + (js.length + 1)) (args ++ es) σ5 _ _ _ (by have := congrArg List.length hd2; simp only [List.length_drop, List.length_append, fi, List.length_cons, List.length_nil] at this; omega) ?_ (fun e he => ?_) ?_ i5 (FrE_tr F4 (FrE_s f5))
                  · rw [← List.drop_drop, hd2]
                    have e1 : js ++ (fi (.leaf j) ++ (fiL args ++ fiL es)) = (js ++ [j]) ++ (fiL args ++ fiL es) := by simp [fi]
                    rw [e1, List.drop_left' (by simp), fiL_app]
                  · rcases List.mem_append.mp he with he | he
                    · exact hva e he
                    · exact hv2 e he
                  · rw [hs2]
                    rfl
                | succ m2 ih2 =>
                  intro a σ5 ha i5 f5
                  have hal2 : a < js.length := by omega
                  have y1 : σ5 143 a = (pI N js[a] : Int) := by rw [f5.1 143 (by omega) (by omega)]; exact hspn a _ (List.getElem?_eq_getElem hal2)
                  have R5 : RGr σ5 G N := RGr_E R4 (FrE_s f5)
                  obtain ⟨z1, z2⟩ := hjs _ (List.getElem_mem hal2)
                  have y2 := ((RG_at R5 z1).2.1 z2).2
                  have pz := pI_lt r2 z1
                  rw [s175_79]
                  simp (disch := omega) only [s175_0, s175_1, s175_2, s175_5, s175_6, s175_7, s175_11, s175_14, s175_17, s175_18, s175_19, s175_22, s175_25, s175_26, s175_27, s175_29, s175_32, s175_33, s175_34, s175_37, s175_38, s175_41, s175_42, s175_43, s175_44, s175_47, s175_48, s175_49, s175_52, s175_53, s175_54, s175_57, s175_58, s175_61, s175_62, s175_65, s175_66, s175_67, s175_70, s175_71, s175_74, s175_75, s175_76, s175_77, s175_81, s175_82, s175_85, s175_86, s175_87, s175_90, s175_91, s175_94, s175_96, s175_97, s175_98, s175_101, s175_104, s175_107, s175_110, s175_111, List.cons_append, List.nil_append, if_true, if_false, true_and, and_true, and_self, eq_self, true_or, or_true, false_or, or_false, tIn, tLe, fLe, tLt, fLt, tEq, fEq, isL, kd142, ln142, kd143, ln143, Int.toNat_natCast, y1, y2]
                  refine zpush i5 (by simp; omega) _ (fun σ6 i6 f6 => ?_)
                  simp (disch := omega) only [s175_0, s175_1, s175_2, s175_5, s175_6, s175_7, s175_11, s175_14, s175_17, s175_18, s175_19, s175_22, s175_25, s175_26, s175_27, s175_29, s175_32, s175_33, s175_34, s175_37, s175_38, s175_41, s175_42, s175_43, s175_44, s175_47, s175_48, s175_49, s175_52, s175_53, s175_54, s175_57, s175_58, s175_61, s175_62, s175_65, s175_66, s175_67, s175_70, s175_71, s175_74, s175_75, s175_76, s175_77, s175_81, s175_82, s175_85, s175_86, s175_87, s175_90, s175_91, s175_94, s175_96, s175_97, s175_98, s175_101, s175_104, s175_107, s175_110, s175_111, List.cons_append, List.nil_append, if_true, if_false, true_and, and_true, and_self, eq_self, true_or, or_true, false_or, or_false, tIn, tLe, fLe, tLt, fLt, tEq, fEq, isL]
                  refine ih2 (a + 1) σ6 (by omega) ?_ ⟨fun b q1 q2 => (f6.1 b q1 q2).trans (f5.1 b q1 q2), fun j q => (f6.2 j q).trans (f5.2 j q)⟩
                  have hx : js.length - (a + 1) < args.length := by omega
                  have ex : args.drop (js.length - (a + 1)) = args[js.length - (a + 1)] :: args.drop (js.length - a) := by
                    rw [List.drop_eq_getElem_cons hx, show js.length - (a + 1) + 1 = js.length - a by omega]
                  have ey : (args[js.length - (a + 1)]).1 = rt G js[a] := by
                    have e1 : (args.map (fun e => e.1))[js.length - (a + 1)]? = some (args[js.length - (a + 1)]).1 := by rw [List.getElem?_map, List.getElem?_eq_getElem hx]; rfl
                    rw [hargs, List.getElem?_reverse (by simp; omega)] at e1
                    simp only [List.length_map] at e1
                    rw [show js.length - 1 - (js.length - (a + 1)) = a by omega, List.getElem?_map, List.getElem?_eq_getElem hal2] at e1
                    simp at e1
                    exact e1.symm
                  rw [ex]
                  simpa [ey] using i6
              exact pl js.length 0 σ4 (by omega) (by rw [Nat.sub_zero, List.drop_eq_nil_of_le (by omega)]; simpa using hst4) ⟨fun _ _ _ => rfl, fun _ _ => rfl⟩
          | branch j a b iha ihb =>
            intro cn js args σ4 hC hcn hd2 hjs hspn hargs hva hst4 F4 l4
            have R4 : RGr σ4 G N := RGr_E hR F4
            obtain ⟨g1, g2, g3⟩ := Rl_in hW hcn hC.1
            have hj1 := hC.2.1
            obtain ⟨b1, b2, b3⟩ := RG_at R4 g1
            have b4 := (b2 hj1).1
            rw [hj1, cT_1] at b1
            have hpj := pI_lt r2 g1
            obtain ⟨p1, p2, p3, p4⟩ := put_in hW g1 hj1
            have hjl : js.length + 1 ≤ 300 := by
              have := congrArg List.length hd2
              simp only [List.length_drop, List.length_append, fi, List.length_cons] at this
              omega
            have Fs : FrE σ4 (aup σ4 143 js.length (pI N j : Int)) := ⟨fun a q1 q2 q3 => aup_f q2, fun j q => by rw [aup_n1 (by omega)]⟩
            have R5 : RGr (aup σ4 143 js.length (pI N j : Int)) G N := RGr_E R4 Fs
            have b5 : (aup σ4 143 js.length (pI N j : Int)) 141 (pI N j) = (pI N (lf G j) : Int) := by rw [aup_n1 (by omega)]; exact b4
            have ero : ro (.branch j a b) = j := rfl
            rw [ero]
            rw [s175_28]
            simp (disch := omega) only [s175_0, s175_1, s175_2, s175_5, s175_6, s175_7, s175_11, s175_14, s175_17, s175_18, s175_19, s175_22, s175_25, s175_26, s175_27, s175_29, s175_32, s175_33, s175_34, s175_37, s175_38, s175_41, s175_42, s175_43, s175_44, s175_47, s175_48, s175_49, s175_52, s175_53, s175_54, s175_57, s175_58, s175_61, s175_62, s175_65, s175_66, s175_67, s175_70, s175_71, s175_74, s175_75, s175_76, s175_77, s175_79, s175_81, s175_82, s175_85, s175_86, s175_87, s175_90, s175_91, s175_94, s175_96, s175_97, s175_98, s175_101, s175_104, s175_107, s175_110, s175_111, List.cons_append, List.nil_append, if_true, if_false, true_and, and_true, and_self, eq_self, true_or, or_true, false_or, or_false, tIn, tLe, fLe, tLt, fLt, tEq, fEq, isL, kd140, ln140, kd141, ln141, kd143, ln143, Int.toNat_natCast, b1, b5, c170 R5 hW p1 (Ul_ro hC.2.2.1)]
            have := iha (lf G j) (js ++ [j]) ((rt G j, b) :: args) (aup σ4 143 js.length (pI N j : Int)) hC.2.2.1 p1 (by rw [hd2]; simp [fi, fiL]) (fun v hv => ?_) (fun a v hv => ?_) (by simp [hargs]) (fun e he => ?_) ?_ (FrE_tr F4 Fs) l4
            · simpa using this
            · rcases List.mem_append.mp hv with hv | hv
              · exact hjs v hv
              · rcases List.mem_singleton.mp hv with rfl; exact ⟨g1, hj1⟩
            · by_cases q1 : a < js.length
              · rw [List.getElem?_append_left q1] at hv
                rw [aup_n2 (by omega)]; exact hspn a v hv
              · rw [List.getElem?_append_right (by omega)] at hv
                have hz : a - js.length < 1 := (List.getElem?_eq_some_iff.mp hv).1
                rw [show a - js.length = 0 by omega] at hv
                cases hv
                rw [show a = js.length by omega, aup_s]
            · rcases List.mem_cons.mp he with rfl | he
              · exact ⟨p2, hC.2.2.2⟩
              · exact hva e he
            · exact ⟨by rw [aup_n1 (by omega)]; exact hst4.1, by rw [aup_f (by omega)]; exact hst4.2⟩
        have := sp U n [] [] σ3 hU hn (by rw [hd1]; simp [fiL]) (fun j hj => by cases hj) (fun a j hj => by simp at hj) rfl (fun e he => by cases he) w3 F3 l4
        simpa using this
  exact lp (idG G).length 0 [(0, ufd G)] σ1 _ _ _ (by omega) (by simp [fiL, idG]) (fun e he => by rcases List.mem_singleton.mp he with rfl; exact ⟨h0, U0⟩) rfl (by simpa using w1) (FrE_tr (FrE_s F0) (FrE_s f1))
abbrev FrE2 (σ σ' : aSg) : Prop := (∀ a, a ≠ 136 → a ≠ 143 → a ≠ 140 → a ≠ 141 → a ≠ 142 → a ≠ 130 → σ' a = σ a) ∧ ∀ j, j ≠ 11 → j ≠ 23 → σ' 130 j = σ 130 j
theorem wr173 (hR : RGr σ G N) (hW : WG G ρ) (h0 : 0 < G.length) (hF : (fG G).length ≤ 300) (hG : G.length ≤ 590) (hsm : (scn (fG G) 0 0).isSome = true) (Q : List AV → aSg → Prop) (hq : ∀ (σ' : aSg) (h : Nat), scn (fG G) 0 0 = some h → RGr σ' (stG G (idG G) h) N → FrE2 σ σ' → Q [.inl 1] σ') : CA m173 [.inr (.inl 130), .inl (pI N 0 : Int)] σ Q := by
  rw [e173]
  have l0 := ln140
  have l1 := ln141
  have l2 := ln142
  have l3 := ln143
  obtain ⟨r1, r2, r3, r4⟩ := id hR
  have U0 := ufd_ok hW h0
  have hI : (idG G).length = (fG G).length := by simp [fG]
  simp (disch := omega) only [s173_0, s173_1, s173_2, s173_5, s173_6, s173_7, s173_11, s173_14, s173_17, s173_18, s173_19, s173_22, s173_25, s173_26, s173_27, s173_28, s173_29, s173_32, s173_33, s173_34, s173_37, s173_38, s173_41, s173_42, s173_43, s173_44, s173_47, s173_48, s173_49, s173_52, s173_53, s173_54, s173_57, s173_58, s173_61, s173_62, s173_65, s173_66, s173_67, s173_70, s173_72, s173_74, s173_75, s173_78, s173_79, s173_80, s173_83, s173_84, s173_86, s173_87, s173_88, s173_89, s173_92, s173_93, s173_94, s173_95, s173_98, s173_99, s173_100, s173_101, s173_103, s173_105, s173_106, s173_109, s173_110, s173_111, s173_114, s173_115, s173_118, s173_120, s173_121, s173_122, s173_125, s173_128, s173_131, s173_134, s173_135, List.cons_append, List.nil_append, if_true, if_false, true_and, and_true, and_self, eq_self, true_or, or_true, false_or, or_false, tIn, tLe, fLe, tLt, fLt, tEq, fEq, isL]
  have S0' : stM (aup σ 130 11 0) [] := ⟨by rw [aup_s]; rfl, fun k c hc => by simp at hc⟩
  have F0 : FrA 136 11 σ (aup σ 130 11 0) := ⟨fun b _ h2 => by rw [aup_f h2], fun i hi => by rw [aup_n2 hi]⟩
  refine zpush S0' (by simp) _ (fun σ1 w1 f1 => ?_)
  simp (disch := omega) only [s173_0, s173_1, s173_2, s173_5, s173_6, s173_7, s173_11, s173_14, s173_17, s173_18, s173_19, s173_22, s173_25, s173_26, s173_27, s173_28, s173_29, s173_32, s173_33, s173_34, s173_37, s173_38, s173_41, s173_42, s173_43, s173_44, s173_47, s173_48, s173_49, s173_52, s173_53, s173_54, s173_57, s173_58, s173_61, s173_62, s173_65, s173_66, s173_67, s173_70, s173_72, s173_74, s173_75, s173_78, s173_79, s173_80, s173_83, s173_84, s173_86, s173_87, s173_88, s173_89, s173_92, s173_93, s173_94, s173_95, s173_98, s173_99, s173_100, s173_101, s173_103, s173_105, s173_106, s173_109, s173_110, s173_111, s173_114, s173_115, s173_118, s173_120, s173_121, s173_122, s173_125, s173_128, s173_131, s173_134, s173_135, List.cons_append, List.nil_append, if_true, if_false, true_and, and_true, and_self, eq_self, true_or, or_true, false_or, or_false, tIn, tLe, fLe, tLt, fLt, tEq, fEq, isL]
  have lp : ∀ (m q : Nat) (es : List Nt) (σ2 : aSg) (l2 l3 l4 l5 : AV), q + m = (idG G).length → (idG G).drop q = fiL es → (∀ e ∈ es, e.1 < G.length ∧ Ul G e.1 e.2) → scn ((fG G).drop q) 0 q = scn (fG G) 0 0 → stM σ2 (es.map (fun e => (pI N e.1 : Int))) → FrE σ σ2 → WP m173 10 [.inr (.inl 130), .inl (pI N 0 : Int), l2, l3, l4, l5] [] σ2 Q := by
    intro m
    induction m using Nat.strongRecOn with
    | ind m ih =>
      intro q es σ2 l2 l3 l4 l5 hm1 hd1 hv1 hs1 hst hFr
      cases es with
      | nil =>
        have hq' : q = (idG G).length := by
          have := congrArg List.length hd1
          simp [fiL] at this
          omega
        have d0 : σ2 130 11 = 0 := hst.1
        have es : scn (fG G) 0 0 = none := by rw [← hs1, List.drop_eq_nil_of_le (by omega)]; rfl
        rw [s173_10]
        simp (disch := omega) only [s173_0, s173_1, s173_2, s173_5, s173_6, s173_7, s173_11, s173_14, s173_17, s173_18, s173_19, s173_22, s173_25, s173_26, s173_27, s173_28, s173_29, s173_32, s173_33, s173_34, s173_37, s173_38, s173_41, s173_42, s173_43, s173_44, s173_47, s173_48, s173_49, s173_52, s173_53, s173_54, s173_57, s173_58, s173_61, s173_62, s173_65, s173_66, s173_67, s173_70, s173_72, s173_74, s173_75, s173_78, s173_79, s173_80, s173_83, s173_84, s173_86, s173_87, s173_88, s173_89, s173_92, s173_93, s173_94, s173_95, s173_98, s173_99, s173_100, s173_101, s173_103, s173_105, s173_106, s173_109, s173_110, s173_111, s173_114, s173_115, s173_118, s173_120, s173_121, s173_122, s173_125, s173_128, s173_131, s173_134, s173_135, List.cons_append, List.nil_append, if_true, if_false, true_and, and_true, and_self, eq_self, true_or, or_true, false_or, or_false, tIn, tLe, fLe, tLt, fLt, tEq, fEq, isL, d0]
        rw [es] at hsm
        simp at hsm
      | cons e es =>
        obtain ⟨n, U⟩ := e
        obtain ⟨hn, hU⟩ := hv1 _ (List.mem_cons_self ..)
        have hv2 : ∀ e ∈ es, e.1 < G.length ∧ Ul G e.1 e.2 := fun u hu => hv1 u (List.mem_cons_of_mem _ hu)
        have lenes : ∀ l : List Nt, l.length ≤ (fiL l).length := by
          intro l
          induction l with
          | nil => simp
          | cons e l ihl => have := fi_pos e.2; simp only [fiL, List.length_cons, List.length_append]; omega
        have hel : (fiL ((n, U) :: es)).length ≤ 300 := by
          have := congrArg List.length hd1
          simp only [List.length_drop] at this
          omega
        have hel2 := lenes ((n, U) :: es)
        simp only [List.length_cons] at hel2
        have d0 : σ2 130 11 = (es.length : Int) + 1 := by have := hst.1; rw [this]; simp
        rw [s173_10]
        simp (disch := omega) only [s173_0, s173_1, s173_2, s173_5, s173_6, s173_7, s173_11, s173_14, s173_17, s173_18, s173_19, s173_22, s173_25, s173_26, s173_27, s173_28, s173_29, s173_32, s173_33, s173_34, s173_37, s173_38, s173_41, s173_42, s173_43, s173_44, s173_47, s173_48, s173_49, s173_52, s173_53, s173_54, s173_57, s173_58, s173_61, s173_62, s173_65, s173_66, s173_67, s173_70, s173_72, s173_74, s173_75, s173_78, s173_79, s173_80, s173_83, s173_84, s173_86, s173_87, s173_88, s173_89, s173_92, s173_93, s173_94, s173_95, s173_98, s173_99, s173_100, s173_101, s173_103, s173_105, s173_106, s173_109, s173_110, s173_111, s173_114, s173_115, s173_118, s173_120, s173_121, s173_122, s173_125, s173_128, s173_131, s173_134, s173_135, List.cons_append, List.nil_append, if_true, if_false, true_and, and_true, and_self, eq_self, true_or, or_true, false_or, or_false, tIn, tLe, fLe, tLt, fLt, tEq, fEq, isL, d0]
        refine zpop (st := es.map (fun e => (pI N e.1 : Int))) (v := (pI N n : Int)) (by simpa using hst) (by simp; omega) _ (fun σ3 w3 f3 => ?_)
        have F3 := FrE_tr hFr (FrE_s f3)
        have R3 : RGr σ3 G N := RGr_E hR F3
        simp (disch := omega) only [s173_0, s173_1, s173_2, s173_5, s173_6, s173_7, s173_11, s173_14, s173_17, s173_18, s173_19, s173_22, s173_25, s173_26, s173_27, s173_29, s173_32, s173_33, s173_34, s173_37, s173_38, s173_41, s173_42, s173_43, s173_44, s173_47, s173_48, s173_49, s173_52, s173_53, s173_54, s173_57, s173_58, s173_61, s173_62, s173_65, s173_66, s173_67, s173_70, s173_72, s173_74, s173_75, s173_78, s173_79, s173_80, s173_83, s173_84, s173_86, s173_87, s173_88, s173_89, s173_92, s173_93, s173_94, s173_95, s173_98, s173_99, s173_100, s173_101, s173_103, s173_105, s173_106, s173_109, s173_110, s173_111, s173_114, s173_115, s173_118, s173_120, s173_121, s173_122, s173_125, s173_128, s173_131, s173_134, s173_135, List.cons_append, List.nil_append, if_true, if_false, true_and, and_true, and_self, eq_self, true_or, or_true, false_or, or_false, tIn, tLe, fLe, tLt, fLt, tEq, fEq, isL, c170 R3 hW hn (Ul_ro hU)]
        -- down the left
        have sp : ∀ (C : Lt) (cn : Nat) (js : List Nat) (args : List Nt) (σ4 : aSg), Ul G cn C → cn < G.length → (idG G).drop q = js ++ (fi C ++ (fiL args ++ fiL es)) → (∀ j ∈ js, j < G.length ∧ cl G j = 1) → (∀ (a j : Nat), js[a]? = some j → σ4 143 a = (pI N j : Int)) → args.map (fun e => e.1) = (js.map (rt G)).reverse → (∀ e ∈ args, e.1 < G.length ∧ Ul G e.1 e.2) → stM σ4 (es.map (fun e => (pI N e.1 : Int))) → FrE σ σ4 → ∀ (l4 l5 : AV), WP m173 28 [.inr (.inl 130), .inl (pI N 0 : Int), .inl (pI N (ro C) : Int), .inl (js.length : Int), l4, l5] [] σ4 Q := by
          intro C
          induction C with
          | leaf j =>
            intro cn js args σ4 hC hcn hd2 hjs hspn hargs hva hst4 F4 l4 l5
            have R4 : RGr σ4 G N := RGr_E hR F4
            obtain ⟨g1, g2, g3⟩ := Rl_in hW hcn hC.1
            have hj1 := hC.2
            obtain ⟨b1, b2, b3⟩ := RG_at R4 g1
            have hpj := pI_lt r2 g1
            have tk : tok (cl G j) ∧ arT (cl G j) = 0 := by
              rcases hW j g1 with z | z | z
              · exact absurd z.1 hj1
              · exact absurd z.1 g3
              · exact z
            obtain ⟨t1, t2⟩ := cT_t tk.1
            rw [t1] at b1
            have tz : ¬ tau (cl G j) = 0 := fun z => hj1 ((tau_0 tk.1).mp z)
            have hjl : js.length + 1 ≤ 300 := by
              have := congrArg List.length hd2
              simp only [List.length_drop, List.length_append, fi, List.length_cons, List.length_nil] at this
              omega
            have iat : ∀ a v, (js ++ (j :: (fiL args ++ fiL es)))[a]? = some v → (idG G)[q + a]? = some v := by
              intro a v hv
              have : ((idG G).drop q)[a]? = some v := by rw [hd2]; simpa [fi] using hv
              rwa [List.getElem?_drop] at this
            have fat : ∀ a v, (idG G)[q + a]? = some v → (fG G)[q + a]? = some (cl G v) := by
              intro a v hv
              unfold fG
              rw [List.getElem?_map, hv]; rfl
            have hputs : ∀ a, a < js.length → (fG G)[q + a]? = some 1 := by
              intro a ha
              have e1 := fat a _ (iat a js[a] (by rw [List.getElem?_append_left ha, List.getElem?_eq_getElem ha]))
              rw [(hjs _ (List.getElem_mem ha)).2] at e1
              exact e1
            have hhead : (fG G)[q + js.length]? = some (cl G j) := fat _ _ (iat _ j (by rw [List.getElem?_append_right (Nat.le_refl _)]; simp))
            have hs2 := scn_puts js.length q 0 hputs
            obtain ⟨hlt, hev⟩ := List.getElem?_eq_some_iff.mp hhead
            rw [hs1, List.drop_eq_getElem_cons hlt, hev] at hs2
            simp only [scn, if_neg hj1, Nat.zero_add] at hs2
            have wb := wnt_in (c := cl G j)
            have ero : ro (.leaf j) = j := rfl
            rw [ero]
            rw [s173_28]
            by_cases g5 : 0 < wnt (cl G j) ∧ wnt (cl G j) ≤ (js.length : Int)
            · rw [if_pos g5] at hs2
              have e9 : w9 (cl G j) = wnt (cl G j) := by unfold w9; rw [if_neg (by omega)]
              have hih : ∀ a, a ≤ js.length → idN (idG G) (q + a) = (js ++ [j]).getD a 0 := by
                intro a ha
                have ha2 : a < (js ++ [j]).length := by simp; omega
                have := iat a ((js ++ [j])[a]) (by
                  rw [show js ++ (j :: (fiL args ++ fiL es)) = (js ++ [j]) ++ (fiL args ++ fiL es) by simp, List.getElem?_append_left ha2, List.getElem?_eq_getElem ha2])
                unfold idN
                rw [List.getD_eq_getElem?_getD, this, List.getD_eq_getElem?_getD, List.getElem?_eq_getElem ha2]
              have hj0 : idN (idG G) (q + js.length) = j := by
                rw [hih _ (Nat.le_refl _), List.getD_eq_getElem?_getD, List.getElem?_append_right (Nat.le_refl _)]
                simp
              have hjj : ∀ b : Nat, 1 ≤ b → b ≤ js.length → σ4 143 (js.length - b) = (pI N (idN (idG G) (q + js.length - b)) : Int) := by
                intro b b1 b2
                rw [show q + js.length - b = q + (js.length - b) by omega, hih _ (by omega), List.getD_eq_getElem?_getD, List.getElem?_append_left (by omega), List.getElem?_eq_getElem (by omega)]
                exact hspn _ _ (List.getElem?_eq_getElem (by omega))
              have ch := fun Q2 hQ2 => wr174 (h := q + js.length) (k := js.length) R4 hW h0 hs2 (by omega) (by omega) (by rw [hj0]; exact g5.2) (fun b b1 b2 => hjj b b1 (by rw [hj0] at b2; omega)) Q2 hQ2
              rw [hj0] at ch
              have kw : (js.length : Int) - wnt (cl G j) = ((js.length - (wnt (cl G j)).toNat : Nat) : Int) := by omega
              have yw := hjj (wnt (cl G j)).toNat (by omega) (by omega)
              simp (disch := omega) only [s173_0, s173_1, s173_2, s173_5, s173_6, s173_7, s173_11, s173_14, s173_17, s173_18, s173_19, s173_22, s173_25, s173_26, s173_27, s173_29, s173_32, s173_33, s173_34, s173_37, s173_38, s173_41, s173_42, s173_43, s173_44, s173_47, s173_48, s173_49, s173_52, s173_53, s173_54, s173_57, s173_58, s173_61, s173_62, s173_65, s173_66, s173_67, s173_70, s173_72, s173_74, s173_75, s173_78, s173_79, s173_80, s173_83, s173_84, s173_86, s173_87, s173_88, s173_89, s173_92, s173_93, s173_94, s173_95, s173_98, s173_99, s173_100, s173_101, s173_105, s173_106, s173_109, s173_110, s173_111, s173_114, s173_115, s173_118, s173_120, s173_121, s173_122, s173_125, s173_128, s173_131, s173_134, s173_135, List.cons_append, List.nil_append, if_true, if_false, true_and, and_true, and_self, eq_self, true_or, or_true, false_or, or_false, tIn, tLe, fLe, tLt, fLt, tEq, fEq, isL, kd140, ln140, kd143, ln143, Int.toNat_natCast, b1, c165 tk.1, e9, kw, yw]
              refine ch _ (fun σ5 R5 f5 => ?_)
              simp (disch := omega) only [s173_0, s173_1, s173_2, s173_5, s173_6, s173_7, s173_11, s173_14, s173_17, s173_18, s173_19, s173_22, s173_25, s173_26, s173_27, s173_29, s173_32, s173_33, s173_34, s173_37, s173_38, s173_41, s173_42, s173_43, s173_44, s173_47, s173_48, s173_49, s173_52, s173_53, s173_54, s173_57, s173_58, s173_61, s173_62, s173_65, s173_66, s173_67, s173_70, s173_72, s173_74, s173_75, s173_78, s173_79, s173_80, s173_83, s173_84, s173_86, s173_87, s173_88, s173_89, s173_92, s173_93, s173_94, s173_95, s173_98, s173_99, s173_100, s173_101, s173_105, s173_106, s173_109, s173_110, s173_111, s173_114, s173_115, s173_118, s173_120, s173_121, s173_122, s173_125, s173_128, s173_131, s173_134, s173_135, List.cons_append, List.nil_append, if_true, if_false, true_and, and_true, and_self, eq_self, true_or, or_true, false_or, or_false, tIn, tLe, fLe, tLt, fLt, tEq, fEq, isL]
              exact hq σ5 (q + js.length) hs2 R5 ⟨fun a q1 q2 q3 q4 q5 q6 => (f5.1 a q3 q4 q5 q6).trans (F4.1 a q1 q2 q6), fun j q1 q2 => (f5.2 j q2).trans (F4.2 j q1)⟩
            · rw [if_neg g5] at hs2
              have e9 : (js.length : Int) < w9 (cl G j) := by unfold w9; split <;> omega
              simp (disch := omega) only [s173_0, s173_1, s173_2, s173_5, s173_6, s173_7, s173_11, s173_14, s173_17, s173_18, s173_19, s173_22, s173_25, s173_26, s173_27, s173_29, s173_32, s173_33, s173_34, s173_37, s173_38, s173_41, s173_42, s173_43, s173_44, s173_47, s173_48, s173_49, s173_52, s173_53, s173_54, s173_57, s173_58, s173_61, s173_62, s173_65, s173_66, s173_67, s173_70, s173_72, s173_74, s173_75, s173_78, s173_79, s173_80, s173_83, s173_84, s173_86, s173_87, s173_88, s173_89, s173_92, s173_93, s173_94, s173_95, s173_98, s173_99, s173_100, s173_101, s173_105, s173_106, s173_109, s173_110, s173_111, s173_114, s173_115, s173_118, s173_120, s173_121, s173_122, s173_125, s173_128, s173_131, s173_134, s173_135, List.cons_append, List.nil_append, if_true, if_false, true_and, and_true, and_self, eq_self, true_or, or_true, false_or, or_false, tIn, tLe, fLe, tLt, fLt, tEq, fEq, isL, kd140, ln140, Int.toNat_natCast, b1, c165 tk.1]
              have hal : args.length = js.length := by have := congrArg List.length hargs; simpa using this
              have pl : ∀ (m2 a : Nat) (σ5 : aSg), a + m2 = js.length → stM σ5 ((args.drop (js.length - a) ++ es).map (fun e => (pI N e.1 : Int))) → FrA 136 11 σ4 σ5 → WP m173 103 [.inr (.inl 130), .inl (pI N 0 : Int), .inl (pI N j : Int), .inl (js.length : Int), .inl (w9 (cl G j)), .inl (a : Int)] [] σ5 Q := by
                intro m2
                induction m2 with
                | zero =>
                  intro a σ5 ha i5 f5
                  rw [s173_103]
                  simp (disch := omega) only [s173_0, s173_1, s173_2, s173_5, s173_6, s173_7, s173_11, s173_14, s173_17, s173_18, s173_19, s173_22, s173_25, s173_26, s173_27, s173_28, s173_29, s173_32, s173_33, s173_34, s173_37, s173_38, s173_41, s173_42, s173_43, s173_44, s173_47, s173_48, s173_49, s173_52, s173_53, s173_54, s173_57, s173_58, s173_61, s173_62, s173_65, s173_66, s173_67, s173_70, s173_72, s173_74, s173_75, s173_78, s173_79, s173_80, s173_83, s173_84, s173_86, s173_87, s173_88, s173_89, s173_92, s173_93, s173_94, s173_95, s173_98, s173_99, s173_100, s173_101, s173_105, s173_106, s173_109, s173_110, s173_111, s173_114, s173_115, s173_118, s173_120, s173_121, s173_122, s173_125, s173_128, s173_131, s173_134, s173_135, List.cons_append, List.nil_append, if_true, if_false, true_and, and_true, and_self, eq_self, true_or, or_true, false_or, or_false, tIn, tLe, fLe, tLt, fLt, tEq, fEq, isL]
                  rw [show js.length - a = 0 by omega, List.drop_zero] at i5
                  refine ih (m - (js.length + 1)) (by omega) (q + (js.length + 1)) (args ++ es) σ5 _ _ _ _ (by have := congrArg List.length hd2; simp only [List.length_drop, List.length_append, fi, List.length_cons, List.length_nil] at this; omega) ?_ (fun e he => ?_) ?_ i5 (FrE_tr F4 (FrE_s f5))
                  · rw [← List.drop_drop, hd2]
                    have e1 : js ++ (fi (.leaf j) ++ (fiL args ++ fiL es)) = (js ++ [j]) ++ (fiL args ++ fiL es) := by simp [fi]
                    rw [e1, List.drop_left' (by simp), fiL_app]
                  · rcases List.mem_append.mp he with he | he
                    · exact hva e he
                    · exact hv2 e he
                  · rw [hs2]
                    rfl
                | succ m2 ih2 =>
                  intro a σ5 ha i5 f5
                  have hal2 : a < js.length := by omega
                  have y1 : σ5 143 a = (pI N js[a] : Int) := by rw [f5.1 143 (by omega) (by omega)]; exact hspn a _ (List.getElem?_eq_getElem hal2)
                  have R5 : RGr σ5 G N := RGr_E R4 (FrE_s f5)
                  obtain ⟨z1, z2⟩ := hjs _ (List.getElem_mem hal2)
                  have y2 := ((RG_at R5 z1).2.1 z2).2
                  have pz := pI_lt r2 z1
                  rw [s173_103]
                  simp (disch := omega) only [s173_0, s173_1, s173_2, s173_5, s173_6, s173_7, s173_11, s173_14, s173_17, s173_18, s173_19, s173_22, s173_25, s173_26, s173_27, s173_29, s173_32, s173_33, s173_34, s173_37, s173_38, s173_41, s173_42, s173_43, s173_44, s173_47, s173_48, s173_49, s173_52, s173_53, s173_54, s173_57, s173_58, s173_61, s173_62, s173_65, s173_66, s173_67, s173_70, s173_72, s173_74, s173_75, s173_78, s173_79, s173_80, s173_83, s173_84, s173_86, s173_87, s173_88, s173_89, s173_92, s173_93, s173_94, s173_95, s173_98, s173_99, s173_100, s173_101, s173_105, s173_106, s173_109, s173_110, s173_111, s173_114, s173_115, s173_118, s173_120, s173_121, s173_122, s173_125, s173_128, s173_131, s173_134, s173_135, List.cons_append, List.nil_append, if_true, if_false, true_and, and_true, and_self, eq_self, true_or, or_true, false_or, or_false, tIn, tLe, fLe, tLt, fLt, tEq, fEq, isL, kd142, ln142, kd143, ln143, Int.toNat_natCast, y1, y2]
                  refine zpush i5 (by simp; omega) _ (fun σ6 i6 f6 => ?_)
                  simp (disch := omega) only [s173_0, s173_1, s173_2, s173_5, s173_6, s173_7, s173_11, s173_14, s173_17, s173_18, s173_19, s173_22, s173_25, s173_26, s173_27, s173_29, s173_32, s173_33, s173_34, s173_37, s173_38, s173_41, s173_42, s173_43, s173_44, s173_47, s173_48, s173_49, s173_52, s173_53, s173_54, s173_57, s173_58, s173_61, s173_62, s173_65, s173_66, s173_67, s173_70, s173_72, s173_74, s173_75, s173_78, s173_79, s173_80, s173_83, s173_84, s173_86, s173_87, s173_88, s173_89, s173_92, s173_93, s173_94, s173_95, s173_98, s173_99, s173_100, s173_101, s173_105, s173_106, s173_109, s173_110, s173_111, s173_114, s173_115, s173_118, s173_120, s173_121, s173_122, s173_125, s173_128, s173_131, s173_134, s173_135, List.cons_append, List.nil_append, if_true, if_false, true_and, and_true, and_self, eq_self, true_or, or_true, false_or, or_false, tIn, tLe, fLe, tLt, fLt, tEq, fEq, isL]
                  refine ih2 (a + 1) σ6 (by omega) ?_ ⟨fun b q1 q2 => (f6.1 b q1 q2).trans (f5.1 b q1 q2), fun j q => (f6.2 j q).trans (f5.2 j q)⟩
                  have hx : js.length - (a + 1) < args.length := by omega
                  have ex : args.drop (js.length - (a + 1)) = args[js.length - (a + 1)] :: args.drop (js.length - a) := by
                    rw [List.drop_eq_getElem_cons hx, show js.length - (a + 1) + 1 = js.length - a by omega]
                  have ey : (args[js.length - (a + 1)]).1 = rt G js[a] := by
                    have e1 : (args.map (fun e => e.1))[js.length - (a + 1)]? = some (args[js.length - (a + 1)]).1 := by rw [List.getElem?_map, List.getElem?_eq_getElem hx]; rfl
                    rw [hargs, List.getElem?_reverse (by simp; omega)] at e1
                    simp only [List.length_map] at e1
                    rw [show js.length - 1 - (js.length - (a + 1)) = a by omega, List.getElem?_map, List.getElem?_eq_getElem hal2] at e1
                    simp at e1
                    exact e1.symm
                  rw [ex]
                  simpa [ey] using i6
              exact pl js.length 0 σ4 (by omega) (by rw [Nat.sub_zero, List.drop_eq_nil_of_le (by omega)]; simpa using hst4) ⟨fun _ _ _ => rfl, fun _ _ => rfl⟩
          | branch j a b iha ihb =>
            intro cn js args σ4 hC hcn hd2 hjs hspn hargs hva hst4 F4 l4 l5
            have R4 : RGr σ4 G N := RGr_E hR F4
            obtain ⟨g1, g2, g3⟩ := Rl_in hW hcn hC.1
            have hj1 := hC.2.1
            obtain ⟨b1, b2, b3⟩ := RG_at R4 g1
            have b4 := (b2 hj1).1
            rw [hj1, cT_1] at b1
            have hpj := pI_lt r2 g1
            obtain ⟨p1, p2, p3, p4⟩ := put_in hW g1 hj1
            have hjl : js.length + 1 ≤ 300 := by
              have := congrArg List.length hd2
              simp only [List.length_drop, List.length_append, fi, List.length_cons] at this
              omega
            have Fs : FrE σ4 (aup σ4 143 js.length (pI N j : Int)) := ⟨fun a q1 q2 q3 => aup_f q2, fun j q => by rw [aup_n1 (by omega)]⟩
            have R5 : RGr (aup σ4 143 js.length (pI N j : Int)) G N := RGr_E R4 Fs
            have b5 : (aup σ4 143 js.length (pI N j : Int)) 141 (pI N j) = (pI N (lf G j) : Int) := by rw [aup_n1 (by omega)]; exact b4
            have ero : ro (.branch j a b) = j := rfl
            rw [ero]
            rw [s173_28]
            simp (disch := omega) only [s173_0, s173_1, s173_2, s173_5, s173_6, s173_7, s173_11, s173_14, s173_17, s173_18, s173_19, s173_22, s173_25, s173_26, s173_27, s173_29, s173_32, s173_33, s173_34, s173_37, s173_38, s173_41, s173_42, s173_43, s173_44, s173_47, s173_48, s173_49, s173_52, s173_53, s173_54, s173_57, s173_58, s173_61, s173_62, s173_65, s173_66, s173_67, s173_70, s173_72, s173_74, s173_75, s173_78, s173_79, s173_80, s173_83, s173_84, s173_86, s173_87, s173_88, s173_89, s173_92, s173_93, s173_94, s173_95, s173_98, s173_99, s173_100, s173_101, s173_103, s173_105, s173_106, s173_109, s173_110, s173_111, s173_114, s173_115, s173_118, s173_120, s173_121, s173_122, s173_125, s173_128, s173_131, s173_134, s173_135, List.cons_append, List.nil_append, if_true, if_false, true_and, and_true, and_self, eq_self, true_or, or_true, false_or, or_false, tIn, tLe, fLe, tLt, fLt, tEq, fEq, isL, kd140, ln140, kd141, ln141, kd143, ln143, Int.toNat_natCast, b1, b5, c170 R5 hW p1 (Ul_ro hC.2.2.1)]
            have := iha (lf G j) (js ++ [j]) ((rt G j, b) :: args) (aup σ4 143 js.length (pI N j : Int)) hC.2.2.1 p1 (by rw [hd2]; simp [fi, fiL]) (fun v hv => ?_) (fun a v hv => ?_) (by simp [hargs]) (fun e he => ?_) ?_ (FrE_tr F4 Fs) l4 l5
            · simpa using this
            · rcases List.mem_append.mp hv with hv | hv
              · exact hjs v hv
              · rcases List.mem_singleton.mp hv with rfl; exact ⟨g1, hj1⟩
            · by_cases q1 : a < js.length
              · rw [List.getElem?_append_left q1] at hv
                rw [aup_n2 (by omega)]; exact hspn a v hv
              · rw [List.getElem?_append_right (by omega)] at hv
                have hz : a - js.length < 1 := (List.getElem?_eq_some_iff.mp hv).1
                rw [show a - js.length = 0 by omega] at hv
                cases hv
                rw [show a = js.length by omega, aup_s]
            · rcases List.mem_cons.mp he with rfl | he
              · exact ⟨p2, hC.2.2.2⟩
              · exact hva e he
            · exact ⟨by rw [aup_n1 (by omega)]; exact hst4.1, by rw [aup_f (by omega)]; exact hst4.2⟩
        have := sp U n [] [] σ3 hU hn (by rw [hd1]; simp [fiL]) (fun j hj => by cases hj) (fun a j hj => by simp at hj) rfl (fun e he => by cases he) w3 F3 l4 l5
        simpa using this
  exact lp (idG G).length 0 [(0, ufd G)] σ1 _ _ _ _ (by omega) (by simp [fiL, idG]) (fun e he => by rcases List.mem_singleton.mp he with rfl; exact ⟨h0, U0⟩) rfl (by simpa using w1) (FrE_tr (FrE_s F0) (FrE_s f1))
end TRH
