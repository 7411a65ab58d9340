/-! Spans: where parts end -/
def upto (n p : Nat) (F : Nat → Int) (d : Int) : List Int := (List.range n).map (fun j => if p ≤ j then F j else d)
theorem up_len (n p : Nat) (F : Nat → Int) (d : Int) : (upto n p F d).length = n := by simp [upto]
theorem up_at {n p j : Nat} {F : Nat → Int} {d : Int} (h : p ≤ j) (hj : j < n) : lat (upto n p F d) (j : Int) = F j := by
  rw [lat_in (by rw [up_len]; exact hj)]
  simp [upto, h]
theorem up_set {n p : Nat} {F : Nat → Int} {d : Int} (hp : p < n) : lset (upto n (p + 1) F d) (p : Int) (F p) = upto n p F d := by
  unfold lset
  rw [if_pos (by omega), Int.toNat_natCast]
  apply List.ext_getElem?
  intro j
  rw [List.getElem?_set]
  by_cases e : p = j
  · subst e
    rw [if_pos rfl, up_len, if_pos hp]
    simp [upto, hp]
  · rw [if_neg e]
    simp only [upto, List.getElem?_map]
    by_cases hj : j < n
    · rw [List.getElem?_range hj]
      simp only [Option.map_some, Option.some.injEq]
      by_cases h1 : p + 1 ≤ j
      · rw [if_pos h1, if_pos (by omega)]
      · rw [if_neg h1, if_neg (by omega)]
    · rw [List.getElem?_eq_none (by simpa using hj)]
      rfl
theorem up_top (n : Nat) (F : Nat → Int) (d : Int) : upto n n F d = List.replicate n d := by
  apply List.ext_getElem?
  intro j
  simp only [upto, List.getElem?_map, List.getElem?_replicate]
  by_cases hj : j < n
  · rw [List.getElem?_range hj, if_pos hj]
    simp only [Option.map_some, Option.some.injEq]
    rw [if_neg (by omega)]
  · rw [List.getElem?_eq_none (by simpa using hj), if_neg hj]
    rfl
theorem up_all (n : Nat) (F : Nat → Int) (d : Int) : upto n 0 F d = (List.range n).map F := by simp [upto]
def isSp (b : Nat) : Prop := isO b 6 ∧ (0 ≤ PT b 0 ∧ pt b 0 = b + 1) ∧ (0 ≤ PT b 1 ∧ pt b 1 = b + 3) ∧ isRow (b + 1) ∧ isRow (b + 3)
theorem sp60 : isSp 60 := ⟨oS60, ⟨by decide +kernel, by decide +kernel⟩, ⟨by decide +kernel, by decide +kernel⟩, row61, row63⟩
theorem sp66 : isSp 66 := ⟨oS66, ⟨by decide +kernel, by decide +kernel⟩, ⟨by decide +kernel, by decide +kernel⟩, row67, row69⟩
theorem sp93 : isSp 93 := ⟨oS93, ⟨by decide +kernel, by decide +kernel⟩, ⟨by decide +kernel, by decide +kernel⟩, row94, row96⟩
theorem sp99 : isSp 99 := ⟨oS99, ⟨by decide +kernel, by decide +kernel⟩, ⟨by decide +kernel, by decide +kernel⟩, row100, row102⟩
theorem sp125 : isSp 125 := ⟨oS125, ⟨by decide +kernel, by decide +kernel⟩, ⟨by decide +kernel, by decide +kernel⟩, row126, row128⟩
def endsT (T : List Int) : List Int := upto T.length 0 (fun p => (te T p : Int)) 0
theorem endsT_len (T : List Int) : (endsT T).length = T.length := up_len _ _ _ _
theorem endsT_at {T : List Int} {p : Nat} (h : p < T.length) : lat (endsT T) (p : Int) = (te T p : Int) := up_at (F := fun p => (te T p : Int)) (by omega) h
section SP
variable {σ : aSg} {K : List AV → aSg → Prop} {x y z i : Int} {b t : Nat} {T : List Int}
theorem c68 (hb : isSp b) (hk : RK σ) : CA m68 [.inr (.inl b), .inl x] σ K = K [.inl (lat (rv σ (b + 1)) x)] σ := by
  rw [e68]
  simp (disch := omega) only [s68_0, s68_1, s68_4, s68_5, s68_8, List.cons_append, List.nil_append, if_true, if_false, true_and, and_true, and_self, eq_self, true_or, or_true, false_or, or_false, tIn, tLe, fLe, tLt, fLt, tEq, fEq, hb.1, hb.2.1.1, hb.2.1.2, hb.2.2.2.1.1, c30 hb.2.2.2.1 hk]
theorem arT_1 : arT 1 = 2 := rfl
theorem arT_b {c : Int} (h : 1000 < c) : arT c = 1 := by unfold arT; rw [if_neg (by omega), if_pos h]
theorem arT_0 {c : Int} (h : ¬ c = 1) (h' : ¬ 1000 < c) : arT c = 0 := by unfold arT; rw [if_neg h, if_neg h']
theorem c67 (hb : isSp b) (ht : isRow t) (hne : t ≠ b + 1) (hk : RK σ) (hT : rv σ t = T) (hw : isT T) (hcap : T.length ≤ cp (b + 1)) : CA m67 [.inr (.inl b), .inr (.inl t)] σ K = K [] (rs σ (b + 1) (endsT T)) := by
  refine CA_eq ?_
  rw [e67]
  have rE := hb.2.2.2.1
  have c1 := cp_le rE
  simp (disch := omega) only [s67_0, s67_1, s67_4, s67_5, s67_8, s67_9, s67_12, s67_13, s67_16, s67_17, s67_18, s67_20, s67_23, s67_24, s67_25, s67_28, s67_29, s67_30, s67_31, s67_34, s67_35, s67_38, s67_39, s67_40, s67_41, s67_42, s67_43, s67_44, s67_47, s67_50, s67_53, s67_56, s67_57, s67_60, s67_63, s67_64, s67_67, s67_68, s67_69, s67_70, s67_71, s67_72, s67_75, s67_78, s67_81, s67_82, s67_85, s67_86, s67_87, s67_88, s67_89, s67_92, s67_95, s67_98, List.cons_append, List.nil_append, if_true, if_false, true_and, and_true, and_self, eq_self, true_or, or_true, false_or, or_false, tIn, tLe, fLe, tLt, fLt, tEq, fEq, hb.1, hb.2.1.1, hb.2.1.2, rE.1, ht.1, c28 ht hk, hT, c37 rE hk, Int.toNat_natCast]
  have hk0 : RK (rs σ (b + 1) (List.replicate (min T.length (cp (b + 1))) 0)) := RK_rs hk rE (by simp; omega)
  have e0 : rv (rs σ (b + 1) (List.replicate (min T.length (cp (b + 1))) 0)) t = T := (rv_ne rE ht hne).trans hT
  simp (disch := omega) only [s67_0, s67_1, s67_4, s67_5, s67_8, s67_9, s67_12, s67_13, s67_16, s67_17, s67_18, s67_20, s67_23, s67_24, s67_25, s67_28, s67_29, s67_30, s67_31, s67_34, s67_35, s67_38, s67_39, s67_40, s67_41, s67_42, s67_43, s67_44, s67_47, s67_50, s67_53, s67_56, s67_57, s67_60, s67_63, s67_64, s67_67, s67_68, s67_69, s67_70, s67_71, s67_72, s67_75, s67_78, s67_81, s67_82, s67_85, s67_86, s67_87, s67_88, s67_89, s67_92, s67_95, s67_98, List.cons_append, List.nil_append, if_true, if_false, true_and, and_true, and_self, eq_self, true_or, or_true, false_or, or_false, tIn, tLe, fLe, tLt, fLt, tEq, fEq, ht.1, c28 ht hk0, e0, isL]
  rw [Nat.min_eq_left hcap, ← up_top T.length (fun p => (te T p : Int)) 0]
  have lp : ∀ (p : Nat), p ≤ T.length → WP m67 19 [.inr (.inl b), .inr (.inl t), .inl ((p : Int) - 1), vU] [] (rs σ (b + 1) (upto T.length p (fun p => (te T p : Int)) 0)) (fun v σ' => v = [] ∧ σ' = rs σ (b + 1) (endsT T)) ∧ ∀ w : Int, WP m67 19 [.inr (.inl b), .inr (.inl t), .inl ((p : Int) - 1), .inl w] [] (rs σ (b + 1) (upto T.length p (fun p => (te T p : Int)) 0)) (fun v σ' => v = [] ∧ σ' = rs σ (b + 1) (endsT T)) := by
    intro p
    induction p with
    | zero =>
      intro hp
      refine ⟨?_, fun w => ?_⟩
      · rw [s67_19]
        simp (disch := omega) only [s67_0, s67_1, s67_4, s67_5, s67_8, s67_9, s67_12, s67_13, s67_16, s67_17, s67_18, s67_20, s67_23, s67_24, s67_25, s67_28, s67_29, s67_30, s67_31, s67_34, s67_35, s67_38, s67_39, s67_40, s67_41, s67_42, s67_43, s67_44, s67_47, s67_50, s67_53, s67_56, s67_57, s67_60, s67_63, s67_64, s67_67, s67_68, s67_69, s67_70, s67_71, s67_72, s67_75, s67_78, s67_81, s67_82, s67_85, s67_86, s67_87, s67_88, s67_89, s67_92, s67_95, s67_98, List.cons_append, List.nil_append, if_true, if_false, true_and, and_true, and_self, eq_self, true_or, or_true, false_or, or_false, tIn, tLe, fLe, tLt, fLt, tEq, fEq]
        rfl
      · rw [s67_19]
        simp (disch := omega) only [s67_0, s67_1, s67_4, s67_5, s67_8, s67_9, s67_12, s67_13, s67_16, s67_17, s67_18, s67_20, s67_23, s67_24, s67_25, s67_28, s67_29, s67_30, s67_31, s67_34, s67_35, s67_38, s67_39, s67_40, s67_41, s67_42, s67_43, s67_44, s67_47, s67_50, s67_53, s67_56, s67_57, s67_60, s67_63, s67_64, s67_67, s67_68, s67_69, s67_70, s67_71, s67_72, s67_75, s67_78, s67_81, s67_82, s67_85, s67_86, s67_87, s67_88, s67_89, s67_92, s67_95, s67_98, List.cons_append, List.nil_append, if_true, if_false, true_and, and_true, and_self, eq_self, true_or, or_true, false_or, or_false, tIn, tLe, fLe, tLt, fLt, tEq, fEq]
        rfl
    | succ p ih =>
      intro hp
      have ih' := (ih (by omega)).2
      have hp' : p < T.length := by omega
      obtain ⟨σ1, hσ1⟩ : ∃ z, z = rs σ (b + 1) (upto T.length (p + 1) (fun p => (te T p : Int)) 0) := ⟨_, rfl⟩
      have hk1 : RK σ1 := by rw [hσ1]; exact RK_rs hk rE (by rw [up_len]; exact hcap)
      have eT : rv σ1 t = T := by rw [hσ1]; exact (rv_ne rE ht hne).trans hT
      have eE : rv σ1 (b + 1) = upto T.length (p + 1) (fun p => (te T p : Int)) 0 := by rw [hσ1]; exact rv_rs
      have eg : rs σ1 (b + 1) (upto T.length p (fun p => (te T p : Int)) 0) = rs σ (b + 1) (upto T.length p (fun p => (te T p : Int)) 0) := by rw [hσ1]; exact rs_grow (by rw [up_len, up_len]; omega)
      have q1 : ((p + 1 : Nat) : Int) - 1 = (p : Int) := by omega
      have q2 : lat T (p : Int) = T[p] := lat_in hp'
      have hc : T[p]? = some T[p] := List.getElem?_eq_getElem hp'
      have ust : lset (upto T.length (p + 1) (fun p => (te T p : Int)) 0) (p : Int) (te T p : Int) = upto T.length p (fun p => (te T p : Int)) 0 := up_set (F := fun p => (te T p : Int)) hp'
      rw [← hσ1, q1]
      have body : ∀ l3 : AV, isL l3 = false → WP m67 19 [.inr (.inl b), .inr (.inl t), .inl (p : Int), l3] [] σ1 (fun v σ' => v = [] ∧ σ' = rs σ (b + 1) (endsT T)) := by
        intro l3 hl3
        rw [s67_19]
        by_cases h1 : T[p] = 1
        · obtain ⟨g1, g2, g3⟩ := te_2 hw hc (by rw [h1]; rfl)
          have g4 := te_gt hw g1
          have w1 : lat (upto T.length (p + 1) (fun p => (te T p : Int)) 0) ((p : Int) + 1) = (te T (p + 1) : Int) := by
            rw [show (p : Int) + 1 = ((p + 1 : Nat) : Int) by omega]
            exact up_at (F := fun p => (te T p : Int)) (by omega) g1
          have w2 : lat (upto T.length (p + 1) (fun p => (te T p : Int)) 0) (te T (p + 1) : Int) = (te T p : Int) := by
            rw [g3]
            exact up_at (F := fun p => (te T p : Int)) (by omega) g2
          simp (disch := omega) only [s67_0, s67_1, s67_4, s67_5, s67_8, s67_9, s67_12, s67_13, s67_16, s67_17, s67_18, s67_20, s67_23, s67_24, s67_25, s67_28, s67_29, s67_30, s67_31, s67_34, s67_35, s67_38, s67_39, s67_40, s67_41, s67_42, s67_43, s67_44, s67_47, s67_50, s67_53, s67_56, s67_57, s67_60, s67_63, s67_64, s67_67, s67_68, s67_69, s67_70, s67_71, s67_72, s67_75, s67_78, s67_81, s67_82, s67_85, s67_86, s67_87, s67_88, s67_89, s67_92, s67_95, s67_98, List.cons_append, List.nil_append, if_true, if_false, true_and, and_true, and_self, eq_self, true_or, or_true, false_or, or_false, tIn, tLe, fLe, tLt, fLt, tEq, fEq, ht.1, c30 ht hk1, eT, q2, h1, isL, hb.1, hb.2.1.1, hb.2.1.2, c68 hb hk1, eE, w1, w2, rE.1, c33 rE hk1, ust, eg]
          exact ih' _
        · by_cases h2 : 1000 < T[p]
          · obtain ⟨g1, g3⟩ := te_1 hw hc (arT_b h2)
            have w1 : lat (upto T.length (p + 1) (fun p => (te T p : Int)) 0) ((p : Int) + 1) = (te T p : Int) := by
              rw [g3, show (p : Int) + 1 = ((p + 1 : Nat) : Int) by omega]
              exact up_at (F := fun p => (te T p : Int)) (by omega) g1
            simp (disch := omega) only [s67_0, s67_1, s67_4, s67_5, s67_8, s67_9, s67_12, s67_13, s67_16, s67_17, s67_18, s67_20, s67_23, s67_24, s67_25, s67_28, s67_29, s67_30, s67_31, s67_34, s67_35, s67_38, s67_39, s67_40, s67_41, s67_42, s67_43, s67_44, s67_47, s67_50, s67_53, s67_56, s67_57, s67_60, s67_63, s67_64, s67_67, s67_68, s67_69, s67_70, s67_71, s67_72, s67_75, s67_78, s67_81, s67_82, s67_85, s67_86, s67_87, s67_88, s67_89, s67_92, s67_95, s67_98, List.cons_append, List.nil_append, if_true, if_false, true_and, and_true, and_self, eq_self, true_or, or_true, false_or, or_false, tIn, tLe, fLe, tLt, fLt, tEq, fEq, ht.1, c30 ht hk1, eT, q2, c117, isL, hb.1, hb.2.1.1, hb.2.1.2, c68 hb hk1, eE, w1, rE.1, c33 rE hk1, ust, eg]
            exact ih' _
          · have g3 := te_0 hw hc (arT_0 h1 h2)
            have w1 : (p : Int) + 1 = (te T p : Int) := by rw [g3]; omega
            simp (disch := omega) only [s67_0, s67_1, s67_4, s67_5, s67_8, s67_9, s67_12, s67_13, s67_16, s67_17, s67_18, s67_20, s67_23, s67_24, s67_25, s67_28, s67_29, s67_30, s67_31, s67_34, s67_35, s67_38, s67_39, s67_40, s67_41, s67_42, s67_43, s67_44, s67_47, s67_50, s67_53, s67_56, s67_57, s67_60, s67_63, s67_64, s67_67, s67_68, s67_69, s67_70, s67_71, s67_72, s67_75, s67_78, s67_81, s67_82, s67_85, s67_86, s67_87, s67_88, s67_89, s67_92, s67_95, s67_98, List.cons_append, List.nil_append, if_true, if_false, true_and, and_true, and_self, eq_self, true_or, or_true, false_or, or_false, tIn, tLe, fLe, tLt, fLt, tEq, fEq, ht.1, c30 ht hk1, eT, q2, c117, isL, hb.1, hb.2.1.1, hb.2.1.2, rE.1, c33 rE hk1, eE]
            rw [w1, ust, eg]
            exact ih' _
      exact ⟨body vU rfl, fun w => body (.inl w) rfl⟩
  exact (lp T.length (Nat.le_refl _)).1
end SP
