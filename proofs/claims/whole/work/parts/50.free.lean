/-! names that are free, how deep -/
def frT (n : Int) : Tm → Bool
  | .num c => decide (c = n)
  | .add a b => frT n a || frT n b
  | .mulL c a => !decide (c = 1000 + n) && frT n a
  | _ => false
def dpT : Tm → Nat
  | .num _ => 1
  | .add a b => 1 + max (dpT a) (dpT b)
  | .mulL _ a => 1 + dpT a
  | _ => 0
def flF : List Tm → List Int
  | [] => []
  | t :: ts => fl t ++ flF ts
theorem fl_ne {t : Tm} (h : wt t) {r : List Int} : fl t ++ r ≠ [] := by
  have h1 := fl_pos h
  intro e
  rw [(List.append_eq_nil_iff.mp e).1] at h1
  simp at h1
theorem drop_get {T l : List Int} {q : Nat} {c : Int} (e : T.drop q = c :: l) : ∃ h : q < T.length, T[q] = c ∧ T.drop (q + 1) = l := by
  have h1 := (At_cons (l := l) (r := []) (by simpa using e))
  obtain ⟨hp, h2⟩ := List.getElem?_eq_some_iff.mp h1.1
  exact ⟨hp, h2, by simpa using h1.2⟩
section FRE
variable {σ σ0 σ' : aSg} {K : List AV → aSg → Prop} {x y z i : Int} {S : SS} {T W st : List Int} {r q t a j b k : Nat}
theorem c150 (hm : tmM σ T) (hT : isT T) (hk : tks T) (hl : T.length ≤ 2200) {p : Nat} {u : Tm} (hu : AtT T p u) {n : Int} (hn : 97 ≤ n ∧ n ≤ 122) : CA m150 [.inr (.inl 130), .inl (p : Int), .inl n] σ K = K [.inl (if frT n u = true then 1 else 0)] σ := by
  refine CA_eq ?_
  rw [e150]
  have l0 := ln134
  have hp := At_lt hu
  have hte := At_te hu
  have hle := At_le hu
  obtain ⟨hwu, rr, er⟩ := id hu
  simp (disch := omega) only [s150_0, s150_1, s150_2, s150_5, s150_6, s150_7, s150_11, s150_12, s150_15, s150_16, s150_19, s150_21, s150_22, s150_23, s150_26, s150_27, s150_28, s150_29, s150_32, s150_34, s150_35, s150_38, s150_39, s150_40, s150_43, s150_44, s150_46, s150_49, s150_52, s150_54, s150_55, s150_56, s150_58, s150_61, s150_62, List.cons_append, List.nil_append, if_true, if_false, true_and, and_true, and_self, eq_self, true_or, or_true, false_or, or_false, tIn, tLe, fLe, tLt, fLt, tEq, fEq, isL, c149 hm hT hk hl hp]
  have lp : ∀ (m q : Nat) (ts : List Tm), (flF ts).length = m → (∀ v ∈ ts, wt v) → T.drop q = flF ts ++ rr → q + m = te T p → ts.any (frT n) = frT n u → WP m150 9 [.inr (.inl 130), .inl (p : Int), .inl n, .inl (te T p : Int), .inl (q : Int)] [] σ (fun v σ' => v = [.inl (if frT n u = true then 1 else 0)] ∧ σ' = σ) := by
    intro m
    induction m using Nat.strongRecOn with
    | ind m ih =>
      intro q ts hm1 hw hd hq ha
      cases ts with
      | nil =>
        simp only [flF, List.length_nil] at hm1
        rw [← ha]
        rw [s150_9]
        simp (disch := omega) only [s150_0, s150_1, s150_2, s150_5, s150_6, s150_7, s150_11, s150_12, s150_15, s150_16, s150_19, s150_21, s150_22, s150_23, s150_26, s150_27, s150_28, s150_29, s150_32, s150_34, s150_35, s150_38, s150_39, s150_40, s150_43, s150_44, s150_46, s150_49, s150_52, s150_54, s150_55, s150_56, s150_58, s150_61, s150_62, List.cons_append, List.nil_append, if_true, if_false, true_and, and_true, and_self, eq_self, true_or, or_true, false_or, or_false, tIn, tLe, fLe, tLt, fLt, tEq, fEq, isL]
        rfl
      | cons v ts =>
        have hv := hw v (List.mem_cons_self ..)
        have hw' : ∀ v ∈ ts, wt v := fun u hu => hw u (List.mem_cons_of_mem _ hu)
        have hpos := fl_pos hv
        simp only [flF, List.length_append] at hm1
        have A : AtT T q v := ⟨hv, flF ts ++ rr, by rw [hd]; simp [flF]⟩
        have hql := At_lt A
        have hc := hm.2 q _ (List.getElem?_eq_getElem hql)
        have tk := hk _ (List.getElem_mem hql)
        have tn := tau_nm tk hn
        have ti := tau_in tk
        have hq' : (q : Int) + 1 = ((q + 1 : Nat) : Int) := by omega
        cases v with
        | num c =>
          obtain ⟨g1, g2⟩ := At_num A
          obtain ⟨_, g3⟩ := List.getElem?_eq_some_iff.mp g1
          have g0 := arT_0' g2
          rw [g3] at hc tk tn ti
          simp only [fl, List.length_cons, List.length_nil] at hm1
          have hd' : T.drop (q + 1) = flF ts ++ rr := by
            have := (At_cons (T := T) (p := q) (c := c) (l := []) (r := flF ts ++ rr) (by rw [hd]; simp [flF, fl])).2
            simpa using this
          rw [s150_9]
          by_cases ge : c = n
          · have h1 : frT n u = true := by rw [← ha]; simp [frT, ge]
            have gt := tn.mpr ge
            rw [if_pos h1]
            simp (disch := omega) only [s150_0, s150_1, s150_2, s150_5, s150_6, s150_7, s150_11, s150_12, s150_15, s150_16, s150_19, s150_21, s150_22, s150_23, s150_26, s150_27, s150_28, s150_29, s150_32, s150_34, s150_35, s150_38, s150_39, s150_40, s150_43, s150_44, s150_46, s150_49, s150_52, s150_54, s150_55, s150_56, s150_58, s150_61, s150_62, List.cons_append, List.nil_append, if_true, if_false, true_and, and_true, and_self, eq_self, true_or, or_true, false_or, or_false, tIn, tLe, fLe, tLt, fLt, tEq, fEq, isL, kd134, ln134, Int.toNat_natCast, hc, gt]
          · have gt : ¬ tau c = n := fun h => ge (tn.mp h)
            have gb : ¬ tau c = 1000 + n := by
              intro h
              have := (tau_b tk).mp (by omega)
              exact g0.2 this
            simp (disch := omega) only [s150_0, s150_1, s150_2, s150_5, s150_6, s150_7, s150_11, s150_12, s150_15, s150_16, s150_19, s150_21, s150_22, s150_23, s150_26, s150_27, s150_28, s150_29, s150_32, s150_34, s150_35, s150_38, s150_39, s150_40, s150_43, s150_44, s150_46, s150_49, s150_52, s150_54, s150_55, s150_56, s150_58, s150_61, s150_62, List.cons_append, List.nil_append, if_true, if_false, true_and, and_true, and_self, eq_self, true_or, or_true, false_or, or_false, tIn, tLe, fLe, tLt, fLt, tEq, fEq, isL, kd134, ln134, Int.toNat_natCast, hc]
            rw [hq']
            exact ih (m - 1) (by omega) (q + 1) ts (by omega) hw' hd' (by omega) (by rw [← ha]; simp [frT, ge])
        | add a b =>
          obtain ⟨g1, A1, A2, e1⟩ := At_add A
          obtain ⟨_, g3⟩ := List.getElem?_eq_some_iff.mp g1
          rw [g3] at hc tk tn ti
          simp only [fl, List.length_cons, List.length_append] at hm1
          have hd' : T.drop (q + 1) = flF (a :: b :: ts) ++ rr := by
            have := (At_cons (T := T) (p := q) (c := 1) (l := fl a ++ fl b) (r := flF ts ++ rr) (by rw [hd]; simp [flF, fl])).2
            rw [this]; simp [flF]
          have z1 : tau 1 = 0 := rfl
          rw [z1] at hc
          rw [s150_9]
          simp (disch := omega) only [s150_0, s150_1, s150_2, s150_5, s150_6, s150_7, s150_11, s150_12, s150_15, s150_16, s150_19, s150_21, s150_22, s150_23, s150_26, s150_27, s150_28, s150_29, s150_32, s150_34, s150_35, s150_38, s150_39, s150_40, s150_43, s150_44, s150_46, s150_49, s150_52, s150_54, s150_55, s150_56, s150_58, s150_61, s150_62, List.cons_append, List.nil_append, if_true, if_false, true_and, and_true, and_self, eq_self, true_or, or_true, false_or, or_false, tIn, tLe, fLe, tLt, fLt, tEq, fEq, isL, kd134, ln134, Int.toNat_natCast, hc]
          rw [hq']
          refine ih (m - 1) (by omega) (q + 1) (a :: b :: ts) (by simp [flF]; omega) (fun w hw2 => ?_) hd' (by omega) (by rw [← ha]; simp [frT, Bool.or_assoc])
          rcases List.mem_cons.mp hw2 with rfl | hw2
          · exact A1.1
          rcases List.mem_cons.mp hw2 with rfl | hw2
          · exact A2.1
          exact hw' w hw2
        | mulL c a =>
          obtain ⟨g1, g2, A1⟩ := At_mul A
          obtain ⟨_, g3⟩ := List.getElem?_eq_some_iff.mp g1
          have g0 := arT_1' g2
          rw [g3] at hc tk tn ti
          simp only [fl, List.length_cons] at hm1
          have hd' : T.drop (q + 1) = flF (a :: ts) ++ rr := by
            have := (At_cons (T := T) (p := q) (c := c) (l := fl a) (r := flF ts ++ rr) (by rw [hd]; simp [flF, fl])).2
            rw [this]; simp [flF]
          have tb : tau c = c := tau_big (by omega)
          rw [tb] at hc
          rw [s150_9]
          by_cases ge : c = 1000 + n
          · have e2 : te T q = q + 1 + (fl a).length := by rw [At_te A]; simp [fl]; omega
            have hd2 : T.drop (te T q) = flF ts ++ rr := by
              rw [e2, ← List.drop_drop, hd', flF, List.append_assoc, List.drop_left]
            simp (disch := omega) only [s150_0, s150_1, s150_2, s150_5, s150_6, s150_7, s150_11, s150_12, s150_15, s150_16, s150_19, s150_21, s150_22, s150_23, s150_26, s150_27, s150_28, s150_29, s150_32, s150_34, s150_35, s150_38, s150_39, s150_40, s150_43, s150_44, s150_46, s150_49, s150_52, s150_54, s150_55, s150_56, s150_58, s150_61, s150_62, List.cons_append, List.nil_append, if_true, if_false, true_and, and_true, and_self, eq_self, true_or, or_true, false_or, or_false, tIn, tLe, fLe, tLt, fLt, tEq, fEq, isL, kd134, ln134, Int.toNat_natCast, hc, c149 hm hT hk hl hql]
            exact ih (m - 1 - (fl a).length) (by omega) (te T q) ts (by omega) hw' hd2 (by omega) (by rw [← ha]; simp [frT, ge])
          · simp (disch := omega) only [s150_0, s150_1, s150_2, s150_5, s150_6, s150_7, s150_11, s150_12, s150_15, s150_16, s150_19, s150_21, s150_22, s150_23, s150_26, s150_27, s150_28, s150_29, s150_32, s150_34, s150_35, s150_38, s150_39, s150_40, s150_43, s150_44, s150_46, s150_49, s150_52, s150_54, s150_55, s150_56, s150_58, s150_61, s150_62, List.cons_append, List.nil_append, if_true, if_false, true_and, and_true, and_self, eq_self, true_or, or_true, false_or, or_false, tIn, tLe, fLe, tLt, fLt, tEq, fEq, isL, kd134, ln134, Int.toNat_natCast, hc]
            rw [hq']
            refine ih (m - 1) (by omega) (q + 1) (a :: ts) (by simp [flF]; omega) (fun w hw2 => ?_) hd' (by omega) (by rw [← ha]; simp [frT, ge])
            rcases List.mem_cons.mp hw2 with rfl | hw2
            · exact A1.1
            exact hw' w hw2
        | var i => simp [wt] at hv
        | sub a b => simp [wt] at hv
        | neg a => simp [wt] at hv
        | mulR a d => simp [wt] at hv
  exact lp (fl u).length p [u] (by simp [flF]) (fun v hv => by rcases List.mem_singleton.mp hv with rfl; exact hwu) (by rw [er]; simp [flF]) (by omega) (by simp)
def vBt : Tm → BitVec 32
  | .num c => if 97 ≤ c ∧ c ≤ 122 then BitVec.twoPow 32 (c - 97).toNat else 0
  | .add a b => vBt a ||| vBt b
  | .mulL c a => vBt a &&& (BitVec.twoPow 32 (c - 1097).toNat ^^^ BitVec.allOnes 32)
  | _ => 0
def rBt (t : Tm) : Nat → BitVec 32
  | 0 => 0
  | k + 1 => rBt t k ||| (if frT (97 + (k : Int)) t = true then BitVec.twoPow 32 k else 0)
theorem bA_or (u v : BitVec 32) : bitA (· ||| ·) u.toInt v.toInt = (u ||| v).toInt := by
  show (Int32.ofInt u.toInt ||| Int32.ofInt v.toInt).toBitVec.toInt = _
  rw [Int32.toBitVec_or, Int32.toBitVec_ofInt, Int32.toBitVec_ofInt, BitVec.ofInt_toInt, BitVec.ofInt_toInt]
theorem bA_and (u v : BitVec 32) : bitA (· &&& ·) u.toInt v.toInt = (u &&& v).toInt := by
  show (Int32.ofInt u.toInt &&& Int32.ofInt v.toInt).toBitVec.toInt = _
  rw [Int32.toBitVec_and, Int32.toBitVec_ofInt, Int32.toBitVec_ofInt, BitVec.ofInt_toInt, BitVec.ofInt_toInt]
theorem bA_xor (u v : BitVec 32) : bitA (· ^^^ ·) u.toInt v.toInt = (u ^^^ v).toInt := by
  show (Int32.ofInt u.toInt ^^^ Int32.ofInt v.toInt).toBitVec.toInt = _
  rw [Int32.toBitVec_xor, Int32.toBitVec_ofInt, Int32.toBitVec_ofInt, BitVec.ofInt_toInt, BitVec.ofInt_toInt]
theorem tw_int : ∀ k : Nat, k < 26 → (1 : Int) * 2 ^ k = (BitVec.twoPow 32 k).toInt := by decide
theorem bv_in (v : BitVec 32) : -2147483648 ≤ v.toInt ∧ v.toInt ≤ 2147483647 := by
  have h1 := BitVec.le_toInt v
  have h2 := BitVec.toInt_lt (x := v)
  omega
theorem vBt_bit : ∀ t, wt t → tks (fl t) → ∀ j : Nat, (vBt t).getLsbD j = (decide (j < 26) && frT (97 + (j : Int)) t) := by
  apply wt_ind
  · intro c hc hk j
    have tk := hk c (by simp [fl])
    have h0 := arT_0' hc
    simp only [vBt, frT]
    by_cases g : 97 ≤ c ∧ c ≤ 122
    · rw [if_pos g, BitVec.getLsbD_twoPow]
      by_cases e : c = 97 + (j : Int)
      · have : (c - 97).toNat = j := by omega
        rw [this]; simp [e]; omega
      · have : (c - 97).toNat ≠ j := by omega
        simp [e, this]
    · rw [if_neg g]
      by_cases hj : j < 26
      · have : ¬ c = 97 + (j : Int) := by omega
        simp [this]
      · simp [hj]
  · intro a b _ _ iha ihb hk j
    simp only [vBt, frT, BitVec.getLsbD_or]
    rw [iha (fun c hc => hk c (by simp [fl, hc])) j, ihb (fun c hc => hk c (by simp [fl, hc])) j]
    cases decide (j < 26) <;> simp
  · intro c a hc _ iha hk j
    have tk := hk c (by simp [fl])
    have h0 := arT_1' hc
    have tr : 1097 ≤ c ∧ c ≤ 1122 := by unfold tok at tk; omega
    simp only [vBt, frT, BitVec.getLsbD_and, BitVec.getLsbD_xor, BitVec.getLsbD_twoPow, BitVec.getLsbD_allOnes]
    rw [iha (fun c hc => hk c (by simp [fl, hc])) j]
    by_cases hj : j < 26
    · by_cases e : c = 1000 + (97 + (j : Int))
      · have : (c - 1097).toNat = j := by omega
        have h32 : j < 32 := by omega
        rw [this]
        simp [e, hj, h32]
      · have : (c - 1097).toNat ≠ j := by omega
        have h32 : j < 32 := by omega
        simp [e, this, hj, h32]
    · simp [hj]
theorem rBt_bit (t : Tm) : ∀ (k : Nat), k ≤ 26 → ∀ j : Nat, (rBt t k).getLsbD j = (decide (j < k) && frT (97 + (j : Int)) t) := by
  intro k
  induction k with
  | zero => intro _ j; simp [rBt]
  | succ k ih =>
    intro hk j
    simp only [rBt, BitVec.getLsbD_or]
    rw [ih (by omega) j]
    by_cases e : j = k
    · subst e
      have h32 : j < 32 := by omega
      by_cases g : frT (97 + (j : Int)) t = true
      · simp [g, BitVec.getLsbD_twoPow, h32]
      · simp [g]
    · have h1 : decide (j < k + 1) = decide (j < k) := by
        by_cases h : j < k
        · simp [h]; omega
        · simp [h]; omega
      rw [h1]
      by_cases g : frT (97 + (k : Int)) t = true
      · rw [if_pos g, BitVec.getLsbD_twoPow]
        have : ¬ k = j := by omega
        simp [this]
      · rw [if_neg g]; simp
theorem vBt_r {t : Tm} (h : wt t) (hk : tks (fl t)) : vBt t = rBt t 26 := by
  apply BitVec.eq_of_getLsbD_eq
  intro j hj
  rw [vBt_bit t h hk, rBt_bit t 26 (by omega)]
theorem c195 (hm : tmM σ T) (hT : isT T) (hk : tks T) (hl : T.length ≤ 2200) {u : Tm} (hu : AtT T 0 u) : CA m195 [.inr (.inl 130)] σ K = K [.inl (rBt u 26).toInt] σ := by
  refine CA_eq ?_
  rw [e195]
  simp (disch := omega) only [s195_0, s195_1, s195_2, s195_4, s195_6, s195_8, s195_11, s195_12, s195_13, s195_14, s195_15, s195_18, s195_21, s195_22, s195_23, s195_25, s195_26, s195_27, s195_30, s195_31, s195_32, s195_33, s195_36, s195_39, s195_40, List.cons_append, List.nil_append, if_true, if_false, true_and, and_true, and_self, eq_self, true_or, or_true, false_or, or_false, tIn, tLe, fLe, tLt, fLt, tEq, fEq, isL]
  have lp : ∀ (m k : Nat), k + m = 26 → WP m195 5 [.inr (.inl 130), .inl (rBt u k).toInt, .inl (97 + (k : Int))] [] σ (fun v σ' => v = [.inl (rBt u 26).toInt] ∧ σ' = σ) := by
    intro m
    induction m with
    | zero =>
      intro k hk2
      have : k = 26 := by omega
      subst this
      rw [s195_5]
      simp (disch := omega) only [s195_0, s195_1, s195_2, s195_4, s195_6, s195_8, s195_11, s195_12, s195_13, s195_14, s195_15, s195_18, s195_21, s195_22, s195_23, s195_25, s195_26, s195_27, s195_30, s195_31, s195_32, s195_33, s195_36, s195_39, s195_40, List.cons_append, List.nil_append, if_true, if_false, true_and, and_true, and_self, eq_self, true_or, or_true, false_or, or_false, tIn, tLe, fLe, tLt, fLt, tEq, fEq, isL]
    | succ m ih =>
      intro k hk2
      have e0 : (0 : Int) = ((0 : Nat) : Int) := rfl
      have cc := fun K => c150 (K := K) hm hT hk hl hu (n := 97 + (k : Int)) (by omega)
      rw [← e0] at cc
      have e1 : (97 + (k : Int) - 97).toNat = k := by omega
      have e2 := tw_int k (by omega)
      have e3 : 97 + (k : Int) + 1 = 97 + ((k + 1 : Nat) : Int) := by omega
      have ih' := ih (k + 1) (by omega)
      have b1 := bv_in (rBt u k ||| BitVec.twoPow 32 k)
      have b2 := bv_in (rBt u k ||| 0)
      have b3 := bv_in (BitVec.twoPow 32 k)
      rw [s195_5]
      by_cases g : frT (97 + (k : Int)) u = true
      · simp only [rBt, if_pos g] at ih'
        simp (disch := omega) only [s195_0, s195_1, s195_2, s195_4, s195_6, s195_8, s195_11, s195_12, s195_13, s195_14, s195_15, s195_18, s195_21, s195_22, s195_23, s195_25, s195_26, s195_27, s195_30, s195_31, s195_32, s195_33, s195_36, s195_39, s195_40, List.cons_append, List.nil_append, if_true, if_false, true_and, and_true, and_self, eq_self, true_or, or_true, false_or, or_false, tIn, tLe, fLe, tLt, fLt, tEq, fEq, isL, cc, g, e1, e2, bA_or, e3]
        exact ih'
      · simp only [rBt, if_neg g] at ih'
        have ez : (0 : Int) = (0 : BitVec 32).toInt := by decide
        have bo := bA_or (rBt u k) 0
        rw [← ez] at bo
        simp (disch := omega) only [s195_0, s195_1, s195_2, s195_4, s195_6, s195_8, s195_11, s195_12, s195_13, s195_14, s195_15, s195_18, s195_21, s195_22, s195_23, s195_25, s195_26, s195_27, s195_30, s195_31, s195_32, s195_33, s195_36, s195_39, s195_40, List.cons_append, List.nil_append, if_true, if_false, true_and, and_true, and_self, eq_self, true_or, or_true, false_or, or_false, tIn, tLe, fLe, tLt, fLt, tEq, fEq, isL, cc, g, bo, e3]
        exact ih'
  have := lp 26 0 rfl
  simpa [rBt] using this
end FRE
