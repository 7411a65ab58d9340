/-! Taker: the component's side -/
def hoT (n : Int) : Tm → Bool
  | .num c => decide (c = n)
  | .add a b => hoT n a || hoT n b
  | _ => false
noncomputable def HO (T : List Int) (n : Int) : List Int := upto T.length 0 (fun j => if hoT n (trA T j) = true then 1 else 0) 0
abbrev En : Type := Bool × Nat × Tm
def enC (e : En) : Int := if e.1 = true then -1 - (e.2.1 : Int) else (e.2.1 : Int)
def ouT (n : Int) (e : En) : List Int := if e.1 = true then fl e.2.2 else fl (tkT n e.2.2)
def ouL (n : Int) : List En → List Int
  | [] => []
  | e :: es => ouT n e ++ ouL n es
def wtL : List En → Nat
  | [] => 0
  | e :: es => (fl e.2.2).length + wtL es
def vaE (T : List Int) (e : En) : Prop := AtT T e.2.1 e.2.2 ∧ noB e.2.2
def TKI (σ0 σ : aSg) (r : Nat) (T : List Int) (n : Int) (F : List Int) (es : List En) : Prop := RK σ ∧ rv σ r = T ∧ rv σ 67 = endsT T ∧ rv σ 71 = HO T n ∧ rv σ 73 = (es.map enC).reverse ∧ rv σ 75 = F ∧ ∀ a, (a < 65 ∨ 76 < a) → σ a = σ0 a
section TKC
variable {σ σ0 σ' : aSg} {K : List AV → aSg → Prop} {x y z i n : Int} {S : SS} {T W st F : List Int} {r q t a j b k p : Nat} {es : List En}
theorem ho_fr : ∀ t, wt t → noB t → hoT n t = frT n t := by
  apply nb_ind
  · intro c _; rfl
  · intro a b _ _ _ _ ha hb; simp only [hoT, frT, ha, hb]
theorem HO_at {u : Tm} (h : AtT T p u) (hb : noB u) : lat (HO T n) (p : Int) = if frT n u = true then 1 else 0 := by
  unfold HO
  rw [up_at (F := fun j => if hoT n (trA T j) = true then 1 else 0) (by omega) (At_lt h), trA_eq h, ho_fr u h.1 hb]
theorem bA_b (u v : Bool) : bitA (· ||| ·) (if u = true then 1 else 0) (if v = true then 1 else 0) = if (u || v) = true then 1 else 0 := by
  cases u <;> cases v <;> decide
theorem rpart_ok {l X : List Int} {x y : Nat} (h : isRow r) (hq1 : isRow q) (hrq : q ≠ r) (hk : RK σ) (hl : rv σ r = l) (ho : rv σ q = T) (he : (T.take y).drop x = X) (hc : l.length + X.length ≤ cp r) (hx : x ≤ 100000) (hy : y ≤ 100000) (Q : List AV → aSg → Prop) (hq : ∀ σ', RK σ' → rv σ' r = l ++ X → FrW r σ σ' → Q [] σ') : CA m39 [.inr (.inl r), .inr (.inl q), .inl (x : Int), .inl (y : Int)] σ Q := by
  rw [c39 h hq1 hrq hk (by omega) (by omega), hl, ho]
  have e : lpart (cp r) l T (x : Int) (y : Int) = l ++ X := by
    unfold lpart
    rw [Int.toNat_natCast, Int.toNat_natCast, he, List.take_of_length_le (by omega)]
  rw [e]
  exact hq _ (RK_rs hk h (by rw [List.length_append]; omega)) rv_rs (fun a h1 h2 => rs_at h1 h2)
theorem At_part {u : Tm} (h : AtT T p u) : (T.take (te T p)).drop p = fl u := by
  have := At_te h
  obtain ⟨h1, r, e1⟩ := h
  rw [List.drop_take, e1, this, Nat.add_sub_cancel_left, List.take_left]
theorem TKI_o {es' : List En} (h : TKI σ0 σ r T n F es) (hr : isRow r) (hr2 : r < 65) (hk : RK σ') (hw : rv σ' 73 = (es'.map enC).reverse) (hf : FrW 73 σ σ') : TKI σ0 σ' r T n F es' := by
  obtain ⟨h1, h2, h3, h4, h5, h6, h7⟩ := h
  exact ⟨hk, (FrW_rv hf row73 hr (by omega)).trans h2, (FrW_rv hf row73 row67 (by omega)).trans h3, (FrW_rv hf row73 row71 (by omega)).trans h4, hw, (FrW_rv hf row73 row75 (by omega)).trans h6, fun a ha => (hf a (by omega) (by omega)).trans (h7 a ha)⟩
theorem TKI_f {F' : List Int} (h : TKI σ0 σ r T n F es) (hr : isRow r) (hr2 : r < 65) (hk : RK σ') (hw : rv σ' 75 = F') (hf : FrW 75 σ σ') : TKI σ0 σ' r T n F' es := by
  obtain ⟨h1, h2, h3, h4, h5, h6, h7⟩ := h
  exact ⟨hk, (FrW_rv hf row75 hr (by omega)).trans h2, (FrW_rv hf row75 row67 (by omega)).trans h3, (FrW_rv hf row75 row71 (by omega)).trans h4, (FrW_rv hf row75 row73 (by omega)).trans h5, hw, fun a ha => (hf a (by omega) (by omega)).trans (h7 a ha)⟩
theorem wr78 (hr : isRow r) (hr2 : r < 65) (hk : RK σ) (hv : rv σ r = T) (he : rv σ 67 = endsT T) (hT : isT T) (hkT : tks T) (hl : T.length ≤ 1032) (hn : 97 ≤ n ∧ n ≤ 122) (Q : List AV → aSg → Prop) (hq : ∀ σ', RK σ' → rv σ' 71 = HO T n → FrW 71 σ σ' → Q [] σ') : CA m78 [.inr (.inl 65), .inr (.inl r), .inl n] σ Q := by
  rw [e78]
  have hc := cp71
  simp (disch := omega) only [s78_0, s78_1, s78_4, s78_5, s78_8, s78_9, s78_12, s78_13, s78_16, s78_17, s78_18, s78_20, s78_23, s78_24, s78_25, s78_28, s78_30, s78_32, s78_33, s78_36, s78_37, s78_40, s78_41, s78_42, s78_45, s78_46, s78_47, s78_48, s78_51, s78_52, s78_55, s78_56, s78_59, s78_60, s78_61, s78_62, s78_65, s78_68, s78_69, s78_72, s78_75, s78_77, s78_78, s78_81, s78_82, s78_85, s78_86, s78_87, s78_90, s78_93, s78_96, List.cons_append, List.nil_append, if_true, if_false, true_and, and_true, and_self, eq_self, true_or, or_true, false_or, or_false, tIn, tLe, fLe, tLt, fLt, tEq, fEq, isL, hr.1, c28 hr hk, hv, row71.1, c37 row71 hk, Int.toNat_natCast]
  rw [Nat.min_eq_left (by omega), ← up_top T.length (fun j => if hoT n (trA T j) = true then 1 else 0) 0]
  have I : ∀ p σ1, σ1 = rs σ 71 (upto T.length p (fun j => if hoT n (trA T j) = true then 1 else 0) 0) → RK σ1 ∧ rv σ1 r = T ∧ rv σ1 67 = endsT T ∧ rv σ1 71 = upto T.length p (fun j => if hoT n (trA T j) = true then 1 else 0) 0 ∧ FrW 71 σ σ1 := by
    intro p σ1 h
    subst h
    exact ⟨RK_rs hk row71 (by rw [up_len]; omega), by rw [rv_ne row71 hr (by omega)]; exact hv, by rw [rv_ne row71 row67 (by omega)]; exact he, rv_rs, fun a h1 h2 => rs_at h1 h2⟩
  have lp : ∀ (p : Nat) (l4 : AV), p ≤ T.length → WP m78 19 [.inr (.inl 65), .inr (.inl r), .inl n, .inl ((p : Int) - 1), l4] [] (rs σ 71 (upto T.length p (fun j => if hoT n (trA T j) = true then 1 else 0) 0)) Q := by
    intro p
    induction p with
    | zero =>
      intro l4 hp
      obtain ⟨k1, v1, v2, v3, f1⟩ := I 0 _ rfl
      rw [s78_19]
      simp (disch := omega) only [s78_0, s78_1, s78_4, s78_5, s78_8, s78_9, s78_12, s78_13, s78_16, s78_17, s78_18, s78_20, s78_23, s78_24, s78_25, s78_28, s78_30, s78_32, s78_33, s78_36, s78_37, s78_40, s78_41, s78_42, s78_45, s78_46, s78_47, s78_48, s78_51, s78_52, s78_55, s78_56, s78_59, s78_60, s78_61, s78_62, s78_65, s78_68, s78_69, s78_72, s78_75, s78_77, s78_78, s78_81, s78_82, s78_85, s78_86, s78_87, s78_90, s78_93, s78_96, List.cons_append, List.nil_append, if_true, if_false, true_and, and_true, and_self, eq_self, true_or, or_true, false_or, or_false, tIn, tLe, fLe, tLt, fLt, tEq, fEq, isL]
      exact hq _ k1 v3 f1
    | succ p ih =>
      intro l4 hp
      have hpl : p < T.length := by omega
      have eg : rs (rs σ 71 (upto T.length (p + 1) (fun j => if hoT n (trA T j) = true then 1 else 0) 0)) 71 (upto T.length p (fun j => if hoT n (trA T j) = true then 1 else 0) 0) = rs σ 71 (upto T.length p (fun j => if hoT n (trA T j) = true then 1 else 0) 0) := rs_grow (by rw [up_len, up_len]; omega)
      obtain ⟨σ1, hσ1⟩ : ∃ z, z = rs σ 71 (upto T.length (p + 1) (fun j => if hoT n (trA T j) = true then 1 else 0) 0) := ⟨_, rfl⟩
      obtain ⟨k1, v1, v2, v3, f1⟩ := I (p + 1) σ1 hσ1
      obtain ⟨v, A⟩ := At_ex hT hpl
      have q1 : ((p + 1 : Nat) : Int) - 1 = (p : Int) := by omega
      have ep : (p : Int) + 1 = ((p + 1 : Nat) : Int) := by omega
      have el := lat_i2 hpl
      have ust : lset (upto T.length (p + 1) (fun j => if hoT n (trA T j) = true then 1 else 0) 0) (p : Int) (if hoT n (trA T p) = true then 1 else 0) = upto T.length p (fun j => if hoT n (trA T j) = true then 1 else 0) 0 := up_set (F := fun j => if hoT n (trA T j) = true then 1 else 0) hpl
      have usk := up_skip (n := T.length) (p := p) (F := fun j => if hoT n (trA T j) = true then 1 else 0) (d := 0)
      rw [trA_eq A] at ust usk
      have vs : ∀ (j : Nat) (w : Tm), p < j → AtT T j w → lat (upto T.length (p + 1) (fun j => if hoT n (trA T j) = true then 1 else 0) 0) (j : Int) = if hoT n w = true then 1 else 0 := fun j w h1 h2 => by rw [up_at (F := fun j => if hoT n (trA T j) = true then 1 else 0) (by omega) (At_lt h2), trA_eq h2]
      obtain ⟨hw, -⟩ := id A
      rw [← hσ1] at eg ⊢
      rw [s78_19]
      cases v with
      | num d =>
        obtain ⟨g1, g2⟩ := At_num A
        obtain ⟨_, g3⟩ := List.getElem?_eq_some_iff.mp g1
        have g0 := arT_0' g2
        by_cases ge : d = n
        · have h1 : hoT n (.num d) = true := by simp [hoT, ge]
          rw [if_pos h1] at ust
          simp (disch := omega) only [s78_0, s78_1, s78_4, s78_5, s78_8, s78_9, s78_12, s78_13, s78_16, s78_17, s78_18, s78_20, s78_23, s78_24, s78_25, s78_28, s78_30, s78_32, s78_33, s78_36, s78_37, s78_40, s78_41, s78_42, s78_45, s78_46, s78_47, s78_48, s78_51, s78_52, s78_55, s78_56, s78_59, s78_60, s78_61, s78_62, s78_65, s78_68, s78_69, s78_72, s78_75, s78_77, s78_78, s78_81, s78_82, s78_85, s78_86, s78_87, s78_90, s78_93, s78_96, List.cons_append, List.nil_append, if_true, if_false, true_and, and_true, and_self, eq_self, true_or, or_true, false_or, or_false, tIn, tLe, fLe, tLt, fLt, tEq, fEq, isL, q1, hr.1, c30 hr k1, v1, el, g3, row71.1, c33 row71 k1, v3, ust, eg]
          exact ih _ (by omega)
        · have h1 : ¬ hoT n (.num d) = true := by simp [hoT, ge]
          have s1 := usk (if_neg h1)
          have ih' := ih
          rw [← s1, ← hσ1] at ih'
          simp (disch := omega) only [s78_0, s78_1, s78_4, s78_5, s78_8, s78_9, s78_12, s78_13, s78_16, s78_17, s78_18, s78_20, s78_23, s78_24, s78_25, s78_28, s78_30, s78_32, s78_33, s78_36, s78_37, s78_40, s78_41, s78_42, s78_45, s78_46, s78_47, s78_48, s78_51, s78_52, s78_55, s78_56, s78_59, s78_60, s78_61, s78_62, s78_65, s78_68, s78_69, s78_72, s78_75, s78_77, s78_78, s78_81, s78_82, s78_85, s78_86, s78_87, s78_90, s78_93, s78_96, List.cons_append, List.nil_append, if_true, if_false, true_and, and_true, and_self, eq_self, true_or, or_true, false_or, or_false, tIn, tLe, fLe, tLt, fLt, tEq, fEq, isL, q1, hr.1, c30 hr k1, v1, el, g3]
          exact ih' _ (by omega)
      | add u w =>
        obtain ⟨g1, A1, A2, e1⟩ := At_add A
        obtain ⟨_, g3⟩ := List.getElem?_eq_some_iff.mp g1
        have w1 := vs (p + 1) u (by omega) A1
        have w2 := vs (te T (p + 1)) w (by omega) A2
        have q3 := endsT_at (T := T) (At_lt A1)
        have tl := At_lt A2
        have bi : -2147483648 ≤ (if (hoT n u || hoT n w) = true then (1 : Int) else 0) ∧ (if (hoT n u || hoT n w) = true then (1 : Int) else 0) ≤ 2147483647 := by split <;> omega
        simp (disch := omega) only [s78_0, s78_1, s78_4, s78_5, s78_8, s78_9, s78_12, s78_13, s78_16, s78_17, s78_18, s78_20, s78_23, s78_24, s78_25, s78_28, s78_30, s78_32, s78_33, s78_36, s78_37, s78_40, s78_41, s78_42, s78_45, s78_46, s78_47, s78_48, s78_51, s78_52, s78_55, s78_56, s78_59, s78_60, s78_61, s78_62, s78_65, s78_68, s78_69, s78_72, s78_75, s78_77, s78_78, s78_81, s78_82, s78_85, s78_86, s78_87, s78_90, s78_93, s78_96, List.cons_append, List.nil_append, if_true, if_false, true_and, and_true, and_self, eq_self, true_or, or_true, false_or, or_false, tIn, tLe, fLe, tLt, fLt, tEq, fEq, isL, q1, hr.1, c30 hr k1, v1, el, g3, row71.1, c30 row71 k1, ep, v3, w1, oS66, c68 sp66 k1, v2, q3, w2, bA_b, c33 row71 k1]
        rw [show (if (hoT n u || hoT n w) = true then (1 : Int) else 0) = (if hoT n (.add u w) = true then 1 else 0) from rfl, ust, eg]
        exact ih _ (by omega)
      | mulL d u =>
        obtain ⟨g1, g2, A1⟩ := At_mul A
        obtain ⟨_, g3⟩ := List.getElem?_eq_some_iff.mp g1
        have g0 := arT_1' g2
        have s1 := usk rfl
        have ih' := ih
        rw [← s1, ← hσ1] at ih'
        simp (disch := omega) only [s78_0, s78_1, s78_4, s78_5, s78_8, s78_9, s78_12, s78_13, s78_16, s78_17, s78_18, s78_20, s78_23, s78_24, s78_25, s78_28, s78_30, s78_32, s78_33, s78_36, s78_37, s78_40, s78_41, s78_42, s78_45, s78_46, s78_47, s78_48, s78_51, s78_52, s78_55, s78_56, s78_59, s78_60, s78_61, s78_62, s78_65, s78_68, s78_69, s78_72, s78_75, s78_77, s78_78, s78_81, s78_82, s78_85, s78_86, s78_87, s78_90, s78_93, s78_96, List.cons_append, List.nil_append, if_true, if_false, true_and, and_true, and_self, eq_self, true_or, or_true, false_or, or_false, tIn, tLe, fLe, tLt, fLt, tEq, fEq, isL, q1, hr.1, c30 hr k1, v1, el, g3]
        exact ih' _ (by omega)
      | var i => simp [wt] at hw
      | sub a b => simp [wt] at hw
      | neg a => simp [wt] at hw
      | mulR a d => simp [wt] at hw
  obtain ⟨k1, v1, -⟩ := I T.length _ rfl
  simp (disch := omega) only [s78_0, s78_1, s78_4, s78_5, s78_8, s78_9, s78_12, s78_13, s78_16, s78_17, s78_18, s78_20, s78_23, s78_24, s78_25, s78_28, s78_30, s78_32, s78_33, s78_36, s78_37, s78_40, s78_41, s78_42, s78_45, s78_46, s78_47, s78_48, s78_51, s78_52, s78_55, s78_56, s78_59, s78_60, s78_61, s78_62, s78_65, s78_68, s78_69, s78_72, s78_75, s78_77, s78_78, s78_81, s78_82, s78_85, s78_86, s78_87, s78_90, s78_93, s78_96, List.cons_append, List.nil_append, if_true, if_false, true_and, and_true, and_self, eq_self, true_or, or_true, false_or, or_false, tIn, tLe, fLe, tLt, fLt, tEq, fEq, isL, hr.1, c28 hr k1, v1]
  exact lp T.length _ (Nat.le_refl _)
theorem hd_nm {u : Tm} (hn : 97 ≤ n ∧ n ≤ 122) (h : AtT T p u) {hp : p < T.length} : T[p] = n ↔ fl u = [n] := by
  have hw := h.1
  cases u with
  | num c =>
    obtain ⟨g1, g2⟩ := At_num h
    obtain ⟨_, g3⟩ := List.getElem?_eq_some_iff.mp g1
    rw [g3]; simp [fl]
  | add a b =>
    obtain ⟨g1, -⟩ := At_add h
    obtain ⟨_, g3⟩ := List.getElem?_eq_some_iff.mp g1
    rw [g3]
    simp only [fl, List.cons.injEq]
    constructor
    · intro h; omega
    · intro h; omega
  | mulL c a =>
    obtain ⟨g1, g2, -⟩ := At_mul h
    obtain ⟨_, g3⟩ := List.getElem?_eq_some_iff.mp g1
    have g0 := arT_1' g2
    rw [g3]
    simp only [fl, List.cons.injEq]
    constructor
    · intro h; omega
    · intro h; omega
  | var i => simp [wt] at hw
  | sub a b => simp [wt] at hw
  | neg a => simp [wt] at hw
  | mulR a d => simp [wt] at hw
theorem ouL_app (n : Int) : ∀ l m : List En, ouL n (l ++ m) = ouL n l ++ ouL n m := by
  intro l m
  induction l with
  | nil => rfl
  | cons e l ih => simp only [List.cons_append, ouL, ih, List.append_assoc]
theorem wtL_app : ∀ l m : List En, wtL (l ++ m) = wtL l + wtL m := by
  intro l m
  induction l with
  | nil => simp [wtL]
  | cons e l ih => simp only [List.cons_append, wtL, ih]; omega
theorem wtL_len : ∀ l : List En, (∀ e ∈ l, vaE T e) → l.length ≤ wtL l := by
  intro l
  induction l with
  | nil => intro _; simp [wtL]
  | cons e l ih =>
    intro h
    have := fl_pos (h e (List.mem_cons_self ..)).1.1
    have := ih (fun u hu => h u (List.mem_cons_of_mem _ hu))
    simp only [wtL, List.length_cons]
    omega
theorem wr77 (h : TKI σ0 σ r T n F es) (hr : isRow r) (hr2 : r < 65) (hT : isT T) (hkT : tks T) (hl : T.length ≤ 1000) (hn : 97 ≤ n ∧ n ≤ 122) {u : Tm} (A : AtT T p u) (nb : noB u) (hF : F.length + (fl (tkT n u)).length ≤ 1032) (hs : es.length + 2 ≤ 1032) (Q : List AV → aSg → Prop) (hq : ∀ (σ' : aSg) (pre : List Int) (nw : List En), TKI σ0 σ' r T n (F ++ pre) (nw ++ es) → pre ++ ouL n nw = fl (tkT n u) → (∀ e ∈ nw, vaE T e) → wtL nw + 1 ≤ (fl u).length → Q [] σ') : CA m77 [.inr (.inl 65), .inr (.inl r), .inl (p : Int), .inl n] σ Q := by
  rw [e77]
  obtain ⟨h1, h2, h3, h4, h5, h6, h7⟩ := id h
  have hpl := At_lt A
  have hte := At_te A
  have hle := At_le A
  have el := lat_i2 hpl
  have hh := HO_at (n := n) A nb
  have hd := hd_nm (hp := hpl) hn A
  have hw := A.1
  have e1 := endsT_at (T := T) hpl
  have pu := fl_pos hw
  have c75 := cp75
  have c73 := cp73
  -- what has not the name
  have kk : tkT n u = .add (.num 75) u → ¬ T[p] = n → frT n u = false → WP m77 0 [.inr (.inl 65), .inr (.inl r), .inl (p : Int), .inl n, vU, vU, vU, vU] [] σ Q := by
    intro e0 e2 e3
    rw [e0] at hF hq
    simp only [fl, List.length_cons, List.length_append, List.length_nil] at hF
    rw [e3] at hh
    simp (disch := omega) only [s77_0, s77_1, s77_2, s77_5, s77_6, s77_9, s77_10, s77_13, s77_15, s77_18, s77_19, s77_20, s77_23, s77_24, s77_27, s77_30, s77_31, s77_34, s77_35, s77_38, s77_39, s77_42, s77_44, s77_47, s77_48, s77_51, s77_52, s77_53, s77_54, s77_57, s77_58, s77_61, s77_64, s77_65, s77_66, s77_67, s77_68, s77_70, s77_71, s77_74, s77_76, s77_79, s77_81, s77_82, s77_85, s77_87, s77_90, s77_91, s77_94, s77_95, s77_98, s77_99, s77_101, s77_102, s77_105, s77_107, s77_110, s77_111, s77_114, s77_115, s77_118, s77_119, s77_121, s77_123, s77_126, s77_127, s77_129, s77_132, s77_133, s77_136, s77_137, s77_140, s77_141, s77_143, s77_145, s77_148, s77_149, s77_150, s77_153, s77_154, s77_157, s77_158, s77_161, s77_162, s77_165, s77_166, s77_169, s77_171, s77_174, s77_176, s77_179, s77_181, s77_184, s77_186, s77_189, s77_191, s77_194, s77_196, s77_199, s77_200, s77_203, s77_205, s77_208, s77_210, s77_213, s77_214, s77_216, s77_217, s77_220, s77_221, s77_224, s77_226, s77_229, s77_231, s77_234, s77_235, s77_237, s77_238, s77_241, List.cons_append, List.nil_append, if_true, if_false, true_and, and_true, and_self, eq_self, true_or, or_true, false_or, or_false, tIn, tLe, fLe, tLt, fLt, tEq, fEq, isL, hr.1, c30 hr h1, h2, el, row71.1, c30 row71 h1, h4, hh, row75.1]
    refine radd_ok row75 h1 h6 (by omega) _ (fun σ1 k1 w1 f1 => ?_)
    have i1 := TKI_f h hr hr2 k1 w1 f1
    simp (disch := omega) only [s77_0, s77_1, s77_2, s77_5, s77_6, s77_9, s77_10, s77_13, s77_15, s77_18, s77_19, s77_20, s77_23, s77_24, s77_27, s77_30, s77_31, s77_34, s77_35, s77_38, s77_39, s77_42, s77_44, s77_47, s77_48, s77_51, s77_52, s77_53, s77_54, s77_57, s77_58, s77_61, s77_64, s77_65, s77_66, s77_67, s77_68, s77_70, s77_71, s77_74, s77_76, s77_79, s77_81, s77_82, s77_85, s77_87, s77_90, s77_91, s77_94, s77_95, s77_98, s77_99, s77_101, s77_102, s77_105, s77_107, s77_110, s77_111, s77_114, s77_115, s77_118, s77_119, s77_121, s77_123, s77_126, s77_127, s77_129, s77_132, s77_133, s77_136, s77_137, s77_140, s77_141, s77_143, s77_145, s77_148, s77_149, s77_150, s77_153, s77_154, s77_157, s77_158, s77_161, s77_162, s77_165, s77_166, s77_169, s77_171, s77_174, s77_176, s77_179, s77_181, s77_184, s77_186, s77_189, s77_191, s77_194, s77_196, s77_199, s77_200, s77_203, s77_205, s77_208, s77_210, s77_213, s77_214, s77_216, s77_217, s77_220, s77_221, s77_224, s77_226, s77_229, s77_231, s77_234, s77_235, s77_237, s77_238, s77_241, List.cons_append, List.nil_append, if_true, if_false, true_and, and_true, and_self, eq_self, true_or, or_true, false_or, or_false, tIn, tLe, fLe, tLt, fLt, tEq, fEq, isL, row75.1]
    refine radd_ok row75 k1 w1 (by simp; omega) _ (fun σ2 k2 w2 f2 => ?_)
    have i2 := TKI_f i1 hr hr2 k2 w2 f2
    simp (disch := omega) only [s77_0, s77_1, s77_2, s77_5, s77_6, s77_9, s77_10, s77_13, s77_15, s77_18, s77_19, s77_20, s77_23, s77_24, s77_27, s77_30, s77_31, s77_34, s77_35, s77_38, s77_39, s77_42, s77_44, s77_47, s77_48, s77_51, s77_52, s77_53, s77_54, s77_57, s77_58, s77_61, s77_64, s77_65, s77_66, s77_67, s77_68, s77_70, s77_71, s77_74, s77_76, s77_79, s77_81, s77_82, s77_85, s77_87, s77_90, s77_91, s77_94, s77_95, s77_98, s77_99, s77_101, s77_102, s77_105, s77_107, s77_110, s77_111, s77_114, s77_115, s77_118, s77_119, s77_121, s77_123, s77_126, s77_127, s77_129, s77_132, s77_133, s77_136, s77_137, s77_140, s77_141, s77_143, s77_145, s77_148, s77_149, s77_150, s77_153, s77_154, s77_157, s77_158, s77_161, s77_162, s77_165, s77_166, s77_169, s77_171, s77_174, s77_176, s77_179, s77_181, s77_184, s77_186, s77_189, s77_191, s77_194, s77_196, s77_199, s77_200, s77_203, s77_205, s77_208, s77_210, s77_213, s77_214, s77_216, s77_217, s77_220, s77_221, s77_224, s77_226, s77_229, s77_231, s77_234, s77_235, s77_237, s77_238, s77_241, List.cons_append, List.nil_append, if_true, if_false, true_and, and_true, and_self, eq_self, true_or, or_true, false_or, or_false, tIn, tLe, fLe, tLt, fLt, tEq, fEq, isL, row75.1, oS66, c68 sp66 k2, i2.2.2.1, e1, hr.1]
    refine rpart_ok row75 hr (by omega) k2 w2 i2.2.1 (At_part A) (by simp; omega) (by omega) (by omega) _ (fun σ3 k3 w3 f3 => ?_)
    have i3 := TKI_f i2 hr hr2 k3 w3 f3
    simp (disch := omega) only [s77_0, s77_1, s77_2, s77_5, s77_6, s77_9, s77_10, s77_13, s77_15, s77_18, s77_19, s77_20, s77_23, s77_24, s77_27, s77_30, s77_31, s77_34, s77_35, s77_38, s77_39, s77_42, s77_44, s77_47, s77_48, s77_51, s77_52, s77_53, s77_54, s77_57, s77_58, s77_61, s77_64, s77_65, s77_66, s77_67, s77_68, s77_70, s77_71, s77_74, s77_76, s77_79, s77_81, s77_82, s77_85, s77_87, s77_90, s77_91, s77_94, s77_95, s77_98, s77_99, s77_101, s77_102, s77_105, s77_107, s77_110, s77_111, s77_114, s77_115, s77_118, s77_119, s77_121, s77_123, s77_126, s77_127, s77_129, s77_132, s77_133, s77_136, s77_137, s77_140, s77_141, s77_143, s77_145, s77_148, s77_149, s77_150, s77_153, s77_154, s77_157, s77_158, s77_161, s77_162, s77_165, s77_166, s77_169, s77_171, s77_174, s77_176, s77_179, s77_181, s77_184, s77_186, s77_189, s77_191, s77_194, s77_196, s77_199, s77_200, s77_203, s77_205, s77_208, s77_210, s77_213, s77_214, s77_216, s77_217, s77_220, s77_221, s77_224, s77_226, s77_229, s77_231, s77_234, s77_235, s77_237, s77_238, s77_241, List.cons_append, List.nil_append, if_true, if_false, true_and, and_true, and_self, eq_self, true_or, or_true, false_or, or_false, tIn, tLe, fLe, tLt, fLt, tEq, fEq, isL]
    exact hq σ3 (1 :: 75 :: fl u) [] (by simpa using i3) (by simp [ouL, fl]) (fun e he => by simp at he) (by simp [wtL]; omega)
  cases u with
  | num c =>
    by_cases ge : T[p] = n
    · have : c = n := by have := hd.mp ge; simpa [fl] using this
      have e0 : tkT n (.num c) = .num 73 := by simp [tkT, this]
      rw [e0] at hF hq
      simp only [fl, List.length_cons, List.length_nil] at hF
      simp (disch := omega) only [s77_0, s77_1, s77_2, s77_5, s77_6, s77_9, s77_10, s77_13, s77_15, s77_18, s77_19, s77_20, s77_23, s77_24, s77_27, s77_30, s77_31, s77_34, s77_35, s77_38, s77_39, s77_42, s77_44, s77_47, s77_48, s77_51, s77_52, s77_53, s77_54, s77_57, s77_58, s77_61, s77_64, s77_65, s77_66, s77_67, s77_68, s77_70, s77_71, s77_74, s77_76, s77_79, s77_81, s77_82, s77_85, s77_87, s77_90, s77_91, s77_94, s77_95, s77_98, s77_99, s77_101, s77_102, s77_105, s77_107, s77_110, s77_111, s77_114, s77_115, s77_118, s77_119, s77_121, s77_123, s77_126, s77_127, s77_129, s77_132, s77_133, s77_136, s77_137, s77_140, s77_141, s77_143, s77_145, s77_148, s77_149, s77_150, s77_153, s77_154, s77_157, s77_158, s77_161, s77_162, s77_165, s77_166, s77_169, s77_171, s77_174, s77_176, s77_179, s77_181, s77_184, s77_186, s77_189, s77_191, s77_194, s77_196, s77_199, s77_200, s77_203, s77_205, s77_208, s77_210, s77_213, s77_214, s77_216, s77_217, s77_220, s77_221, s77_224, s77_226, s77_229, s77_231, s77_234, s77_235, s77_237, s77_238, s77_241, List.cons_append, List.nil_append, if_true, if_false, true_and, and_true, and_self, eq_self, true_or, or_true, false_or, or_false, tIn, tLe, fLe, tLt, fLt, tEq, fEq, isL, hr.1, c30 hr h1, h2, el, row75.1]
      refine radd_ok row75 h1 h6 (by omega) _ (fun σ1 k1 w1 f1 => ?_)
      have i1 := TKI_f h hr hr2 k1 w1 f1
      simp (disch := omega) only [s77_0, s77_1, s77_2, s77_5, s77_6, s77_9, s77_10, s77_13, s77_15, s77_18, s77_19, s77_20, s77_23, s77_24, s77_27, s77_30, s77_31, s77_34, s77_35, s77_38, s77_39, s77_42, s77_44, s77_47, s77_48, s77_51, s77_52, s77_53, s77_54, s77_57, s77_58, s77_61, s77_64, s77_65, s77_66, s77_67, s77_68, s77_70, s77_71, s77_74, s77_76, s77_79, s77_81, s77_82, s77_85, s77_87, s77_90, s77_91, s77_94, s77_95, s77_98, s77_99, s77_101, s77_102, s77_105, s77_107, s77_110, s77_111, s77_114, s77_115, s77_118, s77_119, s77_121, s77_123, s77_126, s77_127, s77_129, s77_132, s77_133, s77_136, s77_137, s77_140, s77_141, s77_143, s77_145, s77_148, s77_149, s77_150, s77_153, s77_154, s77_157, s77_158, s77_161, s77_162, s77_165, s77_166, s77_169, s77_171, s77_174, s77_176, s77_179, s77_181, s77_184, s77_186, s77_189, s77_191, s77_194, s77_196, s77_199, s77_200, s77_203, s77_205, s77_208, s77_210, s77_213, s77_214, s77_216, s77_217, s77_220, s77_221, s77_224, s77_226, s77_229, s77_231, s77_234, s77_235, s77_237, s77_238, s77_241, List.cons_append, List.nil_append, if_true, if_false, true_and, and_true, and_self, eq_self, true_or, or_true, false_or, or_false, tIn, tLe, fLe, tLt, fLt, tEq, fEq, isL]
      exact hq σ1 [73] [] i1 (by simp [ouL, fl]) (fun e he => by simp at he) (by simp [wtL, fl])
    · have g : ¬ c = n := fun z => ge (hd.mpr (by simp [fl, z]))
      exact kk (by simp [tkT, g]) ge (by simp [frT, g])
  | add a b =>
    obtain ⟨g1, A1, A2, e2⟩ := At_add A
    obtain ⟨_, g3⟩ := List.getElem?_eq_some_iff.mp g1
    have ge : ¬ T[p] = n := by rw [g3]; omega
    by_cases g0 : frT n (.add a b) = false
    · exact kk (by simp only [tkT]; rw [if_pos g0]) ge g0
    · have g0' : frT n (.add a b) = true := by simpa using g0
      obtain ⟨na, nb'⟩ := noB_add nb
      have h1l := At_lt A1
      have h2l := At_lt A2
      have ha := HO_at (n := n) A1 na
      have hb := HO_at (n := n) A2 nb'
      have ep : (p : Int) + 1 = ((p + 1 : Nat) : Int) := by omega
      have e4 := endsT_at (T := T) h1l
      have el2 := lat_i2 h2l
      have hd2 := hd_nm (hp := h2l) hn A2
      have pa := fl_pos A1.1
      have pb := fl_pos A2.1
      simp only [fl, List.length_cons, List.length_append] at hle
      rw [g0'] at hh
      by_cases g2 : frT n a = false ∧ fl b = [n]
      · have e0 : tkT n (.add a b) = a := by simp only [tkT]; rw [if_neg g0, if_pos g2]
        rw [e0] at hF hq
        have g5 := hd2.mpr g2.2
        rw [g2.1] at ha
        have hb2 : (if frT n b = true then (1 : Int) else 0) = 1 := by
          rw [if_pos]
          simp only [frT, g2.1, Bool.false_or] at g0'
          exact g0'
        rw [hb2] at hb
        simp (disch := omega) only [s77_0, s77_1, s77_2, s77_5, s77_6, s77_9, s77_10, s77_13, s77_15, s77_18, s77_19, s77_20, s77_23, s77_24, s77_27, s77_30, s77_31, s77_34, s77_35, s77_38, s77_39, s77_42, s77_44, s77_47, s77_48, s77_51, s77_52, s77_53, s77_54, s77_57, s77_58, s77_61, s77_64, s77_65, s77_66, s77_67, s77_68, s77_70, s77_71, s77_74, s77_76, s77_79, s77_81, s77_82, s77_85, s77_87, s77_90, s77_91, s77_94, s77_95, s77_98, s77_99, s77_101, s77_102, s77_105, s77_107, s77_110, s77_111, s77_114, s77_115, s77_118, s77_119, s77_121, s77_123, s77_126, s77_127, s77_129, s77_132, s77_133, s77_136, s77_137, s77_140, s77_141, s77_143, s77_145, s77_148, s77_149, s77_150, s77_153, s77_154, s77_157, s77_158, s77_161, s77_162, s77_165, s77_166, s77_169, s77_171, s77_174, s77_176, s77_179, s77_181, s77_184, s77_186, s77_189, s77_191, s77_194, s77_196, s77_199, s77_200, s77_203, s77_205, s77_208, s77_210, s77_213, s77_214, s77_216, s77_217, s77_220, s77_221, s77_224, s77_226, s77_229, s77_231, s77_234, s77_235, s77_237, s77_238, s77_241, List.cons_append, List.nil_append, if_true, if_false, true_and, and_true, and_self, eq_self, true_or, or_true, false_or, or_false, tIn, tLe, fLe, tLt, fLt, tEq, fEq, isL, hr.1, c30 hr h1, h2, el, row71.1, c30 row71 h1, h4, hh, ep, oS66, c68 sp66 h1, h3, e4, ha, hb, el2, row75.1]
        refine rpart_ok row75 hr (by omega) h1 h6 h2 (At_part A1) (by omega) (by omega) (by omega) _ (fun σ3 k3 w3 f3 => ?_)
        have i3 := TKI_f h hr hr2 k3 w3 f3
        simp (disch := omega) only [s77_0, s77_1, s77_2, s77_5, s77_6, s77_9, s77_10, s77_13, s77_15, s77_18, s77_19, s77_20, s77_23, s77_24, s77_27, s77_30, s77_31, s77_34, s77_35, s77_38, s77_39, s77_42, s77_44, s77_47, s77_48, s77_51, s77_52, s77_53, s77_54, s77_57, s77_58, s77_61, s77_64, s77_65, s77_66, s77_67, s77_68, s77_70, s77_71, s77_74, s77_76, s77_79, s77_81, s77_82, s77_85, s77_87, s77_90, s77_91, s77_94, s77_95, s77_98, s77_99, s77_101, s77_102, s77_105, s77_107, s77_110, s77_111, s77_114, s77_115, s77_118, s77_119, s77_121, s77_123, s77_126, s77_127, s77_129, s77_132, s77_133, s77_136, s77_137, s77_140, s77_141, s77_143, s77_145, s77_148, s77_149, s77_150, s77_153, s77_154, s77_157, s77_158, s77_161, s77_162, s77_165, s77_166, s77_169, s77_171, s77_174, s77_176, s77_179, s77_181, s77_184, s77_186, s77_189, s77_191, s77_194, s77_196, s77_199, s77_200, s77_203, s77_205, s77_208, s77_210, s77_213, s77_214, s77_216, s77_217, s77_220, s77_221, s77_224, s77_226, s77_229, s77_231, s77_234, s77_235, s77_237, s77_238, s77_241, List.cons_append, List.nil_append, if_true, if_false, true_and, and_true, and_self, eq_self, true_or, or_true, false_or, or_false, tIn, tLe, fLe, tLt, fLt, tEq, fEq, isL]
        exact hq σ3 (fl a) [] i3 (by simp [ouL]) (fun e he => by simp at he) (by simp [wtL, fl])
      · have go : ∀ (sg : Int) (ia ib : Bool), frT n a = ia → frT n b = ib → (ia || ib) = true → sg = (if ia = true ∧ ib = true then 83 else if ia = true then 67 else 66) → (¬ (ia = false ∧ T[te T (p + 1)] = n)) → WP m77 0 [.inr (.inl 65), .inr (.inl r), .inl (p : Int), .inl n, vU, vU, vU, vU] [] σ Q := by
          intro sg ia ib q1 q2 q3 q4 q5
          have e0 : fl (tkT n (.add a b)) = [1, 1, sg] ++ (ouT n (!ia, p + 1, a) ++ ouT n (!ib, te T (p + 1), b)) := by
            simp only [tkT]
            rw [if_neg g0, if_neg g2, q1, q2, q4]
            cases ia <;> cases ib
            · simp at q3
            · simp [ouT, fl]
            · simp [ouT, fl]
            · simp [ouT, fl]
          rw [e0] at hF hq
          simp only [List.length_cons, List.length_append, List.length_nil] at hF
          rw [q1] at ha
          rw [q2] at hb
          have fin : ∀ σ5 : aSg, TKI σ0 σ5 r T n (F ++ [1, 1, sg]) ((!ia, p + 1, a) :: (!ib, te T (p + 1), b) :: es) → Q [] σ5 := by
            intro σ5 i5
            refine hq σ5 [1, 1, sg] [(!ia, p + 1, a), (!ib, te T (p + 1), b)] i5 (by simp [ouL]) (fun e he => ?_) (by simp [wtL, fl])
            rcases List.mem_cons.mp he with rfl | he
            · exact ⟨A1, na⟩
            rcases List.mem_cons.mp he with rfl | he
            · exact ⟨A2, nb'⟩
            · simp at he
          cases ia with
          | false =>
            cases ib with
            | false => simp at q3
            | true =>
              simp only [Bool.false_eq_true, false_and, if_false] at q4
              subst q4
              simp only [Bool.false_eq_true, if_false, if_true] at ha hb
              have q6 : ¬ T[te T (p + 1)] = n := fun z => q5 ⟨rfl, z⟩
              simp (disch := omega) only [s77_0, s77_1, s77_2, s77_5, s77_6, s77_9, s77_10, s77_13, s77_15, s77_18, s77_19, s77_20, s77_23, s77_24, s77_27, s77_30, s77_31, s77_34, s77_35, s77_38, s77_39, s77_42, s77_44, s77_47, s77_48, s77_51, s77_52, s77_53, s77_54, s77_57, s77_58, s77_61, s77_64, s77_65, s77_66, s77_67, s77_68, s77_70, s77_71, s77_74, s77_76, s77_79, s77_81, s77_82, s77_85, s77_87, s77_90, s77_91, s77_94, s77_95, s77_98, s77_99, s77_101, s77_102, s77_105, s77_107, s77_110, s77_111, s77_114, s77_115, s77_118, s77_119, s77_121, s77_123, s77_126, s77_127, s77_129, s77_132, s77_133, s77_136, s77_137, s77_140, s77_141, s77_143, s77_145, s77_148, s77_149, s77_150, s77_153, s77_154, s77_157, s77_158, s77_161, s77_162, s77_165, s77_166, s77_169, s77_171, s77_174, s77_176, s77_179, s77_181, s77_184, s77_186, s77_189, s77_191, s77_194, s77_196, s77_199, s77_200, s77_203, s77_205, s77_208, s77_210, s77_213, s77_214, s77_216, s77_217, s77_220, s77_221, s77_224, s77_226, s77_229, s77_231, s77_234, s77_235, s77_237, s77_238, s77_241, List.cons_append, List.nil_append, if_true, if_false, true_and, and_true, and_self, eq_self, true_or, or_true, false_or, or_false, tIn, tLe, fLe, tLt, fLt, tEq, fEq, isL, hr.1, c30 hr h1, h2, el, row71.1, c30 row71 h1, h4, hh, ep, oS66, c68 sp66 h1, h3, e4, ha, hb, el2, row75.1]
              refine radd_ok row75 h1 h6 (by omega) _ (fun σ1 k1 w1 f1 => ?_)
              simp (disch := omega) only [s77_0, s77_1, s77_2, s77_5, s77_6, s77_9, s77_10, s77_13, s77_15, s77_18, s77_19, s77_20, s77_23, s77_24, s77_27, s77_30, s77_31, s77_34, s77_35, s77_38, s77_39, s77_42, s77_44, s77_47, s77_48, s77_51, s77_52, s77_53, s77_54, s77_57, s77_58, s77_61, s77_64, s77_65, s77_66, s77_67, s77_68, s77_70, s77_71, s77_74, s77_76, s77_79, s77_81, s77_82, s77_85, s77_87, s77_90, s77_91, s77_94, s77_95, s77_98, s77_99, s77_101, s77_102, s77_105, s77_107, s77_110, s77_111, s77_114, s77_115, s77_118, s77_119, s77_121, s77_123, s77_126, s77_127, s77_129, s77_132, s77_133, s77_136, s77_137, s77_140, s77_141, s77_143, s77_145, s77_148, s77_149, s77_150, s77_153, s77_154, s77_157, s77_158, s77_161, s77_162, s77_165, s77_166, s77_169, s77_171, s77_174, s77_176, s77_179, s77_181, s77_184, s77_186, s77_189, s77_191, s77_194, s77_196, s77_199, s77_200, s77_203, s77_205, s77_208, s77_210, s77_213, s77_214, s77_216, s77_217, s77_220, s77_221, s77_224, s77_226, s77_229, s77_231, s77_234, s77_235, s77_237, s77_238, s77_241, List.cons_append, List.nil_append, if_true, if_false, true_and, and_true, and_self, eq_self, true_or, or_true, false_or, or_false, tIn, tLe, fLe, tLt, fLt, tEq, fEq, isL, row75.1]
              refine radd_ok row75 k1 w1 (by simp; omega) _ (fun σ2 k2 w2 f2 => ?_)
              simp (disch := omega) only [s77_0, s77_1, s77_2, s77_5, s77_6, s77_9, s77_10, s77_13, s77_15, s77_18, s77_19, s77_20, s77_23, s77_24, s77_27, s77_30, s77_31, s77_34, s77_35, s77_38, s77_39, s77_42, s77_44, s77_47, s77_48, s77_51, s77_52, s77_53, s77_54, s77_57, s77_58, s77_61, s77_64, s77_65, s77_66, s77_67, s77_68, s77_70, s77_71, s77_74, s77_76, s77_79, s77_81, s77_82, s77_85, s77_87, s77_90, s77_91, s77_94, s77_95, s77_98, s77_99, s77_101, s77_102, s77_105, s77_107, s77_110, s77_111, s77_114, s77_115, s77_118, s77_119, s77_121, s77_123, s77_126, s77_127, s77_129, s77_132, s77_133, s77_136, s77_137, s77_140, s77_141, s77_143, s77_145, s77_148, s77_149, s77_150, s77_153, s77_154, s77_157, s77_158, s77_161, s77_162, s77_165, s77_166, s77_169, s77_171, s77_174, s77_176, s77_179, s77_181, s77_184, s77_186, s77_189, s77_191, s77_194, s77_196, s77_199, s77_200, s77_203, s77_205, s77_208, s77_210, s77_213, s77_214, s77_216, s77_217, s77_220, s77_221, s77_224, s77_226, s77_229, s77_231, s77_234, s77_235, s77_237, s77_238, s77_241, List.cons_append, List.nil_append, if_true, if_false, true_and, and_true, and_self, eq_self, true_or, or_true, false_or, or_false, tIn, tLe, fLe, tLt, fLt, tEq, fEq, isL, row75.1]
              refine radd_ok row75 k2 w2 (by simp; omega) _ (fun σ3 k3 w3 f3 => ?_)
              have i3 := TKI_f (F' := F ++ [1, 1, 66]) h hr hr2 k3 (by rw [w3]; simp) (FrW_tr (FrW_tr f1 f2) f3)
              simp (disch := omega) only [s77_0, s77_1, s77_2, s77_5, s77_6, s77_9, s77_10, s77_13, s77_15, s77_18, s77_19, s77_20, s77_23, s77_24, s77_27, s77_30, s77_31, s77_34, s77_35, s77_38, s77_39, s77_42, s77_44, s77_47, s77_48, s77_51, s77_52, s77_53, s77_54, s77_57, s77_58, s77_61, s77_64, s77_65, s77_66, s77_67, s77_68, s77_70, s77_71, s77_74, s77_76, s77_79, s77_81, s77_82, s77_85, s77_87, s77_90, s77_91, s77_94, s77_95, s77_98, s77_99, s77_101, s77_102, s77_105, s77_107, s77_110, s77_111, s77_114, s77_115, s77_118, s77_119, s77_121, s77_123, s77_126, s77_127, s77_129, s77_132, s77_133, s77_136, s77_137, s77_140, s77_141, s77_143, s77_145, s77_148, s77_149, s77_150, s77_153, s77_154, s77_157, s77_158, s77_161, s77_162, s77_165, s77_166, s77_169, s77_171, s77_174, s77_176, s77_179, s77_181, s77_184, s77_186, s77_189, s77_191, s77_194, s77_196, s77_199, s77_200, s77_203, s77_205, s77_208, s77_210, s77_213, s77_214, s77_216, s77_217, s77_220, s77_221, s77_224, s77_226, s77_229, s77_231, s77_234, s77_235, s77_237, s77_238, s77_241, List.cons_append, List.nil_append, if_true, if_false, true_and, and_true, and_self, eq_self, true_or, or_true, false_or, or_false, tIn, tLe, fLe, tLt, fLt, tEq, fEq, isL, row73.1]
              refine radd_ok row73 k3 i3.2.2.2.2.1 (by simp; omega) _ (fun σ4 k4 w4 f4 => ?_)
              have i4 := TKI_o (es' := (false, te T (p + 1), b) :: es) i3 hr hr2 k4 (by rw [w4]; simp [enC]) f4
              simp (disch := omega) only [s77_0, s77_1, s77_2, s77_5, s77_6, s77_9, s77_10, s77_13, s77_15, s77_18, s77_19, s77_20, s77_23, s77_24, s77_27, s77_30, s77_31, s77_34, s77_35, s77_38, s77_39, s77_42, s77_44, s77_47, s77_48, s77_51, s77_52, s77_53, s77_54, s77_57, s77_58, s77_61, s77_64, s77_65, s77_66, s77_67, s77_68, s77_70, s77_71, s77_74, s77_76, s77_79, s77_81, s77_82, s77_85, s77_87, s77_90, s77_91, s77_94, s77_95, s77_98, s77_99, s77_101, s77_102, s77_105, s77_107, s77_110, s77_111, s77_114, s77_115, s77_118, s77_119, s77_121, s77_123, s77_126, s77_127, s77_129, s77_132, s77_133, s77_136, s77_137, s77_140, s77_141, s77_143, s77_145, s77_148, s77_149, s77_150, s77_153, s77_154, s77_157, s77_158, s77_161, s77_162, s77_165, s77_166, s77_169, s77_171, s77_174, s77_176, s77_179, s77_181, s77_184, s77_186, s77_189, s77_191, s77_194, s77_196, s77_199, s77_200, s77_203, s77_205, s77_208, s77_210, s77_213, s77_214, s77_216, s77_217, s77_220, s77_221, s77_224, s77_226, s77_229, s77_231, s77_234, s77_235, s77_237, s77_238, s77_241, List.cons_append, List.nil_append, if_true, if_false, true_and, and_true, and_self, eq_self, true_or, or_true, false_or, or_false, tIn, tLe, fLe, tLt, fLt, tEq, fEq, isL, row73.1]
              refine radd_ok row73 k4 i4.2.2.2.2.1 (by simp; omega) _ (fun σ5 k5 w5 f5 => ?_)
              have i5 := TKI_o (es' := (true, p + 1, a) :: (false, te T (p + 1), b) :: es) i4 hr hr2 k5 (by rw [w5]; simp [enC]) f5
              simp (disch := omega) only [s77_0, s77_1, s77_2, s77_5, s77_6, s77_9, s77_10, s77_13, s77_15, s77_18, s77_19, s77_20, s77_23, s77_24, s77_27, s77_30, s77_31, s77_34, s77_35, s77_38, s77_39, s77_42, s77_44, s77_47, s77_48, s77_51, s77_52, s77_53, s77_54, s77_57, s77_58, s77_61, s77_64, s77_65, s77_66, s77_67, s77_68, s77_70, s77_71, s77_74, s77_76, s77_79, s77_81, s77_82, s77_85, s77_87, s77_90, s77_91, s77_94, s77_95, s77_98, s77_99, s77_101, s77_102, s77_105, s77_107, s77_110, s77_111, s77_114, s77_115, s77_118, s77_119, s77_121, s77_123, s77_126, s77_127, s77_129, s77_132, s77_133, s77_136, s77_137, s77_140, s77_141, s77_143, s77_145, s77_148, s77_149, s77_150, s77_153, s77_154, s77_157, s77_158, s77_161, s77_162, s77_165, s77_166, s77_169, s77_171, s77_174, s77_176, s77_179, s77_181, s77_184, s77_186, s77_189, s77_191, s77_194, s77_196, s77_199, s77_200, s77_203, s77_205, s77_208, s77_210, s77_213, s77_214, s77_216, s77_217, s77_220, s77_221, s77_224, s77_226, s77_229, s77_231, s77_234, s77_235, s77_237, s77_238, s77_241, List.cons_append, List.nil_append, if_true, if_false, true_and, and_true, and_self, eq_self, true_or, or_true, false_or, or_false, tIn, tLe, fLe, tLt, fLt, tEq, fEq, isL]
              exact fin σ5 i5
          | true =>
            cases ib with
            | false =>
              simp only [Bool.false_eq_true, and_false, if_false, if_true] at q4
              subst q4
              simp only [Bool.false_eq_true, if_false, if_true] at ha hb
              skip
              simp (disch := omega) only [s77_0, s77_1, s77_2, s77_5, s77_6, s77_9, s77_10, s77_13, s77_15, s77_18, s77_19, s77_20, s77_23, s77_24, s77_27, s77_30, s77_31, s77_34, s77_35, s77_38, s77_39, s77_42, s77_44, s77_47, s77_48, s77_51, s77_52, s77_53, s77_54, s77_57, s77_58, s77_61, s77_64, s77_65, s77_66, s77_67, s77_68, s77_70, s77_71, s77_74, s77_76, s77_79, s77_81, s77_82, s77_85, s77_87, s77_90, s77_91, s77_94, s77_95, s77_98, s77_99, s77_101, s77_102, s77_105, s77_107, s77_110, s77_111, s77_114, s77_115, s77_118, s77_119, s77_121, s77_123, s77_126, s77_127, s77_129, s77_132, s77_133, s77_136, s77_137, s77_140, s77_141, s77_143, s77_145, s77_148, s77_149, s77_150, s77_153, s77_154, s77_157, s77_158, s77_161, s77_162, s77_165, s77_166, s77_169, s77_171, s77_174, s77_176, s77_179, s77_181, s77_184, s77_186, s77_189, s77_191, s77_194, s77_196, s77_199, s77_200, s77_203, s77_205, s77_208, s77_210, s77_213, s77_214, s77_216, s77_217, s77_220, s77_221, s77_224, s77_226, s77_229, s77_231, s77_234, s77_235, s77_237, s77_238, s77_241, List.cons_append, List.nil_append, if_true, if_false, true_and, and_true, and_self, eq_self, true_or, or_true, false_or, or_false, tIn, tLe, fLe, tLt, fLt, tEq, fEq, isL, hr.1, c30 hr h1, h2, el, row71.1, c30 row71 h1, h4, hh, ep, oS66, c68 sp66 h1, h3, e4, ha, hb, el2, row75.1]
              refine radd_ok row75 h1 h6 (by omega) _ (fun σ1 k1 w1 f1 => ?_)
              simp (disch := omega) only [s77_0, s77_1, s77_2, s77_5, s77_6, s77_9, s77_10, s77_13, s77_15, s77_18, s77_19, s77_20, s77_23, s77_24, s77_27, s77_30, s77_31, s77_34, s77_35, s77_38, s77_39, s77_42, s77_44, s77_47, s77_48, s77_51, s77_52, s77_53, s77_54, s77_57, s77_58, s77_61, s77_64, s77_65, s77_66, s77_67, s77_68, s77_70, s77_71, s77_74, s77_76, s77_79, s77_81, s77_82, s77_85, s77_87, s77_90, s77_91, s77_94, s77_95, s77_98, s77_99, s77_101, s77_102, s77_105, s77_107, s77_110, s77_111, s77_114, s77_115, s77_118, s77_119, s77_121, s77_123, s77_126, s77_127, s77_129, s77_132, s77_133, s77_136, s77_137, s77_140, s77_141, s77_143, s77_145, s77_148, s77_149, s77_150, s77_153, s77_154, s77_157, s77_158, s77_161, s77_162, s77_165, s77_166, s77_169, s77_171, s77_174, s77_176, s77_179, s77_181, s77_184, s77_186, s77_189, s77_191, s77_194, s77_196, s77_199, s77_200, s77_203, s77_205, s77_208, s77_210, s77_213, s77_214, s77_216, s77_217, s77_220, s77_221, s77_224, s77_226, s77_229, s77_231, s77_234, s77_235, s77_237, s77_238, s77_241, List.cons_append, List.nil_append, if_true, if_false, true_and, and_true, and_self, eq_self, true_or, or_true, false_or, or_false, tIn, tLe, fLe, tLt, fLt, tEq, fEq, isL, row75.1]
              refine radd_ok row75 k1 w1 (by simp; omega) _ (fun σ2 k2 w2 f2 => ?_)
              simp (disch := omega) only [s77_0, s77_1, s77_2, s77_5, s77_6, s77_9, s77_10, s77_13, s77_15, s77_18, s77_19, s77_20, s77_23, s77_24, s77_27, s77_30, s77_31, s77_34, s77_35, s77_38, s77_39, s77_42, s77_44, s77_47, s77_48, s77_51, s77_52, s77_53, s77_54, s77_57, s77_58, s77_61, s77_64, s77_65, s77_66, s77_67, s77_68, s77_70, s77_71, s77_74, s77_76, s77_79, s77_81, s77_82, s77_85, s77_87, s77_90, s77_91, s77_94, s77_95, s77_98, s77_99, s77_101, s77_102, s77_105, s77_107, s77_110, s77_111, s77_114, s77_115, s77_118, s77_119, s77_121, s77_123, s77_126, s77_127, s77_129, s77_132, s77_133, s77_136, s77_137, s77_140, s77_141, s77_143, s77_145, s77_148, s77_149, s77_150, s77_153, s77_154, s77_157, s77_158, s77_161, s77_162, s77_165, s77_166, s77_169, s77_171, s77_174, s77_176, s77_179, s77_181, s77_184, s77_186, s77_189, s77_191, s77_194, s77_196, s77_199, s77_200, s77_203, s77_205, s77_208, s77_210, s77_213, s77_214, s77_216, s77_217, s77_220, s77_221, s77_224, s77_226, s77_229, s77_231, s77_234, s77_235, s77_237, s77_238, s77_241, List.cons_append, List.nil_append, if_true, if_false, true_and, and_true, and_self, eq_self, true_or, or_true, false_or, or_false, tIn, tLe, fLe, tLt, fLt, tEq, fEq, isL, row75.1]
              refine radd_ok row75 k2 w2 (by simp; omega) _ (fun σ3 k3 w3 f3 => ?_)
              have i3 := TKI_f (F' := F ++ [1, 1, 67]) h hr hr2 k3 (by rw [w3]; simp) (FrW_tr (FrW_tr f1 f2) f3)
              simp (disch := omega) only [s77_0, s77_1, s77_2, s77_5, s77_6, s77_9, s77_10, s77_13, s77_15, s77_18, s77_19, s77_20, s77_23, s77_24, s77_27, s77_30, s77_31, s77_34, s77_35, s77_38, s77_39, s77_42, s77_44, s77_47, s77_48, s77_51, s77_52, s77_53, s77_54, s77_57, s77_58, s77_61, s77_64, s77_65, s77_66, s77_67, s77_68, s77_70, s77_71, s77_74, s77_76, s77_79, s77_81, s77_82, s77_85, s77_87, s77_90, s77_91, s77_94, s77_95, s77_98, s77_99, s77_101, s77_102, s77_105, s77_107, s77_110, s77_111, s77_114, s77_115, s77_118, s77_119, s77_121, s77_123, s77_126, s77_127, s77_129, s77_132, s77_133, s77_136, s77_137, s77_140, s77_141, s77_143, s77_145, s77_148, s77_149, s77_150, s77_153, s77_154, s77_157, s77_158, s77_161, s77_162, s77_165, s77_166, s77_169, s77_171, s77_174, s77_176, s77_179, s77_181, s77_184, s77_186, s77_189, s77_191, s77_194, s77_196, s77_199, s77_200, s77_203, s77_205, s77_208, s77_210, s77_213, s77_214, s77_216, s77_217, s77_220, s77_221, s77_224, s77_226, s77_229, s77_231, s77_234, s77_235, s77_237, s77_238, s77_241, List.cons_append, List.nil_append, if_true, if_false, true_and, and_true, and_self, eq_self, true_or, or_true, false_or, or_false, tIn, tLe, fLe, tLt, fLt, tEq, fEq, isL, row73.1]
              refine radd_ok row73 k3 i3.2.2.2.2.1 (by simp; omega) _ (fun σ4 k4 w4 f4 => ?_)
              have i4 := TKI_o (es' := (true, te T (p + 1), b) :: es) i3 hr hr2 k4 (by rw [w4]; simp [enC]) f4
              simp (disch := omega) only [s77_0, s77_1, s77_2, s77_5, s77_6, s77_9, s77_10, s77_13, s77_15, s77_18, s77_19, s77_20, s77_23, s77_24, s77_27, s77_30, s77_31, s77_34, s77_35, s77_38, s77_39, s77_42, s77_44, s77_47, s77_48, s77_51, s77_52, s77_53, s77_54, s77_57, s77_58, s77_61, s77_64, s77_65, s77_66, s77_67, s77_68, s77_70, s77_71, s77_74, s77_76, s77_79, s77_81, s77_82, s77_85, s77_87, s77_90, s77_91, s77_94, s77_95, s77_98, s77_99, s77_101, s77_102, s77_105, s77_107, s77_110, s77_111, s77_114, s77_115, s77_118, s77_119, s77_121, s77_123, s77_126, s77_127, s77_129, s77_132, s77_133, s77_136, s77_137, s77_140, s77_141, s77_143, s77_145, s77_148, s77_149, s77_150, s77_153, s77_154, s77_157, s77_158, s77_161, s77_162, s77_165, s77_166, s77_169, s77_171, s77_174, s77_176, s77_179, s77_181, s77_184, s77_186, s77_189, s77_191, s77_194, s77_196, s77_199, s77_200, s77_203, s77_205, s77_208, s77_210, s77_213, s77_214, s77_216, s77_217, s77_220, s77_221, s77_224, s77_226, s77_229, s77_231, s77_234, s77_235, s77_237, s77_238, s77_241, List.cons_append, List.nil_append, if_true, if_false, true_and, and_true, and_self, eq_self, true_or, or_true, false_or, or_false, tIn, tLe, fLe, tLt, fLt, tEq, fEq, isL, row73.1]
              refine radd_ok row73 k4 i4.2.2.2.2.1 (by simp; omega) _ (fun σ5 k5 w5 f5 => ?_)
              have i5 := TKI_o (es' := (false, p + 1, a) :: (true, te T (p + 1), b) :: es) i4 hr hr2 k5 (by rw [w5]; simp [enC]) f5
              simp (disch := omega) only [s77_0, s77_1, s77_2, s77_5, s77_6, s77_9, s77_10, s77_13, s77_15, s77_18, s77_19, s77_20, s77_23, s77_24, s77_27, s77_30, s77_31, s77_34, s77_35, s77_38, s77_39, s77_42, s77_44, s77_47, s77_48, s77_51, s77_52, s77_53, s77_54, s77_57, s77_58, s77_61, s77_64, s77_65, s77_66, s77_67, s77_68, s77_70, s77_71, s77_74, s77_76, s77_79, s77_81, s77_82, s77_85, s77_87, s77_90, s77_91, s77_94, s77_95, s77_98, s77_99, s77_101, s77_102, s77_105, s77_107, s77_110, s77_111, s77_114, s77_115, s77_118, s77_119, s77_121, s77_123, s77_126, s77_127, s77_129, s77_132, s77_133, s77_136, s77_137, s77_140, s77_141, s77_143, s77_145, s77_148, s77_149, s77_150, s77_153, s77_154, s77_157, s77_158, s77_161, s77_162, s77_165, s77_166, s77_169, s77_171, s77_174, s77_176, s77_179, s77_181, s77_184, s77_186, s77_189, s77_191, s77_194, s77_196, s77_199, s77_200, s77_203, s77_205, s77_208, s77_210, s77_213, s77_214, s77_216, s77_217, s77_220, s77_221, s77_224, s77_226, s77_229, s77_231, s77_234, s77_235, s77_237, s77_238, s77_241, List.cons_append, List.nil_append, if_true, if_false, true_and, and_true, and_self, eq_self, true_or, or_true, false_or, or_false, tIn, tLe, fLe, tLt, fLt, tEq, fEq, isL]
              exact fin σ5 i5
            | true =>
              simp only [and_self, if_true] at q4
              subst q4
              simp only [Bool.false_eq_true, if_false, if_true] at ha hb
              skip
              simp (disch := omega) only [s77_0, s77_1, s77_2, s77_5, s77_6, s77_9, s77_10, s77_13, s77_15, s77_18, s77_19, s77_20, s77_23, s77_24, s77_27, s77_30, s77_31, s77_34, s77_35, s77_38, s77_39, s77_42, s77_44, s77_47, s77_48, s77_51, s77_52, s77_53, s77_54, s77_57, s77_58, s77_61, s77_64, s77_65, s77_66, s77_67, s77_68, s77_70, s77_71, s77_74, s77_76, s77_79, s77_81, s77_82, s77_85, s77_87, s77_90, s77_91, s77_94, s77_95, s77_98, s77_99, s77_101, s77_102, s77_105, s77_107, s77_110, s77_111, s77_114, s77_115, s77_118, s77_119, s77_121, s77_123, s77_126, s77_127, s77_129, s77_132, s77_133, s77_136, s77_137, s77_140, s77_141, s77_143, s77_145, s77_148, s77_149, s77_150, s77_153, s77_154, s77_157, s77_158, s77_161, s77_162, s77_165, s77_166, s77_169, s77_171, s77_174, s77_176, s77_179, s77_181, s77_184, s77_186, s77_189, s77_191, s77_194, s77_196, s77_199, s77_200, s77_203, s77_205, s77_208, s77_210, s77_213, s77_214, s77_216, s77_217, s77_220, s77_221, s77_224, s77_226, s77_229, s77_231, s77_234, s77_235, s77_237, s77_238, s77_241, List.cons_append, List.nil_append, if_true, if_false, true_and, and_true, and_self, eq_self, true_or, or_true, false_or, or_false, tIn, tLe, fLe, tLt, fLt, tEq, fEq, isL, hr.1, c30 hr h1, h2, el, row71.1, c30 row71 h1, h4, hh, ep, oS66, c68 sp66 h1, h3, e4, ha, hb, el2, row75.1]
              refine radd_ok row75 h1 h6 (by omega) _ (fun σ1 k1 w1 f1 => ?_)
              simp (disch := omega) only [s77_0, s77_1, s77_2, s77_5, s77_6, s77_9, s77_10, s77_13, s77_15, s77_18, s77_19, s77_20, s77_23, s77_24, s77_27, s77_30, s77_31, s77_34, s77_35, s77_38, s77_39, s77_42, s77_44, s77_47, s77_48, s77_51, s77_52, s77_53, s77_54, s77_57, s77_58, s77_61, s77_64, s77_65, s77_66, s77_67, s77_68, s77_70, s77_71, s77_74, s77_76, s77_79, s77_81, s77_82, s77_85, s77_87, s77_90, s77_91, s77_94, s77_95, s77_98, s77_99, s77_101, s77_102, s77_105, s77_107, s77_110, s77_111, s77_114, s77_115, s77_118, s77_119, s77_121, s77_123, s77_126, s77_127, s77_129, s77_132, s77_133, s77_136, s77_137, s77_140, s77_141, s77_143, s77_145, s77_148, s77_149, s77_150, s77_153, s77_154, s77_157, s77_158, s77_161, s77_162, s77_165, s77_166, s77_169, s77_171, s77_174, s77_176, s77_179, s77_181, s77_184, s77_186, s77_189, s77_191, s77_194, s77_196, s77_199, s77_200, s77_203, s77_205, s77_208, s77_210, s77_213, s77_214, s77_216, s77_217, s77_220, s77_221, s77_224, s77_226, s77_229, s77_231, s77_234, s77_235, s77_237, s77_238, s77_241, List.cons_append, List.nil_append, if_true, if_false, true_and, and_true, and_self, eq_self, true_or, or_true, false_or, or_false, tIn, tLe, fLe, tLt, fLt, tEq, fEq, isL, row75.1]
              refine radd_ok row75 k1 w1 (by simp; omega) _ (fun σ2 k2 w2 f2 => ?_)
              simp (disch := omega) only [s77_0, s77_1, s77_2, s77_5, s77_6, s77_9, s77_10, s77_13, s77_15, s77_18, s77_19, s77_20, s77_23, s77_24, s77_27, s77_30, s77_31, s77_34, s77_35, s77_38, s77_39, s77_42, s77_44, s77_47, s77_48, s77_51, s77_52, s77_53, s77_54, s77_57, s77_58, s77_61, s77_64, s77_65, s77_66, s77_67, s77_68, s77_70, s77_71, s77_74, s77_76, s77_79, s77_81, s77_82, s77_85, s77_87, s77_90, s77_91, s77_94, s77_95, s77_98, s77_99, s77_101, s77_102, s77_105, s77_107, s77_110, s77_111, s77_114, s77_115, s77_118, s77_119, s77_121, s77_123, s77_126, s77_127, s77_129, s77_132, s77_133, s77_136, s77_137, s77_140, s77_141, s77_143, s77_145, s77_148, s77_149, s77_150, s77_153, s77_154, s77_157, s77_158, s77_161, s77_162, s77_165, s77_166, s77_169, s77_171, s77_174, s77_176, s77_179, s77_181, s77_184, s77_186, s77_189, s77_191, s77_194, s77_196, s77_199, s77_200, s77_203, s77_205, s77_208, s77_210, s77_213, s77_214, s77_216, s77_217, s77_220, s77_221, s77_224, s77_226, s77_229, s77_231, s77_234, s77_235, s77_237, s77_238, s77_241, List.cons_append, List.nil_append, if_true, if_false, true_and, and_true, and_self, eq_self, true_or, or_true, false_or, or_false, tIn, tLe, fLe, tLt, fLt, tEq, fEq, isL, row75.1]
              refine radd_ok row75 k2 w2 (by simp; omega) _ (fun σ3 k3 w3 f3 => ?_)
              have i3 := TKI_f (F' := F ++ [1, 1, 83]) h hr hr2 k3 (by rw [w3]; simp) (FrW_tr (FrW_tr f1 f2) f3)
              simp (disch := omega) only [s77_0, s77_1, s77_2, s77_5, s77_6, s77_9, s77_10, s77_13, s77_15, s77_18, s77_19, s77_20, s77_23, s77_24, s77_27, s77_30, s77_31, s77_34, s77_35, s77_38, s77_39, s77_42, s77_44, s77_47, s77_48, s77_51, s77_52, s77_53, s77_54, s77_57, s77_58, s77_61, s77_64, s77_65, s77_66, s77_67, s77_68, s77_70, s77_71, s77_74, s77_76, s77_79, s77_81, s77_82, s77_85, s77_87, s77_90, s77_91, s77_94, s77_95, s77_98, s77_99, s77_101, s77_102, s77_105, s77_107, s77_110, s77_111, s77_114, s77_115, s77_118, s77_119, s77_121, s77_123, s77_126, s77_127, s77_129, s77_132, s77_133, s77_136, s77_137, s77_140, s77_141, s77_143, s77_145, s77_148, s77_149, s77_150, s77_153, s77_154, s77_157, s77_158, s77_161, s77_162, s77_165, s77_166, s77_169, s77_171, s77_174, s77_176, s77_179, s77_181, s77_184, s77_186, s77_189, s77_191, s77_194, s77_196, s77_199, s77_200, s77_203, s77_205, s77_208, s77_210, s77_213, s77_214, s77_216, s77_217, s77_220, s77_221, s77_224, s77_226, s77_229, s77_231, s77_234, s77_235, s77_237, s77_238, s77_241, List.cons_append, List.nil_append, if_true, if_false, true_and, and_true, and_self, eq_self, true_or, or_true, false_or, or_false, tIn, tLe, fLe, tLt, fLt, tEq, fEq, isL, row73.1]
              refine radd_ok row73 k3 i3.2.2.2.2.1 (by simp; omega) _ (fun σ4 k4 w4 f4 => ?_)
              have i4 := TKI_o (es' := (false, te T (p + 1), b) :: es) i3 hr hr2 k4 (by rw [w4]; simp [enC]) f4
              simp (disch := omega) only [s77_0, s77_1, s77_2, s77_5, s77_6, s77_9, s77_10, s77_13, s77_15, s77_18, s77_19, s77_20, s77_23, s77_24, s77_27, s77_30, s77_31, s77_34, s77_35, s77_38, s77_39, s77_42, s77_44, s77_47, s77_48, s77_51, s77_52, s77_53, s77_54, s77_57, s77_58, s77_61, s77_64, s77_65, s77_66, s77_67, s77_68, s77_70, s77_71, s77_74, s77_76, s77_79, s77_81, s77_82, s77_85, s77_87, s77_90, s77_91, s77_94, s77_95, s77_98, s77_99, s77_101, s77_102, s77_105, s77_107, s77_110, s77_111, s77_114, s77_115, s77_118, s77_119, s77_121, s77_123, s77_126, s77_127, s77_129, s77_132, s77_133, s77_136, s77_137, s77_140, s77_141, s77_143, s77_145, s77_148, s77_149, s77_150, s77_153, s77_154, s77_157, s77_158, s77_161, s77_162, s77_165, s77_166, s77_169, s77_171, s77_174, s77_176, s77_179, s77_181, s77_184, s77_186, s77_189, s77_191, s77_194, s77_196, s77_199, s77_200, s77_203, s77_205, s77_208, s77_210, s77_213, s77_214, s77_216, s77_217, s77_220, s77_221, s77_224, s77_226, s77_229, s77_231, s77_234, s77_235, s77_237, s77_238, s77_241, List.cons_append, List.nil_append, if_true, if_false, true_and, and_true, and_self, eq_self, true_or, or_true, false_or, or_false, tIn, tLe, fLe, tLt, fLt, tEq, fEq, isL, row73.1]
              refine radd_ok row73 k4 i4.2.2.2.2.1 (by simp; omega) _ (fun σ5 k5 w5 f5 => ?_)
              have i5 := TKI_o (es' := (false, p + 1, a) :: (false, te T (p + 1), b) :: es) i4 hr hr2 k5 (by rw [w5]; simp [enC]) f5
              simp (disch := omega) only [s77_0, s77_1, s77_2, s77_5, s77_6, s77_9, s77_10, s77_13, s77_15, s77_18, s77_19, s77_20, s77_23, s77_24, s77_27, s77_30, s77_31, s77_34, s77_35, s77_38, s77_39, s77_42, s77_44, s77_47, s77_48, s77_51, s77_52, s77_53, s77_54, s77_57, s77_58, s77_61, s77_64, s77_65, s77_66, s77_67, s77_68, s77_70, s77_71, s77_74, s77_76, s77_79, s77_81, s77_82, s77_85, s77_87, s77_90, s77_91, s77_94, s77_95, s77_98, s77_99, s77_101, s77_102, s77_105, s77_107, s77_110, s77_111, s77_114, s77_115, s77_118, s77_119, s77_121, s77_123, s77_126, s77_127, s77_129, s77_132, s77_133, s77_136, s77_137, s77_140, s77_141, s77_143, s77_145, s77_148, s77_149, s77_150, s77_153, s77_154, s77_157, s77_158, s77_161, s77_162, s77_165, s77_166, s77_169, s77_171, s77_174, s77_176, s77_179, s77_181, s77_184, s77_186, s77_189, s77_191, s77_194, s77_196, s77_199, s77_200, s77_203, s77_205, s77_208, s77_210, s77_213, s77_214, s77_216, s77_217, s77_220, s77_221, s77_224, s77_226, s77_229, s77_231, s77_234, s77_235, s77_237, s77_238, s77_241, List.cons_append, List.nil_append, if_true, if_false, true_and, and_true, and_self, eq_self, true_or, or_true, false_or, or_false, tIn, tLe, fLe, tLt, fLt, tEq, fEq, isL]
              exact fin σ5 i5
        refine go _ (frT n a) (frT n b) rfl rfl (by simpa [frT] using g0') rfl (fun z => g2 ⟨z.1, hd2.mp z.2⟩)
  | mulL c a => exact absurd (arT_1' hw.1) (nb c (by simp [fl]))
  | var i => simp [wt] at hw
  | sub a b => simp [wt] at hw
  | neg a => simp [wt] at hw
  | mulR a d => simp [wt] at hw
end TKC
