/-! the plain calls: what they answer, and the component's part -/
abbrev UNK : Int := -1000000001
abbrev OUT : Int := -1000000002
abbrev NOTc : Int := -1000000003
abbrev FUL : Int := -1000000004
def isS (x : Int) : Prop := 0 ≤ x ∧ x < 4
def f87 (S : SS) (x : Int) : Int × SS := if x < 0 ∨ 255 < x then (OUT, S) else if 240 ≤ (tx S).length then (FUL, S) else ((tx S).length + 1, (tx S ++ [x], S.2))
def f89 (S : SS) : Int × SS := (fa S, S)
def bitE (S : SS) (s : Nat) (acc : Int) : Int := if sv S s = [] then acc else bitA (· ||| ·) acc (1 * 2 ^ s)
def bitsS (S : SS) : Int := bitE S 3 (bitE S 2 (bitE S 1 (bitE S 0 0)))
def f98 (S : SS) (x : Int) : Int × SS := (if x = 0 then ((tx S).length : Int) else if x = 1 then bitsS S else if x = 2 then ((pa S).length : Int) else OUT, S)
def f95 (S : SS) (x : Int) : Int × SS := if ¬ (0 ≤ x ∧ x < 4) then (UNK, S) else if sv S x.toNat = [] then (NOTc, S) else ((sv S x.toNat).length, setS S x.toNat [])
def f92 (S : SS) (x y z : Int) : Int × SS := if ¬ ((0 ≤ x ∧ x < 4) ∧ (0 ≤ y ∧ y < 4) ∧ (0 ≤ z ∧ z < 4)) then (UNK, S) else if sv S y.toNat = [] ∨ sv S z.toNat = [] then (NOTc, S) else layS S x.toNat (1 :: (sv S y.toNat ++ sv S z.toNat))
def f97 (S : SS) : Int × SS := match pa S with
  | [] => (NOTc, S)
  | q :: ps => (ps.length, (tx S, fun j => if j = q.1 then q.2 else sv S j, fa S, ps, im S))
def f105 (S : SS) (x : Int) : Int × SS := if ¬ (0 ≤ x ∧ x < 2) then (UNK, S) else (1, (tx S, sv S, fa S, [], fun j => if j = x.toNat then some (sv S) else im S j))
def f106 (S : SS) (x : Int) : Int × SS := if ¬ (0 ≤ x ∧ x < 2) then (UNK, S) else match im S x.toNat with
  | none => (NOTc, S)
  | some f => (1, (tx S, f, fa S, [], im S))
def f103 (S : SS) (x y : Int) : Int × SS := (if ¬ ((0 ≤ x ∧ x < 4) ∧ (0 ≤ y ∧ y < 4)) then UNK else if sv S x.toNat = [] ∨ sv S y.toNat = [] then NOTc else if sv S x.toNat = sv S y.toNat then 1 else 0, S)
section PB
variable {σ : aSg} {K : List AV → aSg → Prop} {x y z i : Int} {S : SS}
theorem k89 (hR : RepC σ S) : CC m89 [.inr (.inl 0)] σ (f89 S).1 (f89 S).2 := by
  unfold CC
  rw [e89]
  simp (disch := omega) only [s89_0, s89_1, s89_4, List.cons_append, List.nil_append, if_true, if_false, true_and, and_true, and_self, eq_self, true_or, or_true, false_or, or_false, tIn, tLe, fLe, tLt, fLt, tEq, fEq, hR.2.2.2.2.1]
  exact ⟨rfl, hR, fun _ _ => rfl⟩
theorem k87 (hR : RepC σ S) : CC m87 [.inr (.inl 0), .inl x] σ (f87 S x).1 (f87 S x).2 := by
  unfold CC
  rw [e87]
  have hR0 := hR
  obtain ⟨hk, hS, hx, hsv, hfa, ⟨g, hg, hp, hring⟩, hc, him⟩ := hR
  unfold f87
  by_cases h0 : x < 0 ∨ 255 < x
  · rw [if_pos h0]
    by_cases h1 : x < 0
    · simp (disch := omega) only [s87_0, s87_1, s87_4, s87_5, s87_8, s87_11, s87_13, s87_14, s87_15, s87_18, s87_21, s87_24, s87_27, s87_29, s87_30, s87_31, s87_34, s87_35, s87_38, s87_39, s87_42, s87_45, List.cons_append, List.nil_append, if_true, if_false, true_and, and_true, and_self, eq_self, true_or, or_true, false_or, or_false, tIn, tLe, fLe, tLt, fLt, tEq, fEq]
      exact ⟨hR0, fun _ _ => rfl⟩
    · simp (disch := omega) only [s87_0, s87_1, s87_4, s87_5, s87_8, s87_11, s87_13, s87_14, s87_15, s87_18, s87_21, s87_24, s87_27, s87_29, s87_30, s87_31, s87_34, s87_35, s87_38, s87_39, s87_42, s87_45, List.cons_append, List.nil_append, if_true, if_false, true_and, and_true, and_self, eq_self, true_or, or_true, false_or, or_false, tIn, tLe, fLe, tLt, fLt, tEq, fEq]
      exact ⟨hR0, fun _ _ => rfl⟩
  · rw [if_neg h0]
    by_cases h1 : 240 ≤ (tx S).length
    · rw [if_pos h1]
      simp (disch := omega) only [s87_0, s87_1, s87_4, s87_5, s87_8, s87_11, s87_13, s87_14, s87_15, s87_18, s87_21, s87_24, s87_27, s87_29, s87_30, s87_31, s87_34, s87_35, s87_38, s87_39, s87_42, s87_45, List.cons_append, List.nil_append, if_true, if_false, true_and, and_true, and_self, eq_self, true_or, or_true, false_or, or_false, tIn, tLe, fLe, tLt, fLt, tEq, fEq, oR1, c28 row1 hk, hx]
      exact ⟨hR0, fun _ _ => rfl⟩
    · rw [if_neg h1]
      have ea : ladd (cp 1) (tx S) x = tx S ++ [x] := by rw [ladd, cp1, if_pos (by omega)]
      have hk1 : RK (rs σ 1 (tx S ++ [x])) := RK_rs hk row1 (by rw [cp1]; simp; omega)
      simp (disch := omega) only [s87_0, s87_1, s87_4, s87_5, s87_8, s87_11, s87_13, s87_14, s87_15, s87_18, s87_21, s87_24, s87_27, s87_29, s87_30, s87_31, s87_34, s87_35, s87_38, s87_39, s87_42, s87_45, List.cons_append, List.nil_append, if_true, if_false, true_and, and_true, and_self, eq_self, true_or, or_true, false_or, or_false, tIn, tLe, fLe, tLt, fLt, tEq, fEq, oR1, c28 row1 hk, c34 row1 hk, ea, hx, c28 row1 hk1, rv_rs]
      have rvk : ∀ r, isRow r → r ≠ 1 → rv (rs σ 1 (tx S ++ [x])) r = rv σ r := fun r hr hn => rv_ne row1 hr hn
      refine ⟨by simp, ⟨hk1, ?_, rv_rs, ?_, ?_, ⟨g, hg, hp.keep (rs_at (by omega) (by omega)), hring.keep hg hS.2.2.2.1 (rs_at (by omega) (by omega)) (fun k hk => rvk _ (rowP hk) (by omega))⟩, ?_, ?_⟩, fun a ha => rs_at (by omega) (by omega)⟩
      · obtain ⟨h1, h2, h3⟩ := hS
        refine ⟨by simp [tx] at *; omega, ?_, h3⟩
        intro c hc
        rcases List.mem_append.mp hc with hc | hc
        · exact h2 c hc
        · rw [List.mem_singleton.mp hc]; omega
      · intro s hs
        rw [rvk _ (rowS hs) (by omega)]; exact hsv s hs
      · rw [rs_ap (by omega) (by omega)]; exact hfa
      · rw [rs_ap (by omega) (by omega)]; exact hc
      · intro i hi
        rw [rs_ap (by omega) (by omega)]
        rcases him i hi with h | ⟨f, g1, g2, g3⟩
        · exact Or.inl h
        · refine Or.inr ⟨f, g1, g2, fun t ht => ?_⟩
          rw [rvk _ (rowI (by omega)) (by omega)]
          exact g3 t ht
theorem c110 (hR : RepC σ S) : CA m110 [.inr (.inl 0)] σ K = K [.inl (bitsS S)] σ := by
  rw [e110]
  obtain ⟨hk, hS, hx, hsv, -⟩ := hR
  have b1 : ∀ (s : Nat) (acc : Int), s < 4 → (WP m110 4 [.inr (.inl 0), .inl acc, .inl (s : Int)] [] σ K = WP m110 4 [.inr (.inl 0), .inl (bitE S s acc), .inl ((s + 1 : Nat) : Int)] [] σ K) := by
    intro s acc hs
    rw [s110_4]
    have hb : inI (1 * 2 ^ s) := by
      match s, hs with
      | 0, _ => exact ⟨by decide, by decide⟩
      | 1, _ => exact ⟨by decide, by decide⟩
      | 2, _ => exact ⟨by decide, by decide⟩
      | 3, _ => exact ⟨by decide, by decide⟩
    unfold bitE
    by_cases h0 : sv S s = []
    · simp (disch := omega) only [s110_0, s110_1, s110_2, s110_3, s110_5, s110_6, s110_9, s110_10, s110_11, s110_14, s110_17, s110_18, s110_19, s110_20, s110_21, s110_22, s110_23, s110_26, s110_29, s110_30, List.cons_append, List.nil_append, if_true, if_false, true_and, and_true, and_self, eq_self, true_or, or_true, false_or, or_false, tIn, tLe, fLe, tLt, fLt, tEq, fEq, rs_ap, aup_s, aup_n1, aup_n2, Int.toNat_natCast, c111 hs hk, hsv s hs, h0]
      rfl
    · have hb1 := hb.1
      have hb2 := hb.2
      simp (disch := omega) only [s110_0, s110_1, s110_2, s110_3, s110_5, s110_6, s110_9, s110_10, s110_11, s110_14, s110_17, s110_18, s110_19, s110_20, s110_21, s110_22, s110_23, s110_26, s110_29, s110_30, List.cons_append, List.nil_append, if_true, if_false, true_and, and_true, and_self, eq_self, true_or, or_true, false_or, or_false, tIn, tLe, fLe, tLt, fLt, tEq, fEq, rs_ap, aup_s, aup_n1, aup_n2, Int.toNat_natCast, c111 hs hk, hsv s hs, h0]
      rfl
  simp (disch := omega) only [s110_0, s110_1, s110_2, s110_3, s110_5, s110_6, s110_9, s110_10, s110_11, s110_14, s110_17, s110_18, s110_19, s110_20, s110_21, s110_22, s110_23, s110_26, s110_29, s110_30, List.cons_append, List.nil_append, if_true, if_false, true_and, and_true, and_self, eq_self, true_or, or_true, false_or, or_false, tIn, tLe, fLe, tLt, fLt, tEq, fEq, isL]
  have e0 := b1 0 0 (by omega)
  have e1 := b1 1 (bitE S 0 0) (by omega)
  have e2 := b1 2 (bitE S 1 (bitE S 0 0)) (by omega)
  have e3 := b1 3 (bitE S 2 (bitE S 1 (bitE S 0 0))) (by omega)
  refine (e0.trans (e1.trans (e2.trans e3))).trans ?_
  rw [s110_4]
  simp (disch := omega) only [s110_0, s110_1, s110_2, s110_3, s110_5, s110_6, s110_9, s110_10, s110_11, s110_14, s110_17, s110_18, s110_19, s110_20, s110_21, s110_22, s110_23, s110_26, s110_29, s110_30, List.cons_append, List.nil_append, if_true, if_false, true_and, and_true, and_self, eq_self, true_or, or_true, false_or, or_false, tIn, tLe, fLe, tLt, fLt, tEq, fEq, isL]
  rfl
theorem k98 (hR : RepC σ S) : CC m98 [.inr (.inl 0), .inl x] σ (f98 S x).1 (f98 S x).2 := by
  unfold CC
  rw [e98]
  unfold f98
  have hk := hR.1
  have hc := hR.2.2.2.2.2.2.1
  have hx := hR.2.2.1
  by_cases h0 : x = 0
  · simp (disch := omega) only [s98_0, s98_1, s98_28, s98_29, s98_32, s98_35, s98_36, s98_37, s98_40, s98_41, s98_42, s98_45, s98_48, s98_49, s98_51, List.cons_append, List.nil_append, if_true, if_false, true_and, and_true, and_self, eq_self, true_or, or_true, false_or, or_false, tIn, tLe, fLe, tLt, fLt, tEq, fEq, oR1, c28 row1 hk, hx]
    exact ⟨hR, fun _ _ => rfl⟩
  by_cases h1 : x = 1
  · simp (disch := omega) only [s98_0, s98_1, s98_28, s98_29, s98_32, s98_35, s98_36, s98_37, s98_40, s98_41, s98_42, s98_45, s98_48, s98_49, s98_51, List.cons_append, List.nil_append, if_true, if_false, true_and, and_true, and_self, eq_self, true_or, or_true, false_or, or_false, tIn, tLe, fLe, tLt, fLt, tEq, fEq, c110 hR]
    exact ⟨hR, fun _ _ => rfl⟩
  by_cases h2 : x = 2
  · simp (disch := omega) only [s98_0, s98_1, s98_28, s98_29, s98_32, s98_35, s98_36, s98_37, s98_40, s98_41, s98_42, s98_45, s98_48, s98_49, s98_51, List.cons_append, List.nil_append, if_true, if_false, true_and, and_true, and_self, eq_self, true_or, or_true, false_or, or_false, tIn, tLe, fLe, tLt, fLt, tEq, fEq, c9, hc]
    exact ⟨hR, fun _ _ => rfl⟩
  simp (disch := omega) only [s98_0, s98_1, s98_28, s98_29, s98_32, s98_35, s98_36, s98_37, s98_40, s98_41, s98_42, s98_45, s98_48, s98_49, s98_51, List.cons_append, List.nil_append, if_true, if_false, true_and, and_true, and_self, eq_self, true_or, or_true, false_or, or_false, tIn, tLe, fLe, tLt, fLt, tEq, fEq]
  exact ⟨hR, fun _ _ => rfl⟩
theorem RepC.made {l : List Int} (hR : RepC σ S) (hl : l.length ≤ 1032) : RepC (rs σ 53 l) S := hR.keep (RK_rs hR.1 row53 (by rw [cp53]; exact hl)) (fun a ha => rs_at (by omega) (by omega))
theorem CA_use {me : aMe} {as : List AV} {Q : List AV → aSg → Prop} (h : CA me as σ Q) {K : List AV → aSg → Prop} (hk : ∀ v σ', Q v σ' → K v σ') : CA me as σ K := CA_mono hk h
theorem k95 (hR : RepC σ S) : CC m95 [.inr (.inl 0), .inl x] σ (f95 S x).1 (f95 S x).2 := by
  unfold CC
  rw [e95]
  unfold f95
  have hk := hR.1
  by_cases h0 : 0 ≤ x ∧ x < 4
  · rw [if_neg (by omega)]
    obtain ⟨s, rfl⟩ := Int.eq_ofNat_of_zero_le h0.1
    have hs : s < 4 := by omega
    have hv := hR.2.2.2.1 s hs
    have hr := rowS hs
    have h1 := ptS s hs
    have k3 := kd3
    have l3 := ln3
    rw [Int.toNat_natCast]
    by_cases he : sv S s = []
    · simp (disch := omega) only [s95_0, s95_1, s95_4, s95_7, s95_9, s95_10, s95_11, s95_12, s95_15, s95_18, s95_20, s95_21, s95_22, s95_25, s95_26, s95_27, s95_30, s95_31, s95_32, s95_35, s95_38, s95_39, s95_40, s95_43, s95_44, s95_45, List.cons_append, List.nil_append, if_true, if_false, true_and, and_true, and_self, eq_self, true_or, or_true, false_or, or_false, tIn, tLe, fLe, tLt, fLt, tEq, fEq, c113, c111 hs hk, hv, he]
      exact ⟨hR, fun _ _ => rfl⟩
    · rw [if_neg he]
      simp (disch := omega) only [s95_0, s95_1, s95_4, s95_7, s95_9, s95_10, s95_11, s95_12, s95_15, s95_18, s95_20, s95_21, s95_22, s95_25, s95_26, s95_27, s95_30, s95_31, s95_32, s95_35, s95_38, s95_39, s95_40, s95_43, s95_44, s95_45, List.cons_append, List.nil_append, if_true, if_false, true_and, and_true, and_self, eq_self, true_or, or_true, false_or, or_false, tIn, tLe, fLe, tLt, fLt, tEq, fEq, rs_ap, aup_s, aup_n1, aup_n2, Int.toNat_natCast, c113, c111 hs hk, hv, he, h1.1, h1.2, kd3, ln3, hr.1, c28 hr hk, isL, oR53, c29 row53 hk]
      refine CA_use (change_ok (hR.made (by simp)) hs rv_rs (fun _ => Or.inl rfl)) (fun v σ' h => ?_)
      obtain ⟨rfl, h2, h3⟩ := h
      simp (disch := omega) only [s95_0, s95_1, s95_4, s95_7, s95_9, s95_10, s95_11, s95_12, s95_15, s95_18, s95_20, s95_21, s95_22, s95_25, s95_26, s95_27, s95_30, s95_31, s95_32, s95_35, s95_38, s95_39, s95_40, s95_43, s95_44, s95_45, List.cons_append, List.nil_append, if_true, if_false, true_and, and_true, and_self, eq_self, true_or, or_true, false_or, or_false, tIn, tLe, fLe, tLt, fLt, tEq, fEq]
      exact ⟨h2, fun a ha => (h3 a ha).trans (rs_at (by omega) (by omega))⟩
  · rw [if_pos h0]
    simp (disch := omega) only [s95_0, s95_1, s95_4, s95_7, s95_9, s95_10, s95_11, s95_12, s95_15, s95_18, s95_20, s95_21, s95_22, s95_25, s95_26, s95_27, s95_30, s95_31, s95_32, s95_35, s95_38, s95_39, s95_40, s95_43, s95_44, s95_45, List.cons_append, List.nil_append, if_true, if_false, true_and, and_true, and_self, eq_self, true_or, or_true, false_or, or_false, tIn, tLe, fLe, tLt, fLt, tEq, fEq, c113, h0]
    exact ⟨hR, fun _ _ => rfl⟩
theorem skp_app {n : Nat} {l r t : List Int} (h : skp n l = some r) : skp n (l ++ t) = some (r ++ t) := by
  induction l generalizing n with
  | nil =>
    cases n with
    | zero => simp only [skp, Option.some.injEq] at h; subst h; simp [skp]
    | succ n => simp [skp] at h
  | cons c l ih =>
    cases n with
    | zero => simp only [skp, Option.some.injEq] at h; subst h; simp [skp]
    | succ n =>
      simp only [skp] at h
      simp only [List.cons_append, skp]
      exact ih h
theorem skp_add {m n : Nat} {l r : List Int} (h : skp m l = some r) : skp (m + n) l = skp n r := by
  induction l generalizing m with
  | nil =>
    cases m with
    | zero => simp only [skp, Option.some.injEq] at h; subst h; simp
    | succ m => simp [skp] at h
  | cons c l ih =>
    cases m with
    | zero => simp only [skp, Option.some.injEq] at h; subst h; simp
    | succ m =>
      simp only [skp] at h
      rw [show m + 1 + n = (m + n) + 1 by omega]
      simp only [skp]
      rw [show m + n + arT c = (m + arT c) + n by omega]
      exact ih h
theorem wf_put {l r : List Int} (hl : wfT l) (hr : wfT r) : wfT (1 :: (l ++ r)) := by
  refine ⟨?_, fun c hc => ?_⟩
  · show skp (0 + arT 1) (l ++ r) = some []
    have e : (0 + arT 1) = 1 + 1 := rfl
    rw [e, skp_add (skp_app hl.1)]
    exact hr.1
  · rcases List.mem_cons.mp hc with e | hc
    · exact Or.inl e
    · rcases List.mem_append.mp hc with hc | hc
      · exact hl.2 c hc
      · exact hr.2 c hc
theorem sh_wf {l : List Int} (h : shOk l) (hn : ¬ l = []) : wfT l := by
  rcases h with h | h
  · exact absurd h hn
  · exact h.1
theorem k92 (hR : RepC σ S) : CC m92 [.inr (.inl 0), .inl x, .inl y, .inl z] σ (f92 S x y z).1 (f92 S x y z).2 := by
  unfold CC
  rw [e92]
  unfold f92
  have hk := hR.1
  by_cases h0 : (0 ≤ x ∧ x < 4) ∧ (0 ≤ y ∧ y < 4) ∧ (0 ≤ z ∧ z < 4)
  · rw [if_neg (fun q => q h0)]
    obtain ⟨hx, hy, hz⟩ := h0
    obtain ⟨s, rfl⟩ := Int.eq_ofNat_of_zero_le hx.1
    obtain ⟨p, rfl⟩ := Int.eq_ofNat_of_zero_le hy.1
    obtain ⟨q, rfl⟩ := Int.eq_ofNat_of_zero_le hz.1
    have hs : s < 4 := by omega
    have hp : p < 4 := by omega
    have hq : q < 4 := by omega
    have vp := hR.2.2.2.1 p hp
    have vq := hR.2.2.2.1 q hq
    have rp := rowS hp
    have rq := rowS hq
    have tp := ptS p hp
    have tq := ptS q hq
    have k3 := kd3
    have l3 := ln3
    simp only [Int.toNat_natCast]
    by_cases ep : sv S p = []
    · rw [if_pos (Or.inl ep)]
      simp (disch := omega) only [s92_0, s92_1, s92_4, s92_7, s92_8, s92_11, s92_14, s92_15, s92_18, s92_21, s92_23, s92_24, s92_25, s92_26, s92_29, s92_32, s92_33, s92_34, s92_37, s92_40, s92_42, s92_43, s92_44, s92_47, s92_50, s92_51, s92_54, s92_55, s92_58, s92_59, s92_62, s92_63, s92_66, s92_67, s92_68, s92_71, s92_72, s92_75, s92_76, s92_79, s92_80, s92_81, s92_84, s92_85, s92_86, s92_89, List.cons_append, List.nil_append, if_true, if_false, true_and, and_true, and_self, eq_self, true_or, or_true, false_or, or_false, tIn, tLe, fLe, tLt, fLt, tEq, fEq, c113, c111 hp hk, vp, ep]
      exact ⟨hR, fun _ _ => rfl⟩
    by_cases eq : sv S q = []
    · rw [if_pos (Or.inr eq)]
      simp (disch := omega) only [s92_0, s92_1, s92_4, s92_7, s92_8, s92_11, s92_14, s92_15, s92_18, s92_21, s92_23, s92_24, s92_25, s92_26, s92_29, s92_32, s92_33, s92_34, s92_37, s92_40, s92_42, s92_43, s92_44, s92_47, s92_50, s92_51, s92_54, s92_55, s92_58, s92_59, s92_62, s92_63, s92_66, s92_67, s92_68, s92_71, s92_72, s92_75, s92_76, s92_79, s92_80, s92_81, s92_84, s92_85, s92_86, s92_89, List.cons_append, List.nil_append, if_true, if_false, true_and, and_true, and_self, eq_self, true_or, or_true, false_or, or_false, tIn, tLe, fLe, tLt, fLt, tEq, fEq, c113, c111 hp hk, c111 hq hk, vp, vq, ep, eq]
      exact ⟨hR, fun _ _ => rfl⟩
    rw [if_neg (by simp [ep, eq])]
    have lp := sh_len (hR.2.1.2.2.1 p hp)
    have lq := sh_len (hR.2.1.2.2.1 q hq)
    have wp := sh_wf (hR.2.1.2.2.1 p hp) ep
    have wq := sh_wf (hR.2.1.2.2.1 q hq) eq
    have e1 : ladd (cp 53) [] 1 = [1] := by rw [cp53]; rfl
    have k1 : RK (rs σ 53 []) := RK_rs hk row53 (by simp)
    have k2 : RK (rs σ 53 [1]) := RK_rs hk row53 (by rw [cp53]; simp)
    have e2 : (sv S p).take (cp 53 - [(1 : Int)].length) = sv S p := List.take_of_length_le (by rw [cp53]; simp; omega)
    have k3' : RK (rs σ 53 ([1] ++ sv S p)) := RK_rs hk row53 (by rw [cp53]; simp; omega)
    have e3 : (sv S q).take (cp 53 - ([1] ++ sv S p).length) = sv S q := List.take_of_length_le (by rw [cp53]; simp; omega)
    have g1 : rs (rs σ 53 []) 53 [1] = rs σ 53 [1] := rs_grow (by simp)
    have g2 : rs (rs σ 53 [1]) 53 ([1] ++ sv S p) = rs σ 53 ([1] ++ sv S p) := rs_grow (by simp)
    have g3 : rs (rs σ 53 ([1] ++ sv S p)) 53 ([1] ++ sv S p ++ sv S q) = rs σ 53 ([1] ++ sv S p ++ sv S q) := rs_grow (by simp)
    have n1 : 4 + 2 * p ≠ 53 := by omega
    have n2 : 4 + 2 * q ≠ 53 := by omega
    have u1 : rv (rs σ 53 [1]) (4 + 2 * p) = sv S p := (rv_ne row53 rp n1).trans vp
    have u2 : rv (rs σ 53 ([1] ++ sv S p)) (4 + 2 * q) = sv S q := (rv_ne row53 rq n2).trans vq
    rw [s92_0]
    simp (disch := omega) only [s92_1, s92_4, s92_7, s92_8, s92_11, s92_14, s92_15, s92_18, s92_21, s92_23, s92_24, s92_25, s92_26, s92_29, s92_32, s92_33, s92_34, s92_37, s92_40, s92_42, s92_43, s92_44, s92_47, s92_50, s92_51, s92_54, s92_55, s92_58, s92_59, s92_62, s92_63, s92_66, s92_67, s92_68, s92_71, s92_72, s92_75, s92_76, s92_79, s92_80, s92_81, s92_84, s92_85, s92_86, s92_89, List.nil_append, List.cons_append, if_true, if_false, true_and, tIn, tLe, fLe, tLt, fLt, tEq, fEq, rs_ap, aup_s, aup_n1, aup_n2, Int.toNat_natCast, c113, c111 hp hk, c111 hq hk, vp, vq, ep, eq, oR53, c29 row53 hk, c34 row53 k1, rv_rs, e1, g1, and_self, kd3, ln3, tp.1, tp.2, tq.1, tq.2]
    rw [c38 row53 rp n1 k2, rv_rs, u1, e2, g2]
    simp (disch := omega) only [s92_1, s92_4, s92_7, s92_8, s92_11, s92_14, s92_15, s92_18, s92_21, s92_23, s92_24, s92_25, s92_26, s92_29, s92_32, s92_33, s92_34, s92_37, s92_40, s92_42, s92_43, s92_44, s92_47, s92_50, s92_51, s92_54, s92_55, s92_58, s92_59, s92_62, s92_63, s92_66, s92_67, s92_68, s92_71, s92_72, s92_75, s92_76, s92_79, s92_80, s92_81, s92_84, s92_85, s92_86, s92_89, List.nil_append, if_true, if_false, true_and, tIn, tLe, fLe, tLt, fLt, tEq, fEq, rs_ap, aup_s, aup_n1, aup_n2, Int.toNat_natCast, oR53, and_self, kd3, ln3, tp.1, tp.2, tq.1, tq.2]
    rw [c38 row53 rq n2 k3', rv_rs, u2, e3, g3]
    simp only [s92_1, s92_4, s92_7, s92_8, s92_11, s92_14, s92_15, s92_18, s92_21, s92_23, s92_24, s92_25, s92_26, s92_29, s92_32, s92_33, s92_34, s92_37, s92_40, s92_42, s92_43, s92_44, s92_47, s92_50, s92_51, s92_54, s92_55, s92_58, s92_59, s92_62, s92_63, s92_66, s92_67, s92_68, s92_71, s92_72, s92_75, s92_76, s92_79, s92_80, s92_81, s92_84, s92_85, s92_86, s92_89, List.nil_append]
    refine CA_use (change_ok (l := 1 :: (sv S p ++ sv S q)) (hR.made (by simp; omega)) hs (by rw [rv_rs]; simp) (fun hl => Or.inr ⟨wf_put wp wq, hl⟩)) (fun v σ' h => ?_)
    obtain ⟨rfl, h2, h3⟩ := h
    simp (disch := omega) only [s92_0, s92_1, s92_4, s92_7, s92_8, s92_11, s92_14, s92_15, s92_18, s92_21, s92_23, s92_24, s92_25, s92_26, s92_29, s92_32, s92_33, s92_34, s92_37, s92_40, s92_42, s92_43, s92_44, s92_47, s92_50, s92_51, s92_54, s92_55, s92_58, s92_59, s92_62, s92_63, s92_66, s92_67, s92_68, s92_71, s92_72, s92_75, s92_76, s92_79, s92_80, s92_81, s92_84, s92_85, s92_86, s92_89, List.cons_append, List.nil_append, if_true, if_false, true_and, and_true, and_self, eq_self, true_or, or_true, false_or, or_false, tIn, tLe, fLe, tLt, fLt, tEq, fEq]
    exact ⟨h2, fun a ha => (h3 a ha).trans (rs_at (by omega) (by omega))⟩
  · rw [if_pos h0]
    by_cases hx : 0 ≤ x ∧ x < 4
    · by_cases hy : 0 ≤ y ∧ y < 4
      · have hz : ¬ (0 ≤ z ∧ z < 4) := fun q => h0 ⟨hx, hy, q⟩
        simp (disch := omega) only [s92_0, s92_1, s92_4, s92_7, s92_8, s92_11, s92_14, s92_15, s92_18, s92_21, s92_23, s92_24, s92_25, s92_26, s92_29, s92_32, s92_33, s92_34, s92_37, s92_40, s92_42, s92_43, s92_44, s92_47, s92_50, s92_51, s92_54, s92_55, s92_58, s92_59, s92_62, s92_63, s92_66, s92_67, s92_68, s92_71, s92_72, s92_75, s92_76, s92_79, s92_80, s92_81, s92_84, s92_85, s92_86, s92_89, List.cons_append, List.nil_append, if_true, if_false, true_and, and_true, and_self, eq_self, true_or, or_true, false_or, or_false, tIn, tLe, fLe, tLt, fLt, tEq, fEq, c113, hx, hy, hz]
        exact ⟨hR, fun _ _ => rfl⟩
      · simp (disch := omega) only [s92_0, s92_1, s92_4, s92_7, s92_8, s92_11, s92_14, s92_15, s92_18, s92_21, s92_23, s92_24, s92_25, s92_26, s92_29, s92_32, s92_33, s92_34, s92_37, s92_40, s92_42, s92_43, s92_44, s92_47, s92_50, s92_51, s92_54, s92_55, s92_58, s92_59, s92_62, s92_63, s92_66, s92_67, s92_68, s92_71, s92_72, s92_75, s92_76, s92_79, s92_80, s92_81, s92_84, s92_85, s92_86, s92_89, List.cons_append, List.nil_append, if_true, if_false, true_and, and_true, and_self, eq_self, true_or, or_true, false_or, or_false, tIn, tLe, fLe, tLt, fLt, tEq, fEq, c113, hx, hy]
        exact ⟨hR, fun _ _ => rfl⟩
    · simp (disch := omega) only [s92_0, s92_1, s92_4, s92_7, s92_8, s92_11, s92_14, s92_15, s92_18, s92_21, s92_23, s92_24, s92_25, s92_26, s92_29, s92_32, s92_33, s92_34, s92_37, s92_40, s92_42, s92_43, s92_44, s92_47, s92_50, s92_51, s92_54, s92_55, s92_58, s92_59, s92_62, s92_63, s92_66, s92_67, s92_68, s92_71, s92_72, s92_75, s92_76, s92_79, s92_80, s92_81, s92_84, s92_85, s92_86, s92_89, List.cons_append, List.nil_append, if_true, if_false, true_and, and_true, and_self, eq_self, true_or, or_true, false_or, or_false, tIn, tLe, fLe, tLt, fLt, tEq, fEq, c113, hx]
      exact ⟨hR, fun _ _ => rfl⟩
end PB
