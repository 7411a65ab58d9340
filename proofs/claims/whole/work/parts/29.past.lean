/-! Past, change, the plain calls of the component -/
def setS (S : SS) (s : Nat) (l : List Int) : SS := (tx S, fun j => if j = s then l else sv S j, fa S, ((s, sv S s) :: pa S).take 10, im S)
/-- what comes of a term for a shelf -/
def layS (S : SS) (s : Nat) (l : List Int) : Int × SS := if 120 < l.length then (-1000000004, S) else (l.length, setS S s l)
section P1
variable {σ : aSg} {K : List AV → aSg → Prop} {x y i : Int} {S : SS}
theorem c9 : CA m9 [.inr (.inl 30)] σ K = K [.inl (σ 30 2)] σ := by
  rw [e9]
  simp (disch := omega) only [s9_0, s9_1, s9_4, List.cons_append, List.nil_append, if_true, if_false, true_and, and_true, and_self, eq_self, true_or, or_true, false_or, or_false, tIn, tLe, fLe, tLt, fLt, tEq, fEq]
theorem c10 : CA m10 [.inr (.inl 30)] σ K = K [] (aup σ 30 2 0) := by
  rw [e10]
  simp (disch := omega) only [s10_0, s10_1, s10_2, s10_5, List.cons_append, List.nil_append, if_true, if_false, true_and, and_true, and_self, eq_self, true_or, or_true, false_or, or_false, tIn, tLe, fLe, tLt, fLt, tEq, fEq]
theorem c12 {c : Nat} (h3 : σ 30 2 = c) (hc : 1 ≤ c ∧ c ≤ 10) : CA m12 [.inr (.inl 30)] σ K = K [.inl (σ 52 (c - 1))] σ := by
  rw [e12]
  have := ln52
  have e : ((c : Int) - 1).toNat = c - 1 := by omega
  simp (disch := omega) only [s12_0, s12_1, s12_4, s12_7, s12_8, s12_11, s12_13, s12_16, s12_17, s12_20, s12_21, s12_24, s12_25, s12_26, s12_27, s12_30, s12_31, List.cons_append, List.nil_append, if_true, if_false, true_and, and_true, and_self, eq_self, true_or, or_true, false_or, or_false, tIn, tLe, fLe, tLt, fLt, tEq, fEq, rs_ap, aup_s, aup_n1, aup_n2, Int.toNat_natCast, h3, e, kd52, ln52]
theorem c13 {c q : Nat} {g : Nat → Nat} (hg : onG g) (hp : plG σ g) (h3 : σ 30 2 = c) (hc : 1 ≤ c ∧ c ≤ 10) (hk : RK σ) (hq : isRow q) (hq0 : q < 29 ∨ 53 ≤ q) : CA m13 [.inr (.inl 30), .inr (.inl q)] σ K = K [] (rs (aup σ 30 2 ((c - 1 : Nat) : Int)) q ((rv σ (32 + 2 * g (c - 1))).take (cp q))) := by
  rw [e13]
  obtain ⟨z, hz⟩ : ∃ z, c - 1 = z := ⟨_, rfl⟩
  have ez : (c : Int) - 1 = (z : Int) := by omega
  rw [hz]
  have hm : g z < 10 := hg.1 z (by omega)
  have hr := rowP hm
  have p1 := hp z (by omega)
  have hk2 : RK (aup σ 30 2 (z : Int)) := RK_aup hk (by decide +kernel)
  have e1 : rv (aup σ 30 2 (z : Int)) (32 + 2 * g z) = rv σ (32 + 2 * g z) := rv_aup (by omega) (by omega)
  simp (disch := omega) only [s13_0, s13_1, s13_4, s13_7, s13_8, s13_11, s13_13, s13_16, s13_17, s13_18, s13_21, s13_22, s13_23, s13_26, s13_27, s13_28, s13_31, s13_32, s13_35, s13_36, s13_39, List.cons_append, List.nil_append, if_true, if_false, true_and, and_true, and_self, eq_self, true_or, or_true, false_or, or_false, tIn, tLe, fLe, tLt, fLt, tEq, fEq, rs_ap, aup_s, aup_n1, aup_n2, Int.toNat_natCast, h3, ez, p1, hq.1, c40 hq hr (show 32 + 2 * g z ≠ q by omega) hk2, e1]
theorem n30 {r : Nat} (h : isRow r) : r ≠ 30 ∧ r ≠ 31 ∧ r ≠ 52 ∧ r + 1 ≠ 30 ∧ r + 1 ≠ 31 ∧ r + 1 ≠ 52 := by
  have k1 := row_kd h
  have k2 := h.2.2.1
  refine ⟨fun e => ?_, fun e => ?_, fun e => ?_, fun e => ?_, fun e => ?_, fun e => ?_⟩
  · rw [e] at k1; exact absurd k1 (by decide +kernel)
  · rw [e, kd31] at k1; omega
  · rw [e, kd52] at k1; omega
  · rw [e] at k2; exact absurd k2 (by decide +kernel)
  · rw [e, kd31] at k2; omega
  · have e' : r = 51 := by omega
    rw [e', kd51] at k1
    omega
/-- loseOldest: all move down by one, the oldest's row goes to the end -/
theorem c14 {g : Nat → Nat} (hg : onG g) (hp : plG σ g) (Q : List AV → aSg → Prop) (hq : ∀ σ' : aSg, (∀ j, j < 9 → σ' 31 j = σ 31 (j + 1)) → σ' 31 9 = σ 31 0 → (∀ j, j < 9 → σ' 52 j = σ 52 (j + 1)) → σ' 30 2 = 9 → (∀ a, a ≠ 30 → a ≠ 31 → a ≠ 52 → σ' a = σ a) → Q [] σ') : CA m14 [.inr (.inl 30)] σ Q := by
  rw [e14]
  have l52 := ln52
  have p0 := hp 0 (by omega)
  have t0 : (0 : Int).toNat = 0 := rfl
  have t9 : (9 : Int).toNat = 9 := rfl
  have r0 := row_kd (rowP (hg.1 0 (by omega)))
  have lp : ∀ (n k : Nat) (σ1 : aSg), 10 - k = n → 1 ≤ k → k ≤ 10 → (∀ j, j + 1 < k → σ1 31 j = σ 31 (j + 1)) → (∀ j, k ≤ j + 1 → σ1 31 j = σ 31 j) → (∀ j, j + 1 < k → σ1 52 j = σ 52 (j + 1)) → (∀ j, k ≤ j + 1 → σ1 52 j = σ 52 j) → (∀ a, a ≠ 31 → a ≠ 52 → σ1 a = σ a) → WP m14 9 [.inr (.inl 30), .inr (.inl (32 + 2 * g 0)), .inl (k : Int)] [] σ1 Q := by
    intro n
    induction n with
    | zero =>
      intro k σ1 hn h1 h10 a1 a2 b1 b2 f
      have ek : k = 10 := by omega
      subst ek
      rw [s14_9]
      simp (disch := omega) only [s14_0, s14_1, s14_4, s14_5, s14_6, s14_7, s14_8, s14_10, s14_12, s14_15, s14_16, s14_19, s14_20, s14_21, s14_22, s14_23, s14_26, s14_27, s14_28, s14_29, s14_30, s14_33, s14_34, s14_35, s14_36, s14_37, s14_40, s14_41, s14_42, s14_43, s14_46, s14_49, s14_50, s14_53, s14_55, s14_56, s14_57, s14_58, s14_60, s14_63, List.cons_append, List.nil_append, if_true, if_false, true_and, and_true, and_self, eq_self, true_or, or_true, false_or, or_false, tIn, tLe, fLe, tLt, fLt, tEq, fEq, t9, r0]
      refine hq _ (fun j hj => ?_) ?_ (fun j hj => ?_) ?_ (fun a n1 n2 n3 => ?_)
      · rw [aup_n1 (by omega), aup_n2 (by omega)]
        exact a1 j (by omega)
      · rw [aup_n1 (by omega), aup_s]
        exact p0.symm
      · rw [aup_n1 (by omega), aup_n1 (by omega)]
        exact b1 j (by omega)
      · rw [aup_s]
      · rw [aup_f n1, aup_f n2]
        exact f a n2 n3
    | succ n ih =>
      intro k σ1 hn h1 h10 a1 a2 b1 b2 f
      have pk : σ1 31 k = ((32 + 2 * g k : Nat) : Int) := by rw [a2 k (by omega)]; exact hp k (by omega)
      have rk := row_kd (rowP (hg.1 k (by omega)))
      have ek : ((k : Int) - 1).toNat = k - 1 := by omega
      rw [s14_9]
      simp (disch := omega) only [s14_0, s14_1, s14_4, s14_5, s14_6, s14_7, s14_8, s14_10, s14_12, s14_15, s14_16, s14_19, s14_20, s14_21, s14_22, s14_23, s14_26, s14_27, s14_28, s14_29, s14_30, s14_33, s14_34, s14_35, s14_36, s14_37, s14_40, s14_41, s14_42, s14_43, s14_46, s14_49, s14_50, s14_53, s14_55, s14_56, s14_57, s14_58, s14_60, s14_63, List.cons_append, List.nil_append, if_true, if_false, true_and, and_true, and_self, eq_self, true_or, or_true, false_or, or_false, tIn, tLe, fLe, tLt, fLt, tEq, fEq, ek, Int.toNat_natCast, pk, rk, kd52, ln52, aup_n1]
      refine ih (k + 1) _ (by omega) (by omega) (by omega) (fun j hj => ?_) (fun j hj => ?_) (fun j hj => ?_) (fun j hj => ?_) (fun a n2 n3 => ?_)
      · rw [aup_n1 (by omega)]
        by_cases e : j = k - 1
        · subst e
          rw [aup_s, show k - 1 + 1 = k by omega, ← a2 k (by omega)]
          exact pk.symm
        · rw [aup_n2 e]
          exact a1 j (by omega)
      · rw [aup_n1 (by omega), aup_n2 (by omega)]
        exact a2 j (by omega)
      · by_cases e : j = k - 1
        · subst e
          rw [aup_s, show k - 1 + 1 = k by omega]
          exact b2 k (by omega)
        · rw [aup_n2 e, aup_n1 (by omega)]
          exact b1 j (by omega)
      · rw [aup_n2 (by omega), aup_n1 (by omega)]
        exact b2 j (by omega)
      · rw [aup_f n3, aup_f n2]
        exact f a n2 n3
  simp (disch := omega) only [s14_0, s14_1, s14_4, s14_5, s14_6, s14_7, s14_8, s14_10, s14_12, s14_15, s14_16, s14_19, s14_20, s14_21, s14_22, s14_23, s14_26, s14_27, s14_28, s14_29, s14_30, s14_33, s14_34, s14_35, s14_36, s14_37, s14_40, s14_41, s14_42, s14_43, s14_46, s14_49, s14_50, s14_53, s14_55, s14_56, s14_57, s14_58, s14_60, s14_63, List.cons_append, List.nil_append, if_true, if_false, true_and, and_true, and_self, eq_self, true_or, or_true, false_or, or_false, tIn, tLe, fLe, tLt, fLt, tEq, fEq, t0, p0, Int.toNat_natCast, isL]
  exact lp 9 1 σ (by omega) (by omega) (by omega) (fun j hj => by omega) (fun _ _ => rfl) (fun j hj => by omega) (fun _ _ => rfl) (fun _ _ _ => rfl)
/-- remember, where there is room -/
theorem c11a {c s q : Nat} {g : Nat → Nat} (hg : onG g) (hp : plG σ g) (h3 : σ 30 2 = c) (hc : c < 10) (hk : RK σ) (hq : isRow q) (hq2 : q < 29 ∨ 53 ≤ q) : WP m11 13 [.inr (.inl 30), .inl (s : Int), .inr (.inl q)] [] σ K = K [] (aup (aup (rs σ (32 + 2 * g c) ((rv σ q).take 120)) 52 c s) 30 2 ((c + 1 : Nat) : Int)) := by
  have hm := hg.1 c hc
  have hr := rowP hm
  have p1 := hp c hc
  have l4 := ln52
  simp (disch := omega) only [s11_0, s11_1, s11_4, s11_6, s11_9, s11_10, s11_13, s11_14, s11_17, s11_20, s11_21, s11_24, s11_26, s11_29, s11_30, s11_33, s11_34, s11_37, s11_38, s11_39, s11_42, s11_43, s11_46, s11_47, s11_50, s11_51, s11_52, s11_53, s11_54, s11_57, s11_58, s11_59, s11_62, List.cons_append, List.nil_append, if_true, if_false, true_and, and_true, and_self, eq_self, true_or, or_true, false_or, or_false, tIn, tLe, fLe, tLt, fLt, tEq, fEq, rs_ap, aup_s, aup_n1, aup_n2, Int.toNat_natCast, h3, p1, kd52, ln52, hr.1, c40 hr hq (show q ≠ 32 + 2 * g c by omega) hk, cpP (g c) hm]
  rw [show (c : Int) + 1 = ((c + 1 : Nat) : Int) by omega]
/-- what is there behind it -/
theorem c11b {c s : Nat} {L : List Int} {g : Nat → Nat} (hg : onG g) (hp : plG σ g) (hc : c < 10) (hk : RK σ) (hL : L.length ≤ 120) (σ' : aSg) (h : σ' = aup (aup (rs σ (32 + 2 * g c) L) 52 c s) 30 2 ((c + 1 : Nat) : Int)) : RK σ' ∧ plG σ' g ∧ σ' 30 2 = ((c + 1 : Nat) : Int) ∧ σ' 52 c = (s : Int) ∧ rv σ' (32 + 2 * g c) = L ∧ (∀ j, j < c → σ' 52 j = σ 52 j ∧ rv σ' (32 + 2 * g j) = rv σ (32 + 2 * g j)) ∧ ∀ a, a < 30 ∨ 53 ≤ a → σ' a = σ a := by
  have hm := hg.1 c hc
  have hr := rowP hm
  have hrv : ∀ r, isRow r → rv σ' r = rv (rs σ (32 + 2 * g c) L) r := fun r hr => by
    obtain ⟨n1, n2, n3, n4, n5, n6⟩ := n30 hr
    rw [h, rv_aup n1 n4, rv_aup n3 n6]
  refine ⟨?_, fun j hj => ?_, ?_, ?_, ?_, fun j hj => ⟨?_, ?_⟩, fun a ha => ?_⟩
  · rw [h]
    exact RK_aup (RK_aup (RK_rs hk hr (by rw [cpP _ hm]; exact hL)) (by rw [kd52]; omega)) (by decide +kernel)
  · rw [h, aup_n1 (by omega), aup_n1 (by omega), rs_ap (by omega) (by omega)]
    exact hp j hj
  · rw [h, aup_s]
  · rw [h, aup_n1 (by omega), aup_s]
  · rw [hrv _ hr, rv_rs]
  · rw [h, aup_n1 (by omega), aup_n2 (by omega), rs_ap (by omega) (by omega)]
  · have hj10 := hg.1 j (by omega)
    rw [hrv _ (rowP hj10), rv_ne hr (rowP hj10)]
    intro e
    exact absurd (hg.2 j c (by omega) hc (by omega)) (by omega)
  · rw [h, aup_f (by omega), aup_f (by omega), rs_at (by omega) (by omega)]
theorem c11 {c s q : Nat} {g : Nat → Nat} (hg : onG g) (hp : plG σ g) (h3 : σ 30 2 = c) (hc : c ≤ 10) (hk : RK σ) (hq : isRow q) (hq2 : q < 29 ∨ 53 ≤ q) (Q : List AV → aSg → Prop) (hQ : ∀ (σ' : aSg) (g' : Nat → Nat) (d : Nat), (d = if c < 10 then c else 9) → RK σ' → onG g' → plG σ' g' → σ' 30 2 = ((d + 1 : Nat) : Int) → σ' 52 d = (s : Int) → rv σ' (32 + 2 * g' d) = (rv σ q).take 120 → (∀ j, j < d → σ' 52 j = σ 52 (j + (c - d)) ∧ rv σ' (32 + 2 * g' j) = rv σ (32 + 2 * g (j + (c - d)))) → (∀ a, a < 30 ∨ 53 ≤ a → σ' a = σ a) → Q [] σ') : CA m11 [.inr (.inl 30), .inl (s : Int), .inr (.inl q)] σ Q := by
  have hL : ((rv σ q).take 120).length ≤ 120 := by simp; omega
  rw [e11]
  by_cases h0 : c < 10
  · simp (disch := omega) only [s11_0, s11_1, s11_4, s11_6, s11_9, s11_10, s11_14, s11_17, s11_20, s11_21, s11_24, s11_26, s11_29, s11_30, s11_33, s11_34, s11_37, s11_38, s11_39, s11_42, s11_43, s11_46, s11_47, s11_50, s11_51, s11_52, s11_53, s11_54, s11_57, s11_58, s11_59, s11_62, List.cons_append, List.nil_append, if_true, if_false, true_and, and_true, and_self, eq_self, true_or, or_true, false_or, or_false, tIn, tLe, fLe, tLt, fLt, tEq, fEq, h3]
    rw [c11a hg hp h3 h0 hk hq hq2]
    obtain ⟨a1, a2, a3, a4, a5, a6, a7⟩ := c11b (s := s) hg hp h0 hk hL _ rfl
    refine hQ _ g c (by rw [if_pos h0]) a1 hg a2 a3 a4 a5 (fun j hj => ?_) a7
    rw [show j + (c - c) = j by omega]
    exact a6 j hj
  · have ec : c = 10 := by omega
    subst ec
    simp (disch := omega) only [s11_0, s11_1, s11_4, s11_6, s11_9, s11_10, s11_14, s11_17, s11_20, s11_21, s11_24, s11_26, s11_29, s11_30, s11_33, s11_34, s11_37, s11_38, s11_39, s11_42, s11_43, s11_46, s11_47, s11_50, s11_51, s11_52, s11_53, s11_54, s11_57, s11_58, s11_59, s11_62, List.cons_append, List.nil_append, if_true, if_false, true_and, and_true, and_self, eq_self, true_or, or_true, false_or, or_false, tIn, tLe, fLe, tLt, fLt, tEq, fEq, h3]
    refine c14 hg hp _ (fun σ1 b1 b2 b3 b4 b5 => ?_)
    obtain ⟨g1, eg⟩ : ∃ g1 : Nat → Nat, g1 = fun j => if j < 9 then g (j + 1) else g 0 := ⟨_, rfl⟩
    have g9 : ∀ j, j < 9 → g1 j = g (j + 1) := fun j hj => by rw [eg]; exact if_pos hj
    have g0 : g1 9 = g 0 := by rw [eg]; rfl
    have hg1 : onG g1 := by
      refine ⟨fun j hj => ?_, fun i j hi hj e => ?_⟩
      · by_cases h : j < 9
        · rw [g9 j h]; exact hg.1 _ (by omega)
        · rw [show j = 9 by omega, g0]; exact hg.1 _ (by omega)
      · by_cases h : i < 9
        · rw [g9 i h] at e
          by_cases h' : j < 9
          · rw [g9 j h'] at e
            have := hg.2 _ _ (by omega) (by omega) e
            omega
          · rw [show j = 9 by omega, g0] at e
            have := hg.2 _ _ (by omega) (by omega) e
            omega
        · rw [show i = 9 by omega, g0] at e
          by_cases h' : j < 9
          · rw [g9 j h'] at e
            have := hg.2 _ _ (by omega) (by omega) e
            omega
          · omega
    have hp1 : plG σ1 g1 := by
      intro j hj
      by_cases h : j < 9
      · rw [b1 j h, g9 j h]; exact hp _ (by omega)
      · rw [show j = 9 by omega, b2, g0]; exact hp _ (by omega)
    have hk1 : RK σ1 := by
      intro r hr
      obtain ⟨n1, n2, n3, n4, n5, n6⟩ := n30 hr
      rw [b5 r n1 n2 n3]
      exact hk r hr
    have rv1 : ∀ r, isRow r → rv σ1 r = rv σ r := fun r hr => by
      obtain ⟨n1, n2, n3, n4, n5, n6⟩ := n30 hr
      exact rv_same (b5 r n1 n2 n3) (b5 (r + 1) n4 n5 n6)
    have b4' : σ1 30 2 = ((9 : Nat) : Int) := b4
    simp only [List.nil_append]
    rw [c11a hg1 hp1 b4' (by omega) hk1 hq hq2, rv1 q hq]
    obtain ⟨a1, a2, a3, a4, a5, a6, a7⟩ := c11b (s := s) hg1 hp1 (show 9 < 10 by omega) hk1 hL _ rfl
    refine hQ _ g1 9 (by rw [if_neg (by omega)]) a1 hg1 a2 a3 a4 a5 (fun j hj => ?_) (fun a ha => ?_)
    · obtain ⟨d1, d2⟩ := a6 j hj
      refine ⟨?_, ?_⟩
      · rw [d1, b3 j hj]
      · rw [d2, g9 j hj]
        exact rv1 _ (rowP (hg.1 _ (by omega)))
    · rw [a7 a ha]
      exact b5 a (by omega) (by omega) (by omega)
theorem SOk_set {s : Nat} {l : List Int} (h : SOk S) (hs : s < 4) (hl : shOk l) : SOk (setS S s l) := by
  obtain ⟨h1, h2, h3, h4, h5, h6, h7⟩ := h
  refine ⟨h1, h2, fun j hj => ?_, ?_, fun q hq => ?_, h6, h7⟩
  · show shOk (if j = s then l else sv S j)
    split
    · exact hl
    · exact h3 j hj
  · show (((s, sv S s) :: pa S).take 10).length ≤ 10
    simp
    omega
  · rcases List.mem_cons.mp (List.mem_of_mem_take hq) with e | e
    · rw [e]; exact ⟨hs, h3 s hs⟩
    · exact h5 q e
theorem sh_len {l : List Int} (h : shOk l) : l.length ≤ 120 := by
  rcases h with rfl | h
  · simp
  · exact h.2
theorem change_ok {s : Nat} {l : List Int} (hR : RepC σ S) (hs : s < 4) (hl : rv σ 53 = l) (hw : l.length ≤ 120 → shOk l) : CC m107 [.inr (.inl 0), .inl (s : Int)] σ (layS S s l).1 (layS S s l).2 := by
  unfold CC
  rw [e107]
  have hR0 := hR
  obtain ⟨hk, hS, hx, hsv, hfa, ⟨g, hg, hp, hring⟩, hc, him⟩ := hR
  have h1 := ptS s hs
  have hr := rowS hs
  have k3 := kd3
  have l3 := ln3
  have hq : s < 4 := hs
  unfold layS
  by_cases h0 : 120 < l.length
  · rw [if_pos h0]
    simp (disch := omega) only [s107_0, s107_1, s107_4, s107_7, s107_9, s107_10, s107_11, s107_14, s107_17, s107_19, s107_22, s107_24, s107_25, s107_26, s107_29, s107_30, s107_31, s107_34, s107_35, s107_36, s107_39, s107_40, s107_43, s107_44, s107_45, s107_46, s107_49, s107_52, s107_53, s107_56, s107_59, List.cons_append, List.nil_append, if_true, if_false, true_and, and_true, and_self, eq_self, true_or, or_true, false_or, or_false, tIn, tLe, fLe, tLt, fLt, tEq, fEq, rs_ap, aup_s, aup_n1, aup_n2, Int.toNat_natCast, c113, oR53, c28 row53 hk, hl]
    exact ⟨hR0, fun _ _ => rfl⟩
  · rw [if_neg h0]
    have hlen : (pa S).length ≤ 10 := hS.2.2.2.1
    have hl120 : l.take 120 = l := List.take_of_length_le (by omega)
    generalize hQ : (fun (v : List AV) (σ' : aSg) => v = [.inl ((l.length : Int), setS S s l).1] ∧ RepC σ' ((l.length : Int), setS S s l).2 ∧ FrC σ σ') = Q
    simp (disch := omega) only [s107_0, s107_1, s107_4, s107_7, s107_9, s107_10, s107_11, s107_14, s107_17, s107_19, s107_22, s107_24, s107_25, s107_26, s107_29, s107_30, s107_31, s107_34, s107_35, s107_36, s107_39, s107_40, s107_43, s107_44, s107_45, s107_46, s107_49, s107_52, s107_53, s107_56, s107_59, List.cons_append, List.nil_append, if_true, if_false, true_and, and_true, and_self, eq_self, true_or, or_true, false_or, or_false, tIn, tLe, fLe, tLt, fLt, tEq, fEq, rs_ap, aup_s, aup_n1, aup_n2, Int.toNat_natCast, c113, oR53, c28 row53 hk, hl, kd3, ln3, h1.1, h1.2]
    refine c11 hg hp hc hlen hk hr (by omega) _ (fun σ1 g1 d ed hk1 hg1 hp1 a3 a4 a5 a6 a7 => ?_)
    have hd10 : d < 10 := by split at ed <;> omega
    have rv1 : ∀ r, r < 29 ∨ 53 ≤ r → rv σ1 r = rv σ r := fun r h => rv_same (a7 r (by omega)) (a7 (r + 1) (by omega))
    have e53 : rv σ1 53 = l := by rw [rv1 53 (by omega), hl]
    have hk2 : RK (rs σ1 (4 + 2 * s) l) := RK_rs hk1 hr (by rw [cpS s hs]; omega)
    have e54 : rv (rs σ1 (4 + 2 * s) l) 53 = l := by rw [rv_ne hr row53 (by omega), e53]
    simp (disch := omega) only [s107_0, s107_1, s107_4, s107_7, s107_9, s107_10, s107_11, s107_14, s107_17, s107_19, s107_22, s107_24, s107_25, s107_26, s107_29, s107_30, s107_31, s107_34, s107_35, s107_36, s107_39, s107_40, s107_43, s107_44, s107_45, s107_46, s107_49, s107_52, s107_53, s107_56, s107_59, List.cons_append, List.nil_append, if_true, if_false, true_and, and_true, and_self, eq_self, true_or, or_true, false_or, or_false, tIn, tLe, fLe, tLt, fLt, tEq, fEq, rs_ap, aup_s, aup_n1, aup_n2, Int.toNat_natCast, oR53, kd3, ln3, h1.1, h1.2, hr.1, c40 hr row53 (show 53 ≠ 4 + 2 * s by omega) hk1, e53, cpS s hs, hl120, c28 row53 hk2, e54]
    rw [← hQ]
    have hrv2 : ∀ q, isRow q → (q < 29 ∨ 53 ≤ q) → q ≠ 4 + 2 * s → rv (rs σ1 (4 + 2 * s) l) q = rv σ q := fun q hq h1 h2 => by rw [rv_ne hr hq h2, rv1 q h1]
    have hrvP : ∀ k, k < 10 → rv (rs σ1 (4 + 2 * s) l) (32 + 2 * k) = rv σ1 (32 + 2 * k) := fun k hk => rv_ne hr (rowP hk) (by omega)
    have hap : ∀ a, a ≠ 4 + 2 * s → a ≠ 5 + 2 * s → (a < 30 ∨ 53 ≤ a) → (rs σ1 (4 + 2 * s) l) a = σ a := by
      intro a g1 g2 g3
      rw [rs_at g1 (by omega), a7 a g3]
    have epa : pa (setS S s l) = ((s, sv S s) :: pa S).take 10 := rfl
    have elen : (pa (setS S s l)).length = d + 1 := by
      rw [epa, ed]
      simp
      split <;> omega
    refine ⟨rfl, ⟨hk2, SOk_set hS hs (hw (by omega)), ?_, ?_, ?_, ⟨g1, hg1, hp1.keep (rs_at (by omega) (by omega)), ?_⟩, ?_, ?_⟩, ?_⟩
    · rw [hrv2 1 row1 (by omega) (by omega)]; exact hx
    · intro j hj
      show _ = if j = s then l else sv S j
      by_cases e : j = s
      · rw [if_pos e, e, rv_rs]
      · rw [if_neg e, hrv2 _ (rowS hj) (by omega) (by omega)]
        exact hsv j hj
    · rw [hap 0 (by omega) (by omega) (by omega)]; exact hfa
    · intro j q hq
      have hj := (List.getElem?_eq_some_iff.mp hq).1
      rw [elen] at hj ⊢
      have hq' : ((s, sv S s) :: pa S)[j]? = some q := by
        rw [epa, List.getElem?_take, if_pos (by omega)] at hq
        exact hq
      rw [rs_ap (by omega) (by omega), hrvP _ (hg1.1 _ (by omega))]
      match j, hq' with
      | 0, hq' =>
        cases hq'
        rw [show d + 1 - 1 - 0 = d by omega]
        refine ⟨a4, ?_⟩
        rw [a5, hsv s hs]
        exact List.take_of_length_le (sh_len (hS.2.2.1 s hs))
      | j + 1, hq' =>
        have hq2 : (pa S)[j]? = some q := by simpa using hq'
        have hj2 := (List.getElem?_eq_some_iff.mp hq2).1
        obtain ⟨r1, r2⟩ := hring j q hq2
        obtain ⟨d1, d2⟩ := a6 (d + 1 - 1 - (j + 1)) (by omega)
        have ei : d + 1 - 1 - (j + 1) + ((pa S).length - d) = (pa S).length - 1 - j := by
          split at ed <;> omega
        rw [ei] at d1 d2
        exact ⟨d1.trans r1, d2.trans r2⟩
    · rw [rs_ap (by omega) (by omega), a3, elen]
    · intro i hi
      rw [hap 29 (by omega) (by omega) (by omega)]
      rcases him i hi with h | ⟨f, g1, g2, g3⟩
      · exact Or.inl h
      · refine Or.inr ⟨f, g1, g2, fun t ht => ?_⟩
        rw [hrv2 _ (rowI (by omega)) (by omega) (by omega)]
        exact g3 t ht
    · intro a ha
      exact hap a (by omega) (by omega) (by omega)
end P1
