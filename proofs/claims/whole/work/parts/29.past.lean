/-! Past, change, the plain calls of the component -/
def setS (S : SS) (s : Nat) (l : List Int) : SS := (tx S, fun j => if j = s then l else sv S j, fa S, ((s, sv S s) :: pa S).take 10, im S)
/-- what comes of a term for a shelf -/
def layS (S : SS) (s : Nat) (l : List Int) : Int × SS := if 120 < l.length then (-1000000004, S) else (l.length, setS S s l)
section P1
variable {σ : aSg} {K : List AV → aSg → Prop} {x y i : Int} {S : SS}
theorem c9 : CA m9 [.inr (.inl 30)] σ K = K [.inl (σ 30 3)] σ := by
  rw [e9]
  simp (disch := omega) only [s9_0, s9_1, s9_4, List.cons_append, List.nil_append, if_true, if_false, true_and, and_true, and_self, eq_self, true_or, or_true, false_or, or_false, tIn, tLe, fLe, tLt, fLt, tEq, fEq]
theorem c10 : CA m10 [.inr (.inl 30)] σ K = K [] (aup σ 30 3 0) := by
  rw [e10]
  simp (disch := omega) only [s10_0, s10_1, s10_2, s10_5, List.cons_append, List.nil_append, if_true, if_false, true_and, and_true, and_self, eq_self, true_or, or_true, false_or, or_false, tIn, tLe, fLe, tLt, fLt, tEq, fEq]
theorem c14 {nx : Nat} (hn : nx < 10) (h2 : σ 30 2 = nx) : CA m14 [.inr (.inl 30)] σ K = K [.inl (((nx + 9) % 10 : Nat) : Int)] σ := by
  rw [e14]
  simp (disch := omega) only [s14_0, s14_1, s14_4, s14_6, s14_7, s14_8, s14_9, s14_11, s14_12, List.cons_append, List.nil_append, if_true, if_false, true_and, and_true, and_self, eq_self, true_or, or_true, false_or, or_false, tIn, tLe, fLe, tLt, fLt, tEq, fEq, h2]
  rw [show ((nx : Int) + 10 - 1) % 10 = (((nx + 9) % 10 : Nat) : Int) by omega]
theorem c12 {nx : Nat} (hn : nx < 10) (h2 : σ 30 2 = nx) : CA m12 [.inr (.inl 30)] σ K = K [.inl (σ 52 ((nx + 9) % 10))] σ := by
  rw [e12]
  have := ln52
  simp (disch := omega) only [s12_0, s12_1, s12_4, s12_5, s12_8, s12_9, List.cons_append, List.nil_append, if_true, if_false, true_and, and_true, and_self, eq_self, true_or, or_true, false_or, or_false, tIn, tLe, fLe, tLt, fLt, tEq, fEq, rs_ap, aup_s, aup_n1, aup_n2, Int.toNat_natCast, c14 hn h2, kd52, ln52]
theorem c11 {nx c s q : Nat} (hn : nx < 10) (h2 : σ 30 2 = nx) (h3 : σ 30 3 = c) (hc : c ≤ 10) (hk : RK σ) (hq : isRow q) (hq2 : q ≠ 32 + 2 * nx) : CA m11 [.inr (.inl 30), .inl (s : Int), .inr (.inl q)] σ K = K [] (aup (aup (aup (rs σ (32 + 2 * nx) ((rv σ q).take 120)) 52 nx s) 30 2 (((nx + 1) % 10 : Nat) : Int)) 30 3 ((min (c + 1) 10 : Nat) : Int)) := by
  rw [e11]
  have h1 := ptP nx hn
  have hr := rowP hn
  have k3 := kd31
  have l3 := ln31
  have l4 := ln52
  simp (disch := omega) only [s11_0, s11_1, s11_4, s11_5, s11_8, s11_9, s11_10, s11_13, s11_14, s11_17, s11_18, s11_21, s11_22, s11_23, s11_24, s11_25, s11_28, s11_29, s11_30, s11_32, s11_33, s11_36, s11_37, s11_38, s11_41, s11_42, s11_43, s11_45, s11_48, s11_51, List.cons_append, List.nil_append, if_true, if_false, true_and, and_true, and_self, eq_self, true_or, or_true, false_or, or_false, tIn, tLe, fLe, tLt, fLt, tEq, fEq, rs_ap, aup_s, aup_n1, aup_n2, Int.toNat_natCast, h1.1, h1.2, h2, h3, kd31, ln31, kd52, ln52, hr.1, c40 hr hq hq2 hk, cpP nx hn]
  rw [show ((nx : Int) + 1) % 10 = (((nx + 1) % 10 : Nat) : Int) by omega, show min ((c : Int) + 1) 10 = ((min (c + 1) 10 : Nat) : Int) by omega]
theorem c13 {nx c q : Nat} (hn : nx < 10) (h2 : σ 30 2 = nx) (h3 : σ 30 3 = c) (hc : 1 ≤ c ∧ c ≤ 10) (hk : RK σ) (hq : isRow q) (hq0 : q < 29 ∨ 53 ≤ q) : CA m13 [.inr (.inl 30), .inr (.inl q)] σ K = K [] (aup (rs (aup σ 30 2 (((nx + 9) % 10 : Nat) : Int)) q ((rv σ (32 + 2 * ((nx + 9) % 10))).take (cp q))) 30 3 ((c - 1 : Nat) : Int)) := by
  rw [e13]
  have hm : (nx + 9) % 10 < 10 := Nat.mod_lt _ (by omega)
  obtain ⟨z, hz⟩ : ∃ z, (nx + 9) % 10 = z := ⟨_, rfl⟩
  rw [hz] at hm ⊢
  have h1 := ptP z hm
  have hr := rowP hm
  have hk2 : RK (aup σ 30 2 (z : Int)) := RK_aup hk (by decide +kernel)
  have k3 := kd31
  have l3 := ln31
  have e1 : rv (aup σ 30 2 (z : Int)) (32 + 2 * z) = rv σ (32 + 2 * z) := rv_aup (by omega) (by omega)
  simp (disch := omega) only [s13_0, s13_1, s13_2, s13_5, s13_8, s13_9, s13_10, s13_13, s13_14, s13_17, s13_18, s13_21, s13_22, s13_23, s13_26, s13_27, s13_28, s13_29, s13_32, s13_35, List.cons_append, List.nil_append, if_true, if_false, true_and, and_true, and_self, eq_self, true_or, or_true, false_or, or_false, tIn, tLe, fLe, tLt, fLt, tEq, fEq, rs_ap, aup_s, aup_n1, aup_n2, Int.toNat_natCast, c14 hn h2, hz, h1.1, h1.2, h3, kd31, ln31, hr.1, hq.1, c40 hq hr (show 32 + 2 * z ≠ q by omega) hk2, e1]
  rw [show max ((c : Int) - 1) 0 = ((c - 1 : Nat) : Int) by omega]
theorem SOk_set {s : Nat} {l : List Int} (h : SOk S) (hs : s < 4) (hl : shOk l) : SOk (setS S s l) := by
  obtain ⟨h1, h2, h3, h4, h5, h6, h7⟩ := h
  refine ⟨h1, h2, fun j hj => ?_, ?_, fun q hq => ?_, h6, h7⟩
  · show shOk (if j = s then l else sv S j)
    split
    · exact hl
    · exact h3 j hj
  · show (((s, sv S s) :: pa S).take 10).length ≤ 10
    simp
    omega
  · rcases List.mem_cons.mp (List.mem_of_mem_take hq) with e | e
    · rw [e]; exact ⟨hs, h3 s hs⟩
    · exact h5 q e
theorem sh_len {l : List Int} (h : shOk l) : l.length ≤ 120 := by
  rcases h with rfl | h
  · simp
  · exact h.2
theorem change_ok {s : Nat} {l : List Int} (hR : RepC σ S) (hs : s < 4) (hl : rv σ 53 = l) (hw : l.length ≤ 120 → shOk l) : CC m107 [.inr (.inl 0), .inl (s : Int)] σ (layS S s l).1 (layS S s l).2 := by
  unfold CC
  rw [e107]
  have hR0 := hR
  obtain ⟨hk, hS, hx, hsv, hfa, ⟨nx, hn, hn2, hring⟩, hc, him⟩ := hR
  have h1 := ptS s hs
  have hr := rowS hs
  have k3 := kd3
  have l3 := ln3
  have hq : s < 4 := hs
  unfold layS
  by_cases h0 : 120 < l.length
  · rw [if_pos h0]
    simp (disch := omega) only [s107_0, s107_1, s107_4, s107_7, s107_9, s107_10, s107_11, s107_14, s107_17, s107_19, s107_22, s107_24, s107_25, s107_26, s107_29, s107_30, s107_31, s107_34, s107_35, s107_36, s107_39, s107_40, s107_43, s107_44, s107_45, s107_46, s107_49, s107_52, s107_53, s107_56, s107_59, List.cons_append, List.nil_append, if_true, if_false, true_and, and_true, and_self, eq_self, true_or, or_true, false_or, or_false, tIn, tLe, fLe, tLt, fLt, tEq, fEq, rs_ap, aup_s, aup_n1, aup_n2, Int.toNat_natCast, c113, oR53, c28 row53 hk, hl]
    exact ⟨hR0, fun _ _ => rfl⟩
  · rw [if_neg h0]
    have hlen : (pa S).length ≤ 10 := hS.2.2.2.1
    -- behind remember
    obtain ⟨σ1, hσ1⟩ : ∃ z, z = aup (aup (aup (rs σ (32 + 2 * nx) ((rv σ (4 + 2 * s)).take 120)) 52 nx s) 30 2 (((nx + 1) % 10 : Nat) : Int)) 30 3 ((min ((pa S).length + 1) 10 : Nat) : Int) := ⟨_, rfl⟩
    have hk1 : RK σ1 := by
      rw [hσ1]
      exact RK_aup (RK_aup (RK_aup (RK_rs hk (rowP hn) (by rw [cpP nx hn]; simp; omega)) (by rw [kd52]; omega)) (by decide +kernel)) (by decide +kernel)
    have hrv : ∀ q, isRow q → q ≠ 32 + 2 * nx → rv σ1 q = rv σ q := by
      intro q hq hne
      have k1 := row_kd hq
      have n1 : q ≠ 30 := fun e => by rw [e] at k1; exact absurd k1 (by decide +kernel)
      have n2 : q ≠ 52 := fun e => by rw [e, kd52] at k1; omega
      have n3 : q + 1 ≠ 30 := fun e => by have := hq.2.2.1; rw [e] at this; exact absurd this (by decide +kernel)
      have n4 : q + 1 ≠ 52 := fun e => by
        have e' : q = 51 := by omega
        rw [e', kd51] at k1
        omega
      rw [hσ1, rv_aup n1 n3, rv_aup n1 n3, rv_aup n2 n4, rv_ne (rowP hn) hq hne]
    have e53 : rv σ1 53 = l := by rw [hrv 53 row53 (by omega), hl]
    simp (disch := omega) only [s107_0, s107_1, s107_4, s107_7, s107_9, s107_10, s107_11, s107_14, s107_17, s107_19, s107_22, s107_24, s107_25, s107_26, s107_29, s107_30, s107_31, s107_34, s107_35, s107_36, s107_39, s107_40, s107_43, s107_44, s107_45, s107_46, s107_49, s107_52, s107_53, s107_56, s107_59, List.cons_append, List.nil_append, if_true, if_false, true_and, and_true, and_self, eq_self, true_or, or_true, false_or, or_false, tIn, tLe, fLe, tLt, fLt, tEq, fEq, rs_ap, aup_s, aup_n1, aup_n2, Int.toNat_natCast, c113, oR53, c28 row53 hk, hl, kd3, ln3, h1.1, h1.2, c11 hn hn2 hc hlen hk hr (show 4 + 2 * s ≠ 32 + 2 * nx by omega), ← hσ1, hr.1, c40 hr row53 (show 53 ≠ 4 + 2 * s by omega) hk1, e53, cpS s hs]
    have hk2 : RK (rs σ1 (4 + 2 * s) (l.take 120)) := RK_rs hk1 hr (by rw [cpS s hs]; simp; omega)
    have e54 : rv (rs σ1 (4 + 2 * s) (l.take 120)) 53 = l := by rw [rv_ne hr row53 (by omega), e53]
    simp (disch := omega) only [s107_0, s107_1, s107_4, s107_7, s107_9, s107_10, s107_11, s107_14, s107_17, s107_19, s107_22, s107_24, s107_25, s107_26, s107_29, s107_30, s107_31, s107_34, s107_35, s107_36, s107_39, s107_40, s107_43, s107_44, s107_45, s107_46, s107_49, s107_52, s107_53, s107_56, s107_59, List.cons_append, List.nil_append, if_true, if_false, true_and, and_true, and_self, eq_self, true_or, or_true, false_or, or_false, tIn, tLe, fLe, tLt, fLt, tEq, fEq, rs_ap, aup_s, aup_n1, aup_n2, Int.toNat_natCast, c28 row53 hk2, e54]
    have hl120 : l.take 120 = l := List.take_of_length_le (by omega)
    rw [hl120] at hk2 ⊢
    have hrv2 : ∀ q, isRow q → q ≠ 32 + 2 * nx → q ≠ 4 + 2 * s → rv (rs σ1 (4 + 2 * s) l) q = rv σ q := fun q hq h1 h2 => by rw [rv_ne hr hq h2, hrv q hq h1]
    have hap : ∀ a j, a ≠ 4 + 2 * s → a ≠ 5 + 2 * s → a ≠ 32 + 2 * nx → a ≠ 33 + 2 * nx → a ≠ 52 → a ≠ 30 → (rs σ1 (4 + 2 * s) l) a j = σ a j := by
      intro a j g1 g2 g3 g4 g5 g6
      rw [rs_ap g1 (by omega), hσ1, aup_n1 g6, aup_n1 g6, aup_n1 g5, rs_ap g3 (by omega)]
    refine ⟨⟨hk2, SOk_set hS hs (hw (by omega)), ?_, ?_, ?_, ⟨(nx + 1) % 10, Nat.mod_lt _ (by omega), ?_, ?_⟩, ?_, ?_⟩, ?_⟩
    · rw [hrv2 1 row1 (by omega) (by omega)]; exact hx
    · intro j hj
      show _ = if j = s then l else sv S j
      by_cases e : j = s
      · rw [if_pos e, e, rv_rs]
      · rw [if_neg e, hrv2 _ (rowS hj) (by omega) (by omega)]
        exact hsv j hj
    · rw [hap 0 12 (by omega) (by omega) (by omega) (by omega) (by omega) (by omega)]; exact hfa
    · rw [rs_ap (by omega) (by omega), hσ1, aup_n2 (by omega), aup_s]
    · intro j q hq
      have hj10 : j < 10 := by
        have := (List.getElem?_eq_some_iff.mp hq).1
        have h2 : (((s, sv S s) :: pa S).take 10).length ≤ 10 := by simp; omega
        exact Nat.lt_of_lt_of_le this h2
      have hq' : ((s, sv S s) :: pa S)[j]? = some q := by
        have e : pa (setS S s l) = ((s, sv S s) :: pa S).take 10 := rfl
        rw [e, List.getElem?_take, if_pos hj10] at hq
        exact hq
      rw [rs_ap (by omega) (by omega)]
      match j, hq' with
      | 0, hq' =>
        cases hq'
        have e1 : ((nx + 1) % 10 + 9 - 0) % 10 = nx := by omega
        rw [e1]
        refine ⟨?_, ?_⟩
        · rw [hσ1, aup_n1 (by omega), aup_n1 (by omega), aup_s]
        · rw [rv_ne hr (rowP hn) (by omega), hσ1, rv_aup (by omega) (by omega), rv_aup (by omega) (by omega), rv_aup (by omega) (by omega), rv_rs, hsv s hs]
          exact List.take_of_length_le (sh_len (hS.2.2.1 s hs))
      | j + 1, hq' =>
        have hq2 : (pa S)[j]? = some q := by simpa using hq'
        have e1 : ((nx + 1) % 10 + 9 - (j + 1)) % 10 = (nx + 9 - j) % 10 := by omega
        have e2 : (nx + 9 - j) % 10 ≠ nx := by omega
        have e3 : (nx + 9 - j) % 10 < 10 := Nat.mod_lt _ (by omega)
        obtain ⟨r1, r2⟩ := hring j q hq2
        rw [e1]
        refine ⟨?_, ?_⟩
        · rw [hσ1, aup_n1 (by omega), aup_n1 (by omega), aup_n2 e2, rs_ap (by omega) (by omega)]
          exact r1
        · rw [hrv2 _ (rowP e3) (by omega) (by omega)]
          exact r2
    · rw [rs_ap (by omega) (by omega), hσ1, aup_s]
      show _ = ((((s, sv S s) :: pa S).take 10).length : Int)
      simp
      omega
    · intro i hi
      rw [hap 29 i (by omega) (by omega) (by omega) (by omega) (by omega) (by omega)]
      rcases him i hi with h | ⟨f, g1, g2, g3⟩
      · exact Or.inl h
      · refine Or.inr ⟨f, g1, g2, fun t ht => ?_⟩
        rw [hrv2 _ (rowI (by omega)) (by omega) (by omega)]
        exact g3 t ht
    · intro a ha
      funext j
      exact hap a j (by omega) (by omega) (by omega) (by omega) (by omega) (by omega)
end P1
