/-! things: the reference -/
def pI (N i : Nat) : Nat := if i < N then N - 1 - i else i
def cT (c : Int) : Int := if c = 2 then -7 else tau c
def nodR (σ : aSg) (N i : Nat) (v : Int × Nat × Nat) : Prop := σ 140 (pI N i) = cT v.1 ∧ (v.1 = 1 → σ 141 (pI N i) = (pI N v.2.1 : Int) ∧ σ 142 (pI N i) = (pI N v.2.2 : Int)) ∧ (v.1 = 2 → σ 141 (pI N i) = (pI N v.2.1 : Int))
def RGr (σ : aSg) (G : Gr) (N : Nat) : Prop := σ 130 23 = (G.length : Int) ∧ N ≤ G.length ∧ G.length ≤ 600 ∧ ∀ i, i < G.length → nodR σ N i (G.getD i (0, 0, 0))
section TRG
variable {σ σ0 σ' : aSg} {K : List AV → aSg → Prop} {x y z c : Int} {T W st F I L R C s : List Int} {r q t i j k p h m w N : Nat} {G G' : Gr} {ρ : Nat → Nat} {v : Int × Nat × Nat} {X : Gr}
theorem pI_lt {n : Nat} (h : N ≤ n) (hi : i < n) : pI N i < n := by unfold pI; split <;> omega
theorem pI_inj (h : pI N i = pI N j) : i = j := by
  unfold pI at h
  split at h <;> split at h <;> omega
theorem pI_big (h : N ≤ i) : pI N i = i := by unfold pI; rw [if_neg (by omega)]
theorem cT_2 : cT 2 = -7 := rfl
theorem cT_1 : cT 1 = 0 := rfl
theorem cT_t (h : tok c) : cT c = tau c ∧ ¬ cT c = -7 := by
  have h1 : ¬ c = 2 := by unfold tok at h; omega
  have h2 := tau_in h
  unfold cT
  rw [if_neg h1]
  exact ⟨rfl, by omega⟩
theorem RGr_k (h : RGr σ G N) (h0 : σ' 140 = σ 140) (h1 : σ' 141 = σ 141) (h2 : σ' 142 = σ 142) (h3 : σ' 130 23 = σ 130 23) : RGr σ' G N := by
  obtain ⟨a1, a2, a3, a4⟩ := h
  refine ⟨by rw [h3]; exact a1, a2, a3, fun i hi => ?_⟩
  unfold nodR
  rw [h0, h1, h2]
  exact a4 i hi
theorem RG_at (h : RGr σ G N) (hi : i < G.length) : σ 140 (pI N i) = cT (cl G i) ∧ (cl G i = 1 → σ 141 (pI N i) = (pI N (lf G i) : Int) ∧ σ 142 (pI N i) = (pI N (rt G i) : Int)) ∧ (cl G i = 2 → σ 141 (pI N i) = (pI N (lf G i) : Int)) := h.2.2.2 i hi
theorem c170 (h : RGr σ G N) (hW : WG G ρ) (hi : i < G.length) (hj : Rl G i j) : CA m170 [.inr (.inl 130), .inl (pI N i : Int)] σ K = K [.inl (pI N j : Int)] σ := by
  refine CA_eq ?_
  rw [e170]
  have l0 := ln140
  have l1 := ln141
  have hN := h.2.1
  have hG := h.2.2.1
  simp (disch := omega) only [s170_0, s170_1, s170_3, s170_6, s170_7, s170_8, s170_10, s170_13, s170_14, s170_17, s170_18, s170_19, s170_20, s170_23, s170_24, List.cons_append, List.nil_append, if_true, if_false, true_and, and_true, and_self, eq_self, true_or, or_true, false_or, or_false, tIn, tLe, fLe, tLt, fLt, tEq, fEq, isL]
  have lp : ∀ (n i : Nat), ρ i ≤ n → i < G.length → Rl G i j → ∀ l1 : Int, WP m170 2 [.inr (.inl 130), .inl l1, .inl (pI N i : Int)] [] σ (fun v σ' => v = [.inl (pI N j : Int)] ∧ σ' = σ) := by
    intro n
    induction n with
    | zero =>
      intro i h1 h2 h3 l1
      obtain ⟨b1, b2, b3⟩ := RG_at h h2
      have hp := pI_lt hN h2
      rw [s170_2]
      rcases hW i h2 with q | q | q
      · omega
      · omega
      · obtain ⟨t1, t2⟩ := cT_t q.1
        have : i = j := Rl_un (Rl_self (by intro z; have := q.1; rw [z] at this; unfold tok at this; omega)) h3
        subst this
        simp (disch := omega) only [s170_0, s170_1, s170_3, s170_6, s170_7, s170_8, s170_10, s170_13, s170_14, s170_17, s170_18, s170_19, s170_20, s170_23, s170_24, List.cons_append, List.nil_append, if_true, if_false, true_and, and_true, and_self, eq_self, true_or, or_true, false_or, or_false, tIn, tLe, fLe, tLt, fLt, tEq, fEq, isL, kd140, ln140, Int.toNat_natCast, b1]
    | succ n ih =>
      intro i h1 h2 h3 l1
      obtain ⟨b1, b2, b3⟩ := RG_at h h2
      have hp := pI_lt hN h2
      rw [s170_2]
      rcases hW i h2 with q | q | q
      · have : i = j := Rl_un (Rl_self (by rw [q.1]; omega)) h3
        subst this
        rw [q.1, cT_1] at b1
        simp (disch := omega) only [s170_0, s170_1, s170_3, s170_6, s170_7, s170_8, s170_10, s170_13, s170_14, s170_17, s170_18, s170_19, s170_20, s170_23, s170_24, List.cons_append, List.nil_append, if_true, if_false, true_and, and_true, and_self, eq_self, true_or, or_true, false_or, or_false, tIn, tLe, fLe, tLt, fLt, tEq, fEq, isL, kd140, ln140, Int.toNat_natCast, b1]
      · have b4 := b3 q.1
        rw [q.1, cT_2] at b1
        simp (disch := omega) only [s170_0, s170_1, s170_3, s170_6, s170_7, s170_8, s170_10, s170_13, s170_14, s170_17, s170_18, s170_19, s170_20, s170_23, s170_24, List.cons_append, List.nil_append, if_true, if_false, true_and, and_true, and_self, eq_self, true_or, or_true, false_or, or_false, tIn, tLe, fLe, tLt, fLt, tEq, fEq, isL, kd140, ln140, Int.toNat_natCast, b1, kd141, ln141, b4]
        exact ih (lf G i) (by omega) q.2.1 (Rl_lk' q.1 h3) _
      · obtain ⟨t1, t2⟩ := cT_t q.1
        have : i = j := Rl_un (Rl_self (by intro z; have := q.1; rw [z] at this; unfold tok at this; omega)) h3
        subst this
        simp (disch := omega) only [s170_0, s170_1, s170_3, s170_6, s170_7, s170_8, s170_10, s170_13, s170_14, s170_17, s170_18, s170_19, s170_20, s170_23, s170_24, List.cons_append, List.nil_append, if_true, if_false, true_and, and_true, and_self, eq_self, true_or, or_true, false_or, or_false, tIn, tLe, fLe, tLt, fLt, tEq, fEq, isL, kd140, ln140, Int.toNat_natCast, b1]
  exact lp (ρ i) i (Nat.le_refl _) hi hj _
theorem c169 {n : Nat} (hn : σ 130 23 = (n : Int)) (h : n < 640) : CA m169 [.inr (.inl 130), .inl x, .inl y, .inl z] σ K = K [.inl (n : Int)] (aup (aup (aup (aup σ 140 n x) 141 n y) 142 n z) 130 23 ((n : Int) + 1)) := by
  rw [e169]
  have l0 := ln140
  have l1 := ln141
  have l2 := ln142
  have e1 : (aup σ 140 n x) 130 23 = (n : Int) := by rw [aup_n1 (by omega)]; exact hn
  have e2 : (aup (aup σ 140 n x) 141 n y) 130 23 = (n : Int) := by rw [aup_n1 (by omega)]; exact e1
  have e3 : (aup (aup (aup σ 140 n x) 141 n y) 142 n z) 130 23 = (n : Int) := by rw [aup_n1 (by omega)]; exact e2
  have e4 : (n : Int) + 1 - 1 = (n : Int) := by omega
  simp (disch := omega) only [s169_0, s169_1, s169_4, s169_5, s169_8, s169_9, s169_10, s169_11, s169_14, s169_15, s169_18, s169_19, s169_20, s169_21, s169_24, s169_25, s169_28, s169_29, s169_30, s169_31, s169_32, s169_35, s169_36, s169_37, s169_40, s169_41, s169_44, s169_45, s169_46, List.cons_append, List.nil_append, if_true, if_false, true_and, and_true, and_self, eq_self, true_or, or_true, false_or, or_false, tIn, tLe, fLe, tLt, fLt, tEq, fEq, isL, hn, kd140, ln140, kd141, ln141, kd142, ln142, Int.toNat_natCast, e1, e2, e3, aup_s, e4]
theorem RGr_new (h : RGr σ G N) (hw : w < G.length) (hX : G.length + X.length ≤ 600) (h0 : ∀ i, i < G.length → i ≠ w → σ' 140 (pI N i) = σ 140 (pI N i) ∧ σ' 141 (pI N i) = σ 141 (pI N i) ∧ σ' 142 (pI N i) = σ 142 (pI N i)) (h1 : nodR σ' N w v) (h2 : ∀ k, k < X.length → nodR σ' N (G.length + k) (X.getD k (0, 0, 0))) (h3 : σ' 130 23 = ((G.length + X.length : Nat) : Int)) : RGr σ' (G.set w v ++ X) N := by
  have hlen : (G.set w v ++ X).length = G.length + X.length := by simp
  refine ⟨by rw [h3, hlen], by rw [hlen]; have := h.2.1; omega, by rw [hlen]; exact hX, fun i hi => ?_⟩
  rw [hlen] at hi
  by_cases g : i < G.length
  · rw [gs_in hw g]
    by_cases q : i = w
    · rw [if_pos q, q]; exact h1
    · rw [if_neg q]
      obtain ⟨a1, a2, a3⟩ := h0 i g q
      have := h.2.2.2 i g
      unfold nodR at this ⊢
      rw [a1, a2, a3]
      exact this
  · have e := gs_out (G := G) (v := v) (X := X) (w := w) (k := i - G.length)
    rw [show G.length + (i - G.length) = i by omega] at e
    rw [e]
    have := h2 (i - G.length) (by omega)
    rw [show G.length + (i - G.length) = i by omega] at this
    exact this
/-- what changes() may change -/
abbrev FrB (σ σ' : aSg) : Prop := (∀ a, a ≠ 140 → a ≠ 141 → a ≠ 142 → a ≠ 130 → σ' a = σ a) ∧ ∀ j, j ≠ 23 → σ' 130 j = σ 130 j
end TRG
