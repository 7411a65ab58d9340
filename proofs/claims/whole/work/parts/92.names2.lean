/-! Sorter: all names' kinds -/
/-- how many names and binders -/
def isNB (c : Int) : Bool := decide ((97 ≤ c ∧ c ≤ 122) ∨ 1000 < c)
def nmc (l : List Int) : Nat := l.countP isNB
theorem nmc_s {T : List Int} {p : Nat} (h : p < T.length) : nmc (T.take (p + 1)) = nmc (T.take p) + if isNB T[p] = true then 1 else 0 := by
  unfold nmc
  rw [List.take_succ_eq_append_getElem h, List.countP_append]
  simp [List.countP_cons]
section NMK2
variable {σ σ0 σ' : aSg} {K : List AV → aSg → Prop} {x y z c : Int} {n n' : Nat} {fr to : Nat → Int} {o o' ρ : Nat → Nat} {i j r k l a b p q t : Nat} {v v' : Nat → Ty} {τ : Ty} {T CK FK : List Int} {lb lb' : Nat → Lb}
theorem lat_ap {l : List Int} {x : Int} {i : Nat} (h : i < l.length) : lat (l ++ [x]) (i : Int) = lat l (i : Int) := by
  rw [lat_i2 h, lat_i2 (by rw [List.length_append]; omega)]
  exact List.getElem_append_left h
theorem lat_al {l : List Int} {x : Int} : lat (l ++ [x]) (l.length : Int) = x := by
  rw [lat_i2 (by rw [List.length_append]; simp)]
  simp
theorem lb_ap {x : Int} (hc : CK.length = p) (h : ∀ q : Nat, q < p → lbOK T n lb q (lat CK (q : Int))) (hx : lbOK T n lb p x) (q : Nat) (hq : q < p + 1) : lbOK T n lb q (lat (CK ++ [x]) (q : Int)) := by
  by_cases z : q < p
  · rw [lat_ap (by omega)]; exact h q z
  · obtain rfl : q = p := by omega
    have := lat_al (l := CK) (x := x)
    rw [hc] at this
    rw [this]; exact hx
theorem wr54 (h : NKI σ0 σ t T 0 fr to o CK FK) (hs : ∀ v, Sl 0 fr to o v) (ht : isRow t) (ht2 : t < 53) (hT : isT T) (hkT : tks T) (hl : T.length ≤ 120) (Q : List AV → aSg → Prop) (hq : ∀ (σ' : aSg) (n' : Nat) (fr' to' : Nat → Int) (o' : Nat → Nat) (CK' FK' : List Int) (lb' : Nat → Lb), NKI σ0 σ' t T n' fr' to' o' CK' FK' → n' ≤ T.length → CK'.length = T.length → (∀ q : Nat, q < T.length → lbOK T n' lb' q (lat CK' (q : Int))) → (∀ v, Sl n' fr' to' o' v) → LbJ n' lb' T.length → n' ≤ nmc T → Q [] σ') : CA m54 [.inr (.inl 108), .inr (.inl t)] σ Q := by
  rw [e54]
  have cp115 : cp 115 = 120 := by decide
  have lp : ∀ (d p : Nat) (σ : aSg) (n : Nat) (fr to : Nat → Int) (o : Nat → Nat) (CK FK : List Int) (lb : Nat → Lb) (z : AV), p + d = T.length → NKI σ0 σ t T n fr to o CK FK → CK.length = p → n ≤ p → (∀ q : Nat, q < p → lbOK T n lb q (lat CK (q : Int))) → fkOK n lb FK → (∀ v, Sl n fr to o v) → LbJ n lb p → n ≤ nmc (T.take p) → WP m54 19 [.inr (.inl 108), .inr (.inl t), .inl (p : Int), z] [] σ Q := by
    intro d
    induction d with
    | zero =>
      intro p σ n fr to o CK FK lb z hp h hc hnp hok hfk hs hJ hnc
      have hk := h.1.1
      have e0 : (p : Int) = (T.length : Int) := by omega
      rw [s54_19]
      simp (disch := omega) only [s54_0, s54_1, s54_4, s54_7, s54_8, s54_11, s54_13, s54_14, s54_17, s54_18, s54_20, s54_21, s54_24, s54_27, s54_28, s54_29, s54_32, s54_33, s54_34, s54_37, s54_40, s54_41, s54_44, s54_45, s54_48, s54_51, s54_54, s54_55, s54_58, s54_59, s54_62, s54_65, s54_66, s54_67, s54_68, s54_71, s54_74, s54_75, s54_78, s54_81, s54_84, List.cons_append, List.nil_append, if_true, if_false, true_and, and_true, and_self, eq_self, true_or, or_true, false_or, or_false, tIn, tLe, fLe, tLt, fLt, tEq, fEq, isL, ht.1, c28 ht hk, h.2.2.2.2.1, e0]
      exact hq σ n fr to o CK FK lb h (by omega) (by omega) (fun q hq => hok q (by omega)) hs (by rw [show T.length = p by omega]; exact hJ) (by rw [show p = T.length by omega, List.take_length] at hnc; exact hnc)
    | succ d ih =>
      intro p σ n fr to o CK FK lb z hp h hc hnp hok hfk hs hJ hnc
      have hk := h.1.1
      have hpl : p < T.length := by omega
      have el := lat_i2 hpl
      have hg : T.getD p 0 = T[p] := by rw [List.getD_eq_getElem?_getD, List.getElem?_eq_getElem hpl]; rfl
      have tk := hkT _ (List.getElem_mem hpl)
      have h5 := h.2.2.2.2.1
      have p1 : (p : Int) + 1 = ((p + 1 : Nat) : Int) := by omega
      rw [s54_19]
      by_cases g1 : 1000 < T[p]
      · simp (disch := omega) only [s54_0, s54_1, s54_4, s54_7, s54_8, s54_11, s54_13, s54_14, s54_17, s54_18, s54_20, s54_21, s54_24, s54_27, s54_28, s54_29, s54_32, s54_33, s54_34, s54_37, s54_40, s54_41, s54_44, s54_45, s54_48, s54_51, s54_54, s54_55, s54_58, s54_59, s54_62, s54_65, s54_66, s54_67, s54_68, s54_71, s54_74, s54_75, s54_78, s54_81, s54_84, List.cons_append, List.nil_append, if_true, if_false, true_and, and_true, and_self, eq_self, true_or, or_true, false_or, or_false, tIn, tLe, fLe, tLt, fLt, tEq, fEq, isL, ht.1, c28 ht hk, c30 ht hk, h5, el, c117, if_pos g1]
        refine unk_e h.1 (by omega) _ (fun σ1 fr1 to1 o1 i1 E1 => ?_)
        have N1 := NKI_k h (by omega) i1
        simp (disch := omega) only [s54_0, s54_1, s54_4, s54_7, s54_8, s54_11, s54_13, s54_14, s54_17, s54_18, s54_20, s54_21, s54_24, s54_27, s54_28, s54_29, s54_32, s54_33, s54_34, s54_37, s54_40, s54_41, s54_44, s54_45, s54_48, s54_51, s54_54, s54_55, s54_58, s54_59, s54_62, s54_65, s54_66, s54_67, s54_68, s54_71, s54_74, s54_75, s54_78, s54_81, s54_84, List.cons_append, List.nil_append, if_true, if_false, true_and, and_true, and_self, eq_self, true_or, or_true, false_or, or_false, tIn, tLe, fLe, tLt, fLt, tEq, fEq, isL, row115.1]
        refine radd_ok row115 N1.1.1 N1.2.1 (by omega) _ (fun σ2 k2 w2 f2 => ?_)
        have N2 := NKI_w N1 ht (by omega) row115 (Or.inl rfl) k2 f2 w2 ((FrW_rv f2 row115 row117 (by omega)).trans N1.2.2.1)
        simp (disch := omega) only [s54_0, s54_1, s54_4, s54_7, s54_8, s54_11, s54_13, s54_14, s54_17, s54_18, s54_20, s54_21, s54_24, s54_27, s54_28, s54_29, s54_32, s54_33, s54_34, s54_37, s54_40, s54_41, s54_44, s54_45, s54_48, s54_51, s54_54, s54_55, s54_58, s54_59, s54_62, s54_65, s54_66, s54_67, s54_68, s54_71, s54_74, s54_75, s54_78, s54_81, s54_84, List.cons_append, List.nil_append, if_true, if_false, true_and, and_true, and_self, eq_self, true_or, or_true, false_or, or_false, tIn, tLe, fLe, tLt, fLt, tEq, fEq, isL, p1]
        have hlb : ∀ i, i < n → (fun i => if i = n then (.inl p : Lb) else lb i) i = lb i := fun i hi => by simp only [if_neg (show ¬ i = n by omega)]
        refine ih (p + 1) σ2 (n + 1) fr1 to1 o1 _ FK (fun i => if i = n then .inl p else lb i) _ (by omega) N2 (by rw [List.length_append, hc]; rfl) (by omega) (lb_ap hc (fun q hq => lbOK_mono (by omega) hlb (hok q hq)) ?_) ⟨hfk.1, fun j hj => ?_⟩ (fun v => (E1 v).mpr (hs v)) (LbJ_up hJ (fun i hi e => absurd (hJ.2 i p hi e) (by omega)) (fun b z => by cases z; omega) (by omega)) (by rw [nmc_s hpl, if_pos (by unfold isNB; exact decide_eq_true (Or.inr g1))]; omega)
        · unfold lbOK
          rw [hg, if_pos g1]
          exact ⟨n, by omega, rfl, by simp⟩
        · rcases hfk.2 j hj with ⟨w, wn⟩ | ⟨i, w1, w2, w3⟩
          · refine Or.inl ⟨w, fun i hi e => ?_⟩
            by_cases z2 : i = n
            · simp only [if_pos z2] at e
              cases e
            · simp only [if_neg z2] at e
              exact wn i (by omega) e
          · exact Or.inr ⟨i, by omega, w2, by rw [hlb i w1]; exact w3⟩
      · by_cases g2 : 97 ≤ T[p] ∧ T[p] ≤ 122
        · simp (disch := omega) only [s54_0, s54_1, s54_4, s54_7, s54_8, s54_11, s54_13, s54_14, s54_17, s54_18, s54_20, s54_21, s54_24, s54_27, s54_28, s54_29, s54_32, s54_33, s54_34, s54_37, s54_40, s54_41, s54_44, s54_45, s54_48, s54_51, s54_54, s54_55, s54_58, s54_59, s54_62, s54_65, s54_66, s54_67, s54_68, s54_71, s54_74, s54_75, s54_78, s54_81, s54_84, List.cons_append, List.nil_append, if_true, if_false, true_and, and_true, and_self, eq_self, true_or, or_true, false_or, or_false, tIn, tLe, fLe, tLt, fLt, tEq, fEq, isL, ht.1, c28 ht hk, c30 ht hk, h5, el, c117, c116, if_neg g1, if_pos g2, row115.1]
          refine wr55 h ht ht2 hT hkT hl (by omega) hpl (by rw [hg]; exact g2) hc hok hfk hJ _ (fun σ1 n1 fr1 to1 o1 FK1 lb1 i N1 b1 b2 hlb hfk1 hi hil hs1 hJ1 => ?_)
          simp (disch := omega) only [s54_0, s54_1, s54_4, s54_7, s54_8, s54_11, s54_13, s54_14, s54_17, s54_18, s54_20, s54_21, s54_24, s54_27, s54_28, s54_29, s54_32, s54_33, s54_34, s54_37, s54_40, s54_41, s54_44, s54_45, s54_48, s54_51, s54_54, s54_55, s54_58, s54_59, s54_62, s54_65, s54_66, s54_67, s54_68, s54_71, s54_74, s54_75, s54_78, s54_81, s54_84, List.cons_append, List.nil_append, if_true, if_false, true_and, and_true, and_self, eq_self, true_or, or_true, false_or, or_false, tIn, tLe, fLe, tLt, fLt, tEq, fEq, isL, row115.1]
          refine radd_ok row115 N1.1.1 N1.2.1 (by omega) _ (fun σ2 k2 w2 f2 => ?_)
          have N2 := NKI_w N1 ht (by omega) row115 (Or.inl rfl) k2 f2 w2 ((FrW_rv f2 row115 row117 (by omega)).trans N1.2.2.1)
          simp (disch := omega) only [s54_0, s54_1, s54_4, s54_7, s54_8, s54_11, s54_13, s54_14, s54_17, s54_18, s54_20, s54_21, s54_24, s54_27, s54_28, s54_29, s54_32, s54_33, s54_34, s54_37, s54_40, s54_41, s54_44, s54_45, s54_48, s54_51, s54_54, s54_55, s54_58, s54_59, s54_62, s54_65, s54_66, s54_67, s54_68, s54_71, s54_74, s54_75, s54_78, s54_81, s54_84, List.cons_append, List.nil_append, if_true, if_false, true_and, and_true, and_self, eq_self, true_or, or_true, false_or, or_false, tIn, tLe, fLe, tLt, fLt, tEq, fEq, isL, p1]
          refine ih (p + 1) σ2 n1 fr1 to1 o1 _ FK1 lb1 _ (by omega) N2 (by rw [List.length_append, hc]; rfl) (by omega) (lb_ap hc (fun q hq => lbOK_mono (by omega) hlb (hok q hq)) ?_) hfk1 (hs1 hs) ⟨hJ1.1, fun i b h1 h2 => Nat.lt_succ_of_lt (hJ1.2 i b h1 h2)⟩ (by rw [nmc_s hpl, if_pos (by unfold isNB; exact decide_eq_true (Or.inl g2))]; omega)
          unfold lbOK
          rw [hg, if_neg g1, if_pos g2]
          exact ⟨i, hi, rfl, hil⟩
        · simp (disch := omega) only [s54_0, s54_1, s54_4, s54_7, s54_8, s54_11, s54_13, s54_14, s54_17, s54_18, s54_20, s54_21, s54_24, s54_27, s54_28, s54_29, s54_32, s54_33, s54_34, s54_37, s54_40, s54_41, s54_44, s54_45, s54_48, s54_51, s54_54, s54_55, s54_58, s54_59, s54_62, s54_65, s54_66, s54_67, s54_68, s54_71, s54_74, s54_75, s54_78, s54_81, s54_84, List.cons_append, List.nil_append, if_true, if_false, true_and, and_true, and_self, eq_self, true_or, or_true, false_or, or_false, tIn, tLe, fLe, tLt, fLt, tEq, fEq, isL, ht.1, c28 ht hk, c30 ht hk, h5, el, c117, c116, if_neg g1, if_neg g2, row115.1]
          refine radd_ok row115 hk h.2.1 (by omega) _ (fun σ2 k2 w2 f2 => ?_)
          have N2 := NKI_w h ht (by omega) row115 (Or.inl rfl) k2 f2 w2 ((FrW_rv f2 row115 row117 (by omega)).trans h.2.2.1)
          simp (disch := omega) only [s54_0, s54_1, s54_4, s54_7, s54_8, s54_11, s54_13, s54_14, s54_17, s54_18, s54_20, s54_21, s54_24, s54_27, s54_28, s54_29, s54_32, s54_33, s54_34, s54_37, s54_40, s54_41, s54_44, s54_45, s54_48, s54_51, s54_54, s54_55, s54_58, s54_59, s54_62, s54_65, s54_66, s54_67, s54_68, s54_71, s54_74, s54_75, s54_78, s54_81, s54_84, List.cons_append, List.nil_append, if_true, if_false, true_and, and_true, and_self, eq_self, true_or, or_true, false_or, or_false, tIn, tLe, fLe, tLt, fLt, tEq, fEq, isL, p1]
          refine ih (p + 1) σ2 n fr to o _ FK lb _ (by omega) N2 (by rw [List.length_append, hc]; rfl) (by omega) (lb_ap hc hok ?_) hfk hs ⟨hJ.1, fun i b h1 h2 => Nat.lt_succ_of_lt (hJ.2 i b h1 h2)⟩ (by rw [nmc_s hpl]; omega)
          unfold lbOK
          rw [hg, if_neg g1, if_neg g2]
  have hk := h.1.1
  simp (disch := omega) only [s54_0, s54_1, s54_4, s54_7, s54_8, s54_11, s54_13, s54_14, s54_17, s54_18, s54_20, s54_21, s54_24, s54_27, s54_28, s54_29, s54_32, s54_33, s54_34, s54_37, s54_40, s54_41, s54_44, s54_45, s54_48, s54_51, s54_54, s54_55, s54_58, s54_59, s54_62, s54_65, s54_66, s54_67, s54_68, s54_71, s54_74, s54_75, s54_78, s54_81, s54_84, List.cons_append, List.nil_append, if_true, if_false, true_and, and_true, and_self, eq_self, true_or, or_true, false_or, or_false, tIn, tLe, fLe, tLt, fLt, tEq, fEq, isL, row115.1]
  refine rclr_ok row115 hk _ (fun σ1 k1 w1 f1 => ?_)
  have N1 := NKI_w h ht (by omega) row115 (Or.inl rfl) k1 f1 w1 ((FrW_rv f1 row115 row117 (by omega)).trans h.2.2.1)
  have c7 : cp 117 = 26 := by decide
  have rp : (List.replicate (min (26 : Int).toNat (cp 117)) (-1 : Int)) = List.replicate 26 (-1) := by rw [c7]; rfl
  obtain ⟨k2, w2, f2⟩ := sums_ok k1 row117 (l := List.replicate 26 (-1)) (by rw [c7]; exact Nat.le_of_eq List.length_replicate)
  have N2 := NKI_w N1 ht (by omega) row117 (Or.inr rfl) k2 f2 ((FrW_rv f2 row117 row115 (by omega)).trans N1.2.1) w2
  simp (disch := omega) only [s54_0, s54_1, s54_4, s54_7, s54_8, s54_11, s54_13, s54_14, s54_17, s54_18, s54_20, s54_21, s54_24, s54_27, s54_28, s54_29, s54_32, s54_33, s54_34, s54_37, s54_40, s54_41, s54_44, s54_45, s54_48, s54_51, s54_54, s54_55, s54_58, s54_59, s54_62, s54_65, s54_66, s54_67, s54_68, s54_71, s54_74, s54_75, s54_78, s54_81, s54_84, List.cons_append, List.nil_append, if_true, if_false, true_and, and_true, and_self, eq_self, true_or, or_true, false_or, or_false, tIn, tLe, fLe, tLt, fLt, tEq, fEq, isL, row117.1, c37 row117 k1, rp]
  refine lp T.length 0 _ 0 fr to o _ _ (fun _ => .inl 0) _ (by omega) N2 rfl (by omega) (fun q hq => absurd hq (by omega)) ⟨List.length_replicate, fun j hj => Or.inl ⟨?_, fun i hi => absurd hi (by omega)⟩⟩ hs ⟨fun i j hi => absurd hi (by omega), fun i b hi => absurd hi (by omega)⟩ (Nat.zero_le _)
  rw [lat_i2 (by rw [List.length_replicate]; exact hj)]
  exact List.getElem_replicate _
end NMK2
