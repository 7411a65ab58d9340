/-! Sorter: one step of the search for a kind -/
def cst (c : Int) : Nat := if c = 1 then 2 else if 1000 < c then 1 else if 97 ≤ c ∧ c ≤ 122 then 0 else 9
def FdC (n n0 : Nat) (lb : Nat → Lb) (T CK : List Int) (p : Nat) : Prop := CK.length = T.length ∧ (∀ q : Nat, q < p → q < T.length → lbOK T n0 lb q (lat CK (q : Int))) ∧ ∀ q : Nat, p ≤ q → q < T.length → ∃ a : Nat, a < n ∧ lat CK (q : Int) = (a : Int)
section STP
variable {σ σ0 σ' : aSg} {n n' n0 : Nat} {fr to fr' to' : Nat → Int} {o o' : Nat → Nat} {lb : Nat → Lb} {T CK CK' FK : List Int} {p q t : Nat}
theorem FdC_st {κ : Nat} (h : FdC n n0 lb T CK (p + 1)) (hp : p < T.length) (hn : n ≤ n') (hκ : κ < n') : FdC n' n0 lb T (lset CK (p : Int) (κ : Int)) p := by
  obtain ⟨h1, h2, h3⟩ := h
  refine ⟨by rw [lset_len]; exact h1, fun q hq hl => ?_, fun q hq hl => ?_⟩
  · rw [lset_at (by omega), if_neg (by omega)]
    exact h2 q (by omega) hl
  · rw [lset_at (by omega)]
    by_cases g : q = p
    · rw [if_pos g]; exact ⟨κ, hκ, rfl⟩
    · rw [if_neg g]
      obtain ⟨a, a1, a2⟩ := h3 q (by omega) hl
      exact ⟨a, by omega, a2⟩
theorem wr56 (h : NKI σ0 σ t T n fr to o CK FK) (hC : FdC n n0 lb T CK (p + 1)) (hF : FdI n fr to o n0 lb T CK (p + 1)) (hn0 : n0 ≤ n) (hn : n + cst (T.getD p 0) ≤ 698) (gp : p < T.length) (ht : isRow t) (ht2 : t < 53) (hT : isT T) (hkT : tks T) (hl : T.length ≤ 120) (hch : T.getD p 0 = 1 → p + 1 < T.length ∧ te T (p + 1) < T.length) (hch2 : 1000 < T.getD p 0 → p + 1 < T.length) (Q : List AV → aSg → Prop) (hq : ∀ (σ' : aSg) (n' : Nat) (fr' to' : Nat → Int) (o' : Nat → Nat) (CK' : List Int), NKI σ0 σ' t T n' fr' to' o' CK' FK → FdC n' n0 lb T CK' p → FdI n' fr' to' o' n0 lb T CK' p → n ≤ n' → n' ≤ n + cst (T.getD p 0) → Q [] σ') : CA m56 [.inr (.inl 108), .inl (T.getD p 0), .inl (p : Int)] σ Q := by
  have hg : T.getD p 0 = T[p] := by rw [List.getD_eq_getElem?_getD, List.getElem?_eq_getElem gp]; rfl
  have tk : tok (T.getD p 0) := by rw [hg]; exact hkT _ (List.getElem_mem gp)
  have hb : ∀ q : Nat, p < q → q < T.length → (lat CK (q : Int)).toNat < n := fun q h1 h2 => by
    obtain ⟨a, a1, a2⟩ := hC.2.2 q (by omega) h2
    rw [a2]; omega
  have hCl := hC.1
  have sO : ∀ (κ : Int) (q : Nat), p < q → lat (lset CK (p : Int) κ) (q : Int) = lat CK (q : Int) := fun κ q h1 => by rw [lset_at (by omega), if_neg (by omega)]
  have sP : ∀ (κ : Nat), (lat (lset CK (p : Int) (κ : Int)) (p : Int)).toNat = κ := fun κ => by rw [lset_at (by omega), if_pos rfl]; omega
  have tg := te_ge0 (T := T) (q := p + 1)
  generalize hc : T.getD p 0 = c at *
  by_cases g1 : c = 1
  · subst g1
    obtain ⟨l1, l2⟩ := hch rfl
    obtain ⟨a, a1, a2⟩ := hC.2.2 (p + 1) (by omega) l1
    obtain ⟨b, b1, b2⟩ := hC.2.2 (te T (p + 1)) (by omega) l2
    have cc : cst 1 = 2 := rfl
    refine wr56p h ht ht2 hT hl (by omega) l1 a2 b2 a1 b1 Q (fun σ1 fr1 to1 o1 N1 E1 E2 => hq σ1 (n + 2) fr1 to1 o1 _ N1 (FdC_st hC gp (by omega) (by omega)) (FdI_st hF hn0 gp (sO _) hb (fun v β γ s _ => ⟨(E1 v s).1, ?_⟩) (fun v β γ τ s _ e l => ?_)) (by omega) (by omega))
    · unfold lcl
      rw [hc, if_pos rfl]
      simp only [sP, sO _ (p + 1) (by omega), sO _ (te T (p + 1)) (by omega), a2, b2, Int.toNat_natCast]
      exact (E1 v s).2
    · unfold lcl at l
      rw [hc, if_pos rfl, ← e (p + 1) (by omega) l1, ← e (te T (p + 1)) (by omega) l2, a2, b2] at l
      obtain ⟨v', w1, w2, w3⟩ := E2 v (τ p) s l
      exact ⟨v', w1, w2, by rw [sP]; exact w3⟩
  · by_cases g2 : 1000 < c
    · have l1 := hch2 g2
      obtain ⟨b, b1, b2⟩ := hC.2.2 (p + 1) (by omega) l1
      have la := hC.2.1 p (by omega) gp
      unfold lbOK at la
      rw [hc, if_pos g2] at la
      obtain ⟨a, a1, a2, a3⟩ := la
      have cc : cst c = 1 := by unfold cst; rw [if_neg g1, if_pos g2]
      refine wr56b h ht ht2 hl (by omega) l1 g2 a2 b2 (by omega) b1 Q (fun σ1 fr1 to1 o1 N1 E1 => hq σ1 (n + 1) fr1 to1 o1 _ N1 (FdC_st hC gp (by omega) (by omega)) (FdI_st hF hn0 gp (sO _) hb (fun v β γ s hv => ⟨((E1 v).mp s).1, ?_⟩) (fun v β γ τ s hv e l => ?_)) (by omega) (by omega))
      · unfold lcl
        rw [hc, if_neg g1, if_pos g2]
        simp only [sP, sO _ (p + 1) (by omega), b2, Int.toNat_natCast]
        rw [((E1 v).mp s).2, hv a a1, a3]; rfl
      · unfold lcl at l
        rw [hc, if_neg g1, if_pos g2, ← e (p + 1) (by omega) l1, b2] at l
        have va : v a = β p := by rw [hv a a1, a3]; rfl
        have c1 : Sl n fr to o (exV v n (τ p)) := Sl_agr h.1.2.2.2.2.1 s (fun i hi => if_neg (by omega))
        have w : ∀ i, i < n → exV v n (τ p) i = v i := fun i hi => if_neg (by omega)
        have wn : exV v n (τ p) n = τ p := if_pos rfl
        refine ⟨_, (E1 _).mpr ⟨c1, ?_⟩, w, by rw [sP]; exact wn⟩
        rw [wn, w a (by omega), w b b1, va]; exact l
    · by_cases g3 : 97 ≤ c ∧ c ≤ 122
      · have la := hC.2.1 p (by omega) gp
        unfold lbOK at la
        rw [hc, if_neg g2, if_pos g3] at la
        obtain ⟨a, a1, a2, a3⟩ := la
        have nm : ∀ β γ, nmK β γ T p c = vl β γ (lb a) := fun β γ => by
          rw [a3]; unfold nmK lbN
          rw [hc]
          cases rsB T p p <;> rfl
        rw [wr56n g3]
        refine hq σ n fr to o CK h ⟨hCl, fun q h1 h2 => hC.2.1 q (by omega) h2, fun q h1 h2 => ?_⟩ (FdI_st hF hn0 gp (fun _ _ => rfl) hb (fun v β γ s hv => ⟨s, ?_⟩) (fun v β γ τ s hv e l => ⟨v, s, fun _ _ => rfl, ?_⟩)) (Nat.le_refl _) (by omega)
        · by_cases z : q = p
          · rw [z]; exact ⟨a, by omega, a2⟩
          · exact hC.2.2 q (by omega) h2
        · unfold lcl
          rw [hc, if_neg g1, if_neg g2, if_pos g3, nm]
          simp only [a2, Int.toNat_natCast]
          exact hv a a1
        · unfold lcl at l
          rw [hc, if_neg g1, if_neg g2, if_pos g3, nm] at l
          rw [l, a2, Int.toNat_natCast]
          exact hv a a1
      · have hs : c = 73 ∨ c = 75 ∨ c = 83 ∨ c = 66 ∨ c = 67 := by unfold tok at tk; omega
        have cc : cst c = 9 := by unfold cst; rw [if_neg g1, if_neg g2, if_neg g3]
        refine wr56s h ht ht2 (by omega) hs Q (fun σ1 n1 fr1 to1 o1 κ N1 b1 b2 b3 E1 E2 => hq σ1 n1 fr1 to1 o1 _ N1 (FdC_st hC gp b1 b3) (FdI_st hF hn0 gp (sO _) hb (fun v β γ s hv => ⟨(E1 v s).1, ?_⟩) (fun v β γ τ s hv e l => ?_)) b1 (by omega))
        · unfold lcl
          rw [hc, if_neg g1, if_neg g2, if_neg g3]
          simp only [sP]
          exact (E1 v s).2
        · unfold lcl at l
          rw [hc, if_neg g1, if_neg g2, if_neg g3] at l
          obtain ⟨v', w1, w2, w3⟩ := E2 v (τ p) s l
          exact ⟨v', w1, w2, by rw [sP]; exact w3⟩
end STP
