/-! reading a text: the mathematics -/
abbrev Lv : Type := Bool × List Int
def conc : List Lv → List Int
  | [] => []
  | x :: l => conc l ++ x.2
def stsL : List Lv → List Int
  | [] => []
  | _ :: l => ((conc l).length : Int) :: stsL l
def brL : List Lv → List Int
  | [] => []
  | x :: l => (if x.1 = true then 1 else 0) :: brL l
def bdL : List Lv → List Int
  | [] => []
  | [_] => [0]
  | x :: y :: l => (if x.1 = true then 0 else 1) :: bdL (y :: l)
def nbr : List Lv → Nat
  | [] => 0
  | x :: l => (if x.1 = true then 1 else 0) + nbr l
def clo (s : List Int) (b : Bool) : List Lv → Option (List Lv)
  | [] => none
  | y :: l => if b = true then some ((y.1, y.2 ++ s) :: l) else clo (y.2 ++ s) y.1 l
def joi (s : List Int) : List Int := if s = [] then [] else 1 :: s
def mor (s : List Int) : Nat := if s = [] then 0 else 1
def isN (c : Int) : Prop := 97 ≤ c ∧ c ≤ 122
def isG (c : Int) : Prop := c = 73 ∨ c = 75 ∨ c = 83 ∨ c = 66 ∨ c = 67
abbrev Rd : Type := Int × List Lv × Nat
def rdS (b : Bool) (s : List Int) (l : List Lv) (nx : Nat) (c : Int) : Rd :=
  if c = 32 then (0, (b, s) :: l, nx)
  else if nx = 1 then (if 97 ≤ c ∧ c ≤ 122 then (0, (b, s ++ [1000 + c]) :: l, 2) else (1, [], 0))
  else if nx = 2 then (if c = 46 then (0, (false, []) :: (b, s) :: l, 0) else (1, [], 0))
  else if c = 41 then (if s = [] then (1, [], 0) else match clo s b l with
    | some lv => (0, lv, 0)
    | none => (1, [], 0))
  else if c = 40 then (if 120 < (conc ((b, s) :: l)).length + mor s then (2, [], 0) else (0, (true, []) :: (b, joi s) :: l, 0))
  else if c = 94 then (if 120 < (conc ((b, s) :: l)).length + 1 + mor s then (2, [], 0) else (0, (b, joi s) :: l, 1))
  else if (97 ≤ c ∧ c ≤ 122) ∨ c = 73 ∨ c = 75 ∨ c = 83 ∨ c = 66 ∨ c = 67 then (if 120 < (conc ((b, s) :: l)).length + 1 + mor s then (2, [], 0) else (0, (b, joi s ++ [c]) :: l, 0))
  else (1, [], 0)
def rdT (lv : List Lv) (nx : Nat) (c : Int) : Rd := match lv with
  | (b, s) :: l => rdS b s l nx c
  | [] => (1, [], 0)
def rdA : List Int → Nat → List Lv → Nat → Int × Nat × List Lv × Nat
  | [], p, lv, nx => (0, p, lv, nx)
  | c :: cs, p, lv, nx => if (rdT lv nx c).1 = 0 then rdA cs (p + 1) (rdT lv nx c).2.1 (rdT lv nx c).2.2 else ((rdT lv nx c).1, p, [], 0)
def hol (a : List Int) : Prop := ∀ r, skp 1 (a ++ r) = skp 1 r
def bot : List Lv → Prop
  | [] => False
  | [x] => x.1 = false
  | _ :: y :: l => bot (y :: l)
def RIv (lv : List Lv) (nx : Nat) : Prop := ∃ b s l, lv = (b, s) :: l ∧ bot lv ∧ (∀ y ∈ l, hol y.2 ∧ tks y.2) ∧ tks s ∧ (if nx = 0 then s = [] ∨ isT s else hol s) ∧ (conc lv).length + (if nx = 1 then 1 else 0) ≤ 120 ∧ nx ≤ 2
section RDM
variable {b : Bool} {s : List Int} {l lv : List Lv} {nx : Nat} {c : Int}
theorem hol_nil : hol [] := fun _ => rfl
theorem hol_put {t : List Int} (h : isT t) : hol (1 :: t) := by
  intro r
  show skp (0 + arT 1) (t ++ r) = skp 1 r
  rw [arT_1, show 0 + 2 = 1 + 1 from rfl, skp_add (skp_app h)]
  rfl
theorem hol_bd {a : List Int} (h : hol a) (hc : 1000 < c) : hol (a ++ [c]) := by
  intro r
  rw [List.append_assoc, h]
  show skp (0 + arT c) r = skp 1 r
  rw [arT_b hc]
theorem hol_T {a t : List Int} (h : hol a) (ht : isT t) : isT (a ++ t) := by
  unfold isT
  rw [h]; exact ht
theorem hol_joi (h : s = [] ∨ isT s) : hol (joi s) := by
  unfold joi
  split
  · exact hol_nil
  · rename_i hn
    rcases h with h | h
    · exact absurd h hn
    · exact hol_put h
theorem clo_ok : ∀ (l : List Lv) (s : List Int) (b : Bool) (lv : List Lv), bot ((b, s) :: l) → (∀ y ∈ l, hol y.2 ∧ tks y.2) → tks s → isT s → clo s b l = some lv → RIv lv 0 ∨ 120 < (conc ((b, s) :: l)).length := by
  intro l
  induction l with
  | nil => intro s b lv _ _ _ _ h; simp [clo] at h
  | cons y l ih =>
    intro s b lv h1 h2 h3 h4 h5
    have hy := h2 y (List.mem_cons_self ..)
    have h2' : ∀ y ∈ l, hol y.2 ∧ tks y.2 := fun z hz => h2 z (List.mem_cons_of_mem _ hz)
    have t1 : tks (y.2 ++ s) := fun c hc => by rcases List.mem_append.mp hc with h | h; exact hy.2 c h; exact h3 c h
    have t2 : isT (y.2 ++ s) := hol_T hy.1 h4
    have b1 : bot ((y.1, y.2 ++ s) :: l) := by
      simp only [bot] at h1
      cases l with
      | nil => exact h1
      | cons z l => exact h1
    have e1 : conc ((y.1, y.2 ++ s) :: l) = conc ((b, s) :: y :: l) := by simp [conc]
    simp only [clo] at h5
    by_cases g : b = true
    · rw [if_pos g] at h5
      cases h5
      by_cases hs : (conc ((b, s) :: y :: l)).length ≤ 120
      · left
        refine ⟨y.1, y.2 ++ s, l, rfl, b1, h2', t1, ?_, by rw [e1]; simpa using hs, by omega⟩
        rw [if_pos rfl]; exact Or.inr t2
      · right; omega
    · rw [if_neg g] at h5
      have := ih _ _ _ b1 h2' t1 t2 h5
      rw [e1] at this
      exact this
theorem clo_len : ∀ (l : List Lv) (s : List Int) (b : Bool) (lv : List Lv), clo s b l = some lv → lv.length ≤ l.length := by
  intro l
  induction l with
  | nil => intro s b lv h; simp [clo] at h
  | cons y l ih =>
    intro s b lv h
    simp only [clo] at h
    split at h
    · cases h; simp
    · have := ih _ _ _ h; simp; omega
theorem clo_none : ∀ (l : List Lv) (s : List Int) (b : Bool), bot ((b, s) :: l) → (clo s b l = none ↔ nbr ((b, s) :: l) = 0) := by
  intro l
  induction l with
  | nil => intro s b h; simp only [bot] at h; simp [clo, nbr, h]
  | cons y l ih =>
    intro s b h
    have b1 : bot ((y.1, y.2 ++ s) :: l) := by
      simp only [bot] at h
      cases l with
      | nil => exact h
      | cons z l => exact h
    have := ih (y.2 ++ s) y.1 b1
    simp only [clo]
    by_cases g : b = true
    · rw [if_pos g]; simp [nbr, g]
    · rw [if_neg g, this]; simp [nbr, g]
theorem bot_top {x y : Lv} (h : bot (x :: l)) (hx : l ≠ [] ∨ y.1 = x.1) : bot (y :: l) := by
  cases l with
  | nil => rcases hx with hx | hx; exact absurd rfl hx; simp only [bot] at *; rw [hx]; exact h
  | cons z l => exact h
theorem tok_sg (h : (97 ≤ c ∧ c ≤ 122) ∨ c = 73 ∨ c = 75 ∨ c = 83 ∨ c = 66 ∨ c = 67) : tok c ∧ arT c = 0 := by
  constructor
  · unfold tok; omega
  · exact arT_0 (by omega) (by omega)
theorem tks_joi (h : tks s) : tks (joi s) := by
  unfold joi
  split
  · intro c hc; cases hc
  · intro c hc
    rcases List.mem_cons.mp hc with rfl | hc
    · exact Or.inl rfl
    · exact h c hc
theorem joi_len : (joi s).length = s.length + mor s := by
  unfold joi mor
  split
  · rename_i h; simp [h]
  · simp
theorem rdT_ok (h : RIv lv nx) (h0 : (rdT lv nx c).1 = 0) : RIv (rdT lv nx c).2.1 (rdT lv nx c).2.2 ∧ (rdT lv nx c).2.1.length ≤ lv.length + 1 := by
  obtain ⟨b, s, l, rfl, h1, h2, h3, h4, h5, h6⟩ := h
  have ap : ∀ {x : Int}, tok x → tks (s ++ [x]) := fun hx d hd => by
    rcases List.mem_append.mp hd with hd | hd
    · exact h3 d hd
    · rcases List.mem_singleton.mp hd with rfl; exact hx
  simp only [rdT] at h0 ⊢
  unfold rdS at h0 ⊢
  by_cases g1 : c = 32
  · simp only [if_pos g1] at h0 ⊢
    exact ⟨⟨b, s, l, rfl, h1, h2, h3, h4, h5, h6⟩, by simp⟩
  simp only [if_neg g1] at h0 ⊢
  by_cases g2 : nx = 1
  · simp only [if_pos g2] at h0 ⊢
    subst g2
    by_cases g3 : 97 ≤ c ∧ c ≤ 122
    · simp only [if_pos g3] at h0 ⊢
      rw [if_neg (by omega)] at h4
      rw [if_pos rfl] at h5
      refine ⟨⟨b, s ++ [1000 + c], l, rfl, bot_top h1 (Or.inr rfl), h2, ap (by unfold tok; omega), ?_, ?_, by omega⟩, by simp⟩
      · rw [if_neg (by omega)]; exact hol_bd h4 (by omega)
      · simp only [conc, List.length_append, List.length_cons, List.length_nil, show ¬ (2 : Nat) = 1 by omega, if_false] at h5 ⊢; omega
    · simp only [if_neg g3] at h0; omega
  simp only [if_neg g2] at h0 ⊢
  by_cases g4 : nx = 2
  · simp only [if_pos g4] at h0 ⊢
    subst g4
    by_cases g3 : c = 46
    · simp only [if_pos g3] at h0 ⊢
      rw [if_neg (by omega)] at h4
      refine ⟨⟨false, [], (b, s) :: l, rfl, h1, fun y hy => ?_, (fun c hc => by cases hc), ?_, ?_, by omega⟩, by simp⟩
      · rcases List.mem_cons.mp hy with rfl | hy
        · exact ⟨h4, h3⟩
        · exact h2 y hy
      · rw [if_pos rfl]; exact Or.inl rfl
      · simp only [conc, List.append_nil] at h5 ⊢; simpa using h5
    · simp only [if_neg g3] at h0; omega
  simp only [if_neg g4] at h0 ⊢
  have nx0 : nx = 0 := by omega
  subst nx0
  rw [if_pos rfl] at h4
  simp only [show ¬ (0 : Nat) = 1 by omega, if_false, Nat.add_zero] at h5
  by_cases g5 : c = 41
  · simp only [if_pos g5] at h0 ⊢
    by_cases g6 : s = []
    · simp only [if_pos g6] at h0; omega
    · simp only [if_neg g6] at h0 ⊢
      have hT : isT s := by rcases h4 with h | h; exact absurd h g6; exact h
      cases hc : clo s b l with
      | none => rw [hc] at h0; simp at h0
      | some lv2 =>
        simp only
        have q1 := clo_ok l s b lv2 h1 h2 h3 hT hc
        have q2 := clo_len l s b lv2 hc
        refine ⟨?_, by simp; omega⟩
        rcases q1 with q1 | q1
        · exact q1
        · omega
  simp only [if_neg g5] at h0 ⊢
  by_cases g7 : c = 40
  · simp only [if_pos g7] at h0 ⊢
    by_cases g8 : 120 < (conc ((b, s) :: l)).length + mor s
    · simp only [if_pos g8] at h0; omega
    · simp only [if_neg g8] at h0 ⊢
      refine ⟨⟨true, [], (b, joi s) :: l, rfl, (show bot ((b, joi s) :: l) from bot_top h1 (Or.inr rfl)), fun y hy => ?_, (fun c hc => by cases hc), ?_, ?_, by omega⟩, by simp⟩
      · rcases List.mem_cons.mp hy with rfl | hy
        · exact ⟨hol_joi h4, tks_joi h3⟩
        · exact h2 y hy
      · rw [if_pos rfl]; exact Or.inl rfl
      · simp only [conc, List.append_nil, List.length_append, joi_len] at g8 ⊢; simp only [show ¬ (0 : Nat) = 1 by omega, if_false]; omega
  simp only [if_neg g7] at h0 ⊢
  by_cases g9 : c = 94
  · simp only [if_pos g9] at h0 ⊢
    by_cases g8 : 120 < (conc ((b, s) :: l)).length + 1 + mor s
    · simp only [if_pos g8] at h0; omega
    · simp only [if_neg g8] at h0 ⊢
      refine ⟨⟨b, joi s, l, rfl, bot_top h1 (Or.inr rfl), h2, tks_joi h3, ?_, ?_, by omega⟩, by simp⟩
      · rw [if_neg (by omega)]; exact hol_joi h4
      · simp only [conc, List.length_append, joi_len] at g8 ⊢; simp only [if_true]; omega
  simp only [if_neg g9] at h0 ⊢
  by_cases g10 : (97 ≤ c ∧ c ≤ 122) ∨ c = 73 ∨ c = 75 ∨ c = 83 ∨ c = 66 ∨ c = 67
  · simp only [if_pos g10] at h0 ⊢
    obtain ⟨k1, k2⟩ := tok_sg g10
    by_cases g8 : 120 < (conc ((b, s) :: l)).length + 1 + mor s
    · simp only [if_pos g8] at h0; omega
    · simp only [if_neg g8] at h0 ⊢
      refine ⟨⟨b, joi s ++ [c], l, rfl, bot_top h1 (Or.inr rfl), h2, fun d hd => ?_, ?_, ?_, by omega⟩, by simp⟩
      · rcases List.mem_append.mp hd with hd | hd
        · exact tks_joi h3 d hd
        · rcases List.mem_singleton.mp hd with rfl; exact k1
      · rw [if_pos rfl]; exact Or.inr (hol_T (hol_joi h4) (isT_0 k2))
      · simp only [conc, List.length_append, joi_len, List.length_cons, List.length_nil] at g8 ⊢; simp only [show ¬ (0 : Nat) = 1 by omega, if_false]; omega
  · simp only [if_neg g10] at h0; omega
theorem conc_T : ∀ (l : List Lv) (b : Bool) (s : List Int), (∀ y ∈ l, hol y.2 ∧ tks y.2) → isT s → tks s → isT (conc ((b, s) :: l)) ∧ tks (conc ((b, s) :: l)) := by
  intro l
  induction l with
  | nil => intro b s _ h1 h2; exact ⟨by simpa [conc] using h1, by simpa [conc] using h2⟩
  | cons y l ih =>
    intro b s h h1 h2
    have hy := h y (List.mem_cons_self ..)
    have := ih y.1 (y.2 ++ s) (fun z hz => h z (List.mem_cons_of_mem _ hz)) (hol_T hy.1 h1) (fun c hc => by rcases List.mem_append.mp hc with hc | hc; exact hy.2 c hc; exact h2 c hc)
    have e1 : conc ((y.1, y.2 ++ s) :: l) = conc ((b, s) :: y :: l) := by simp [conc]
    rw [e1] at this
    exact this
def rd0 : List Lv := [(false, [])]
theorem RIv_0 : RIv rd0 0 := ⟨false, [], [], rfl, rfl, (fun y hy => by cases hy), (fun c hc => by cases hc), by simp, by simp [conc, rd0], by omega⟩
end RDM
def rdE (lv : List Lv) (nx : Nat) : Bool := decide (nx = 0) && (decide (nbr lv = 0) && (match lv with
  | (_, s) :: _ => !decide (s = [])
  | [] => false))
def rdN (R : Int × Nat × List Lv × Nat) : Int := if R.1 = 0 then (if rdE R.2.2.1 R.2.2.2 = true then 0 else 1) else R.1
def f88 (S : SS) (x : Int) : Int × SS := if ¬ (0 ≤ x ∧ x < 4) then (UNK, S) else if rdN (rdA (tx S) 0 rd0 0) = 0 then layS ([], sv S, -1, pa S, im S) x.toNat (conc (rdA (tx S) 0 rd0 0).2.2.1) else (-10 - rdN (rdA (tx S) 0 rd0 0), ([], sv S, ((rdA (tx S) 0 rd0 0).2.1 : Int), pa S, im S))
