/-! a name taken out of a term: the mathematics -/
def noB (t : Tm) : Prop := ∀ c ∈ fl t, ¬ 1000 < c
def tkT (n : Int) : Tm → Tm
  | .num c => if c = n then .num 73 else .add (.num 75) (.num c)
  | .add a b => if frT n (.add a b) = false then .add (.num 75) (.add a b)
    else if frT n a = false ∧ fl b = [n] then a
    else if frT n a = true ∧ frT n b = true then .add (.add (.num 83) (tkT n a)) (tkT n b)
    else if frT n a = true then .add (.add (.num 67) (tkT n a)) b
    else .add (.add (.num 66) a) (tkT n b)
  | t => .add (.num 75) t
section TKM
variable {n : Int} {a b t : Tm} {T : List Int} {p : Nat}
theorem noB_add (h : noB (.add a b)) : noB a ∧ noB b := ⟨fun c hc => h c (by simp [fl, hc]), fun c hc => h c (by simp [fl, hc])⟩
theorem nb_ind {P : Tm → Prop} (h0 : ∀ c, arT c = 0 → P (.num c)) (h2 : ∀ a b, wt a → wt b → noB a → noB b → P a → P b → P (.add a b)) : ∀ t, wt t → noB t → P t := by
  apply wt_ind
  · intro c hc _; exact h0 c hc
  · intro a b ha hb iha ihb h
    obtain ⟨h1, h2'⟩ := noB_add h
    exact h2 a b ha hb h1 h2' (iha h1) (ihb h2')
  · intro c a hc _ _ h
    exact absurd (arT_1' hc) (h c (by simp [fl]))
theorem tk_ok (hn : 97 ≤ n ∧ n ≤ 122) : ∀ t, wt t → noB t → wt (tkT n t) ∧ noB (tkT n t) ∧ (tks (fl t) → tks (fl (tkT n t))) := by
  have q1 : ∀ {c : Int} {t : Tm}, ¬ 1000 < c → arT c = 0 → wt t → noB t → wt (.add (.num c) t) ∧ noB (.add (.num c) t) := by
    intro c t h0 h1 h2 h3
    refine ⟨⟨h1, h2⟩, fun d hd => ?_⟩
    simp only [fl, List.mem_cons, List.mem_append, List.not_mem_nil, or_false] at hd
    rcases hd with rfl | rfl | hd
    · omega
    · exact h0
    · exact h3 d hd
  have q2 : ∀ {a b : Tm}, wt a ∧ noB a → wt b ∧ noB b → wt (.add a b) ∧ noB (.add a b) := by
    intro a b h2 h3
    refine ⟨⟨h2.1, h3.1⟩, fun d hd => ?_⟩
    simp only [fl, List.mem_cons, List.mem_append] at hd
    rcases hd with rfl | hd | hd
    · omega
    · exact h2.2 d hd
    · exact h3.2 d hd
  have q3 : ∀ {c : Int} {t : Tm}, tok c → tks (fl t) → tks (fl (.add (.num c) t)) := by
    intro c t h1 h2 d hd
    simp only [fl, List.mem_cons, List.mem_append, List.not_mem_nil, or_false] at hd
    rcases hd with rfl | rfl | hd
    · exact Or.inl rfl
    · exact h1
    · exact h2 d hd
  have q4 : ∀ {a b : Tm}, tks (fl a) → tks (fl b) → tks (fl (.add a b)) := by
    intro a b h1 h2 d hd
    simp only [fl, List.mem_cons, List.mem_append] at hd
    rcases hd with rfl | hd | hd
    · exact Or.inl rfl
    · exact h1 d hd
    · exact h2 d hd
  have t73 : tok 73 := by unfold tok; omega
  have t75 : tok 75 := by unfold tok; omega
  have t83 : tok 83 := by unfold tok; omega
  have t66 : tok 66 := by unfold tok; omega
  have t67 : tok 67 := by unfold tok; omega
  apply nb_ind
  · intro c hc
    simp only [tkT]
    split
    · exact ⟨rfl, fun d hd => by simp [fl] at hd; omega, fun _ d hd => by simp [fl] at hd; rw [hd]; exact t73⟩
    · have h := q1 (c := 75) (t := .num c) (by omega) rfl hc (fun d hd => by simp [fl] at hd; rw [hd]; exact (arT_0' hc).2)
      exact ⟨h.1, h.2, q3 t75⟩
  · intro a b wa wb na nb iha ihb
    have tka : tks (fl (.add a b)) → tks (fl a) := fun h c hc => h c (by simp [fl, hc])
    have tkb : tks (fl (.add a b)) → tks (fl b) := fun h c hc => h c (by simp [fl, hc])
    simp only [tkT]
    split
    · have h := q1 (c := 75) (t := .add a b) (by omega) rfl ⟨wa, wb⟩ (q2 ⟨wa, na⟩ ⟨wb, nb⟩).2
      exact ⟨h.1, h.2, q3 t75⟩
    · split
      · exact ⟨wa, na, tka⟩
      · split
        · have h := q2 (q1 (c := 83) (by omega) rfl iha.1 iha.2.1) ⟨ihb.1, ihb.2.1⟩
          exact ⟨h.1, h.2, fun hk => q4 (q3 t83 (iha.2.2 (tka hk))) (ihb.2.2 (tkb hk))⟩
        · split
          · have h := q2 (q1 (c := 67) (by omega) rfl iha.1 iha.2.1) ⟨wb, nb⟩
            exact ⟨h.1, h.2, fun hk => q4 (q3 t67 (iha.2.2 (tka hk))) (tkb hk)⟩
          · have h := q2 (q1 (c := 66) (by omega) rfl wa na) ⟨ihb.1, ihb.2.1⟩
            exact ⟨h.1, h.2, fun hk => q4 (q3 t66 (tka hk)) (ihb.2.2 (tkb hk))⟩
theorem tk_sz : ∀ t, wt t → noB t → (frT n t = true → (fl (tkT n t)).length ≤ 2 * (fl t).length - 1) ∧ (frT n t = false → (fl (tkT n t)).length = (fl t).length + 2) ∧ (fl t).length ≤ (fl (tkT n t)).length + 2 := by
  apply nb_ind
  · intro c hc
    simp only [tkT, frT]
    by_cases g : c = n
    · simp [g, fl]
    · simp [g, fl]
  · intro a b wa wb na nb iha ihb
    have pa := fl_pos wa
    have pb := fl_pos wb
    simp only [tkT]
    by_cases g0 : frT n (.add a b) = false
    · rw [if_pos g0, g0]
      simp only [fl, List.length_cons, List.length_append, List.length_nil]
      refine ⟨fun h => by simp at h, fun _ => by omega, by omega⟩
    · rw [if_neg g0]
      have g1 : frT n (.add a b) = true := by simpa using g0
      rw [g1]
      simp only [frT, Bool.or_eq_true] at g1
      by_cases g2 : frT n a = false ∧ fl b = [n]
      · rw [if_pos g2]
        have : (fl b).length = 1 := by rw [g2.2]; rfl
        simp only [fl, List.length_cons, List.length_append]
        exact ⟨fun _ => by omega, fun h => by simp at h, by omega⟩
      · rw [if_neg g2]
        by_cases g3 : frT n a = true ∧ frT n b = true
        · rw [if_pos g3]
          have ha := iha.1 g3.1
          have hb := ihb.1 g3.2
          simp only [fl, List.length_cons, List.length_append, List.length_nil]
          exact ⟨fun _ => by omega, fun h => by simp at h, by omega⟩
        · rw [if_neg g3]
          by_cases g4 : frT n a = true
          · rw [if_pos g4]
            have ha := iha.1 g4
            simp only [fl, List.length_cons, List.length_append, List.length_nil]
            exact ⟨fun _ => by omega, fun h => by simp at h, by omega⟩
          · rw [if_neg g4]
            have g5 : frT n b = true := by rcases g1 with g | g; exact absurd g g4; exact g
            have hb := ihb.1 g5
            simp only [fl, List.length_cons, List.length_append, List.length_nil]
            exact ⟨fun _ => by omega, fun h => by simp at h, by omega⟩
theorem tk_up (h : wt t) (hb : noB t) : (fl (tkT n t)).length ≤ 2 * (fl t).length + 1 := by
  have h1 := tk_sz (n := n) t h hb
  have := fl_pos h
  by_cases g : frT n t = true
  · have := h1.1 g; omega
  · have := h1.2.1 (by simpa using g); omega
/-- a part of a term becomes another one -/
theorem skp_rep {X Y : List Int} (hX : isT X) (hY : isT Y) (r : List Int) : ∀ (a : List Int) (n : Nat), skp n (a ++ (X ++ r)) = some [] → skp n (a ++ (Y ++ r)) = some [] := by
  intro a
  induction a with
  | nil =>
    intro n h
    cases n with
    | zero =>
      simp only [List.nil_append, skp, Option.some.injEq] at h
      exact absurd (List.append_eq_nil_iff.mp h).1 (isT_ne hX)
    | succ n =>
      simp only [List.nil_append] at h ⊢
      rw [Nat.add_comm, skp_add (skp_app hX)] at h
      rw [Nat.add_comm, skp_add (skp_app hY)]
      simpa using h
  | cons c a ih =>
    intro n h
    cases n with
    | zero => simp [skp] at h
    | succ n =>
      simp only [List.cons_append, skp] at h ⊢
      exact ih _ h
noncomputable def tkB (T : List Int) (p : Nat) : List Int := T.take p ++ (fl (tkT (T.getD p 0 - 1000) (trA T (p + 1))) ++ T.drop (te T p))
noncomputable def cmN : Nat → List Int → List Int
  | 0, T => T
  | p + 1, T => if 1000 < T.getD p 0 then cmN p (tkB T p) else cmN p T
/-- no binder stands at p or behind -/
def nbF (p : Nat) (T : List Int) : Prop := ∀ j, p ≤ j → ¬ 1000 < T.getD j 0
theorem nbF_mem (h : nbF p T) {c : Int} (hc : c ∈ T.drop p) : ¬ 1000 < c := by
  obtain ⟨j, hj, e⟩ := List.mem_iff_getElem.mp hc
  simp only [List.length_drop] at hj
  have := h (p + j) (by omega)
  rw [List.getD_eq_getElem?_getD, List.getElem?_eq_getElem (by omega)] at this
  simp only [Option.getD_some] at this
  rw [List.getElem_drop] at e
  rw [← e]; exact this
theorem At_bd (hT : isT T) (hp : p < T.length) (hb : 1000 < T.getD p 0) : ∃ a, AtT T p (.mulL (T.getD p 0) a) ∧ AtT T (p + 1) a ∧ trA T (p + 1) = a := by
  obtain ⟨t, A⟩ := At_ex hT hp
  have hw := A.1
  have hg : T.getD p 0 = T[p] := by rw [List.getD_eq_getElem?_getD, List.getElem?_eq_getElem hp]; rfl
  cases t with
  | num c =>
    obtain ⟨g1, g2⟩ := At_num A
    obtain ⟨_, g3⟩ := List.getElem?_eq_some_iff.mp g1
    rw [hg, g3] at hb
    exact absurd hb (arT_0' g2).2
  | add a b =>
    obtain ⟨g1, -⟩ := At_add A
    obtain ⟨_, g3⟩ := List.getElem?_eq_some_iff.mp g1
    rw [hg, g3] at hb
    omega
  | mulL c a =>
    obtain ⟨g1, g2, A1⟩ := At_mul A
    obtain ⟨_, g3⟩ := List.getElem?_eq_some_iff.mp g1
    rw [hg, g3]
    exact ⟨a, A, A1, trA_eq A1⟩
  | var i => simp [wt] at hw
  | sub a b => simp [wt] at hw
  | neg a => simp [wt] at hw
  | mulR a d => simp [wt] at hw
theorem tkB_ok (hT : isT T) (hk : tks T) (hp : p < T.length) (hb : 1000 < T.getD p 0) (hf : nbF (p + 1) T) : isT (tkB T p) ∧ tks (tkB T p) ∧ nbF p (tkB T p) ∧ T.length ≤ (tkB T p).length + 3 ∧ (tkB T p).length ≤ 2 * T.length ∧ p ≤ (tkB T p).length := by
  obtain ⟨a, A, A1, ea⟩ := At_bd hT hp hb
  have hte := At_te A
  have hle := At_le A
  have hg : T.getD p 0 = T[p] := by rw [List.getD_eq_getElem?_getD, List.getElem?_eq_getElem hp]; rfl
  have tk := hk _ (List.getElem_mem hp)
  rw [← hg] at tk
  have hn : 97 ≤ T.getD p 0 - 1000 ∧ T.getD p 0 - 1000 ≤ 122 := by unfold tok at tk; omega
  have na : noB a := by
    obtain ⟨_, r, e⟩ := A1
    intro c hc
    exact nbF_mem hf (by rw [e]; exact List.mem_append_left _ hc)
  obtain ⟨o1, o2, o3⟩ := tk_ok hn a A1.1 na
  obtain ⟨s1, s2, s3⟩ := tk_sz (n := T.getD p 0 - 1000) a A1.1 na
  have s4 := tk_up (n := T.getD p 0 - 1000) A1.1 na
  simp only [fl, List.length_cons] at hte hle
  have hlen : (tkB T p).length = p + ((fl (tkT (T.getD p 0 - 1000) a)).length + (T.length - te T p)) := by
    unfold tkB
    rw [ea, List.length_append, List.length_append, List.length_take, List.length_drop]
    omega
  have hsplit : T = T.take p ++ (fl (.mulL (T.getD p 0) a) ++ T.drop (te T p)) := by
    obtain ⟨_, r, e⟩ := A
    have : T.drop (te T p) = r := by
      rw [hte, ← List.drop_drop, e, show (fl a).length + 1 = (fl (.mulL (T.getD p 0) a)).length by simp [fl], List.drop_left]
    rw [this, ← e, List.take_append_drop]
  have memr : ∀ c, c ∈ fl (tkT (T.getD p 0 - 1000) a) ++ T.drop (te T p) → ¬ 1000 < c := by
    intro c hc
    rcases List.mem_append.mp hc with h | h
    · exact o2 c h
    · apply nbF_mem hf
      have : T.drop (te T p) = (T.drop (p + 1)).drop (te T p - (p + 1)) := by rw [List.drop_drop]; congr 1; omega
      rw [this] at h
      exact List.mem_of_mem_drop h
  refine ⟨?_, ?_, ?_, by omega, by omega, by omega⟩
  · unfold tkB
    rw [ea]
    unfold isT at hT
    rw [hsplit] at hT
    exact skp_rep (fl_T _ A.1) (fl_T _ o1) _ _ 1 hT
  · intro c hc
    unfold tkB at hc
    rw [ea] at hc
    rcases List.mem_append.mp hc with h | h
    · exact hk c (List.mem_of_mem_take h)
    rcases List.mem_append.mp h with h | h
    · exact o3 (At_tks A1 hk) c h
    · exact hk c (List.mem_of_mem_drop h)
  · intro j hj
    unfold tkB
    rw [ea, List.getD_eq_getElem?_getD, List.getElem?_append_right (by rw [List.length_take]; omega)]
    cases hq : (fl (tkT (T.getD p 0 - 1000) a) ++ T.drop (te T p))[j - (T.take p).length]? with
    | none => simp
    | some c => exact memr c (List.mem_of_getElem? hq)
theorem nbF_skip (hf : nbF (p + 1) T) (hb : ¬ 1000 < T.getD p 0) : nbF p T := by
  intro j hj
  by_cases e : j = p
  · rw [e]; exact hb
  · exact hf j (by omega)
theorem cmN_ok : ∀ (p : Nat) (T : List Int), isT T → tks T → p ≤ T.length → nbF p T → isT (cmN p T) ∧ tks (cmN p T) ∧ nbF 0 (cmN p T) ∧ T.length ≤ (cmN p T).length + 3 * p := by
  intro p
  induction p with
  | zero => intro T h1 h2 h3 h4; exact ⟨h1, h2, h4, by simp [cmN]⟩
  | succ p ih =>
    intro T h1 h2 h3 h4
    simp only [cmN]
    by_cases hb : 1000 < T.getD p 0
    · rw [if_pos hb]
      obtain ⟨a1, a2, a3, a4, a5, a6⟩ := tkB_ok h1 h2 (by omega) hb h4
      obtain ⟨b1, b2, b3, b4⟩ := ih _ a1 a2 a6 a3
      exact ⟨b1, b2, b3, by omega⟩
    · rw [if_neg hb]
      obtain ⟨b1, b2, b3, b4⟩ := ih _ h1 h2 (by omega) (nbF_skip h4 hb)
      exact ⟨b1, b2, b3, by omega⟩
end TKM
