/-! things: the reference changes them -/
section TRC
variable {σ σ0 σ' : aSg} {K : List AV → aSg → Prop} {x y z c : Int} {T W st F I L R C s : List Int} {r q t i j p h m w N : Nat} {G G' : Gr} {ρ : Nat → Nat} {v : Int × Nat × Nat} {X : Gr}
theorem wr174 (hR : RGr σ G N) (hW : WG G ρ) (h0 : 0 < G.length) (e : scn (fG G) 0 0 = some h) (hG : G.length ≤ 590) {k : Nat} (hk : k ≤ 600) (hwk : wnt (cl G (idN (idG G) h)) ≤ (k : Int)) (hsp : ∀ j : Nat, 1 ≤ j → (j : Int) ≤ wnt (cl G (idN (idG G) h)) → σ 143 (k - j) = (pI N (idN (idG G) (h - j)) : Int)) (Q : List AV → aSg → Prop) (hq : ∀ σ', RGr σ' (stG G (idG G) h) N → FrB σ σ' → Q [] σ') : CA m174 [.inr (.inl 130), .inl (pI N (idN (idG G) (h - (wnt (cl G (idN (idG G) h))).toNat)) : Int), .inl (tau (cl G (idN (idG G) h))), .inl (k : Int)] σ Q := by
  rw [e174]
  obtain ⟨s1, s2, s3, s4, s5, s6⟩ := st_at hW h0 e
  have pi := st_pi hW h0 e
  have l0 := ln140
  have l1 := ln141
  have l2 := ln142
  have l3 := ln143
  obtain ⟨r1, r2, r3, r4⟩ := id hR
  have rx : ∀ j : Nat, 1 ≤ j → (j : Int) ≤ wnt (cl G (idN (idG G) h)) → σ 142 (pI N (idN (idG G) (h - j))) = (pI N (rt G (idN (idG G) (h - j))) : Int) ∧ pI N (idN (idG G) (h - j)) < G.length := by
    intro j j1 j2
    obtain ⟨q1, q2, q3, q4⟩ := pi j j1 j2
    exact ⟨((RG_at hR q3).2.1 q4).2, pI_lt r2 q3⟩
  rcases wnt_c s1 with ⟨c1, w1⟩ | ⟨c1, w1⟩ | ⟨c1, w1⟩ | ⟨c1, w1⟩ | ⟨c1, w1⟩
  · obtain ⟨es, hs⟩ := S_73 hW h0 e c1
    rw [es] at hq
    have hw := hs.1
    have y1 := hsp 1 (by omega) (by omega)
    obtain ⟨x1, p1⟩ := rx 1 (by omega) (by omega)
    have k1 : (k : Int) - 1 = ((k - 1 : Nat) : Int) := by omega
    rw [w1] at hwk ⊢
    have wN : (1 : Int).toNat = 1 := rfl
    rw [wN, c1]
    have tc : tau 73 = 1 := rfl
    rw [tc]
    have hp := pI_lt r2 hw
    simp (disch := omega) only [s174_0, s174_1, s174_4, s174_5, s174_8, s174_9, s174_10, s174_11, s174_12, s174_13, s174_15, s174_16, s174_17, s174_20, s174_21, s174_24, s174_25, s174_28, s174_29, s174_32, s174_33, s174_34, s174_35, s174_36, s174_37, s174_39, s174_40, s174_41, s174_44, s174_45, s174_48, s174_49, s174_52, s174_53, s174_56, s174_57, s174_58, s174_59, s174_60, s174_61, s174_63, s174_64, s174_96, s174_97, s174_100, s174_101, s174_103, s174_104, s174_105, s174_108, s174_109, s174_111, s174_112, s174_115, s174_116, s174_119, s174_120, s174_121, s174_122, s174_124, s174_126, s174_129, s174_130, s174_131, s174_134, s174_135, s174_136, s174_137, s174_139, s174_141, s174_144, s174_145, s174_148, s174_149, s174_152, s174_153, s174_155, s174_156, s174_157, s174_160, s174_161, s174_162, s174_163, s174_165, s174_167, s174_170, s174_171, s174_174, s174_175, s174_178, s174_179, s174_180, s174_181, s174_183, s174_185, s174_188, s174_189, s174_190, s174_193, s174_194, s174_196, s174_197, List.cons_append, List.nil_append, if_true, if_false, true_and, and_true, and_self, eq_self, true_or, or_true, false_or, or_false, tIn, tLe, fLe, tLt, fLt, tEq, fEq, isL, k1, y1, x1, kd142, ln142, kd143, ln143, kd140, ln140, kd141, ln141, Int.toNat_natCast]
    refine hq _ (RGr_new hR hw (by simp; omega) (fun i hi hn => ?_) ⟨?_, fun z => absurd z (by show ¬ ((2 : Int) = 1); decide), fun _ => ?_⟩ (fun k hk => by simp at hk) ?_) ⟨fun a q1 q2 q3 q4 => ?_, fun j hj => ?_⟩
    · have hne : pI N i ≠ pI N (idN (idG G) (h - 1)) := fun z => hn (pI_inj z)
      refine ⟨?_, ?_, ?_⟩
      · rw [aup_n1 (by omega), aup_n2 hne]
      · rw [aup_n2 hne, aup_n1 (by omega)]
      · rw [aup_n1 (by omega), aup_n1 (by omega)]
    · rw [aup_n1 (by omega), aup_s]; rfl
    · rw [aup_s]
    · rw [aup_n1 (by omega), aup_n1 (by omega), r1]; simp
    · rw [aup_f q2, aup_f q1]
    · rw [aup_n1 (by omega), aup_n1 (by omega)]
  · obtain ⟨es, hs⟩ := S_75 hW h0 e c1
    rw [es] at hq
    have hw := hs.1
    have y1 := hsp 1 (by omega) (by omega)
    obtain ⟨x1, p1⟩ := rx 1 (by omega) (by omega)
    have k1 : (k : Int) - 1 = ((k - 1 : Nat) : Int) := by omega
    have y2 := hsp 2 (by omega) (by omega)
    obtain ⟨x2, p2⟩ := rx 2 (by omega) (by omega)
    have k2 : (k : Int) - 2 = ((k - 2 : Nat) : Int) := by omega
    rw [w1] at hwk ⊢
    have wN : (2 : Int).toNat = 2 := rfl
    rw [wN, c1]
    have tc : tau 75 = 2 := rfl
    rw [tc]
    have hp := pI_lt r2 hw
    simp (disch := omega) only [s174_0, s174_1, s174_4, s174_5, s174_8, s174_9, s174_10, s174_11, s174_12, s174_13, s174_15, s174_16, s174_17, s174_20, s174_21, s174_24, s174_25, s174_28, s174_29, s174_32, s174_33, s174_34, s174_35, s174_36, s174_37, s174_39, s174_40, s174_41, s174_44, s174_45, s174_48, s174_49, s174_52, s174_53, s174_56, s174_57, s174_58, s174_59, s174_60, s174_61, s174_63, s174_64, s174_96, s174_97, s174_100, s174_101, s174_103, s174_104, s174_105, s174_108, s174_109, s174_111, s174_112, s174_115, s174_116, s174_119, s174_120, s174_121, s174_122, s174_124, s174_126, s174_129, s174_130, s174_131, s174_134, s174_135, s174_136, s174_137, s174_139, s174_141, s174_144, s174_145, s174_148, s174_149, s174_152, s174_153, s174_155, s174_156, s174_157, s174_160, s174_161, s174_162, s174_163, s174_165, s174_167, s174_170, s174_171, s174_174, s174_175, s174_178, s174_179, s174_180, s174_181, s174_183, s174_185, s174_188, s174_189, s174_190, s174_193, s174_194, s174_196, s174_197, List.cons_append, List.nil_append, if_true, if_false, true_and, and_true, and_self, eq_self, true_or, or_true, false_or, or_false, tIn, tLe, fLe, tLt, fLt, tEq, fEq, isL, k1, y1, x1, k2, y2, x2, kd142, ln142, kd143, ln143, kd140, ln140, kd141, ln141, Int.toNat_natCast]
    refine hq _ (RGr_new hR hw (by simp; omega) (fun i hi hn => ?_) ⟨?_, fun z => absurd z (by show ¬ ((2 : Int) = 1); decide), fun _ => ?_⟩ (fun k hk => by simp at hk) ?_) ⟨fun a q1 q2 q3 q4 => ?_, fun j hj => ?_⟩
    · have hne : pI N i ≠ pI N (idN (idG G) (h - 2)) := fun z => hn (pI_inj z)
      refine ⟨?_, ?_, ?_⟩
      · rw [aup_n1 (by omega), aup_n2 hne]
      · rw [aup_n2 hne, aup_n1 (by omega)]
      · rw [aup_n1 (by omega), aup_n1 (by omega)]
    · rw [aup_n1 (by omega), aup_s]; rfl
    · rw [aup_s]
    · rw [aup_n1 (by omega), aup_n1 (by omega), r1]; simp
    · rw [aup_f q2, aup_f q1]
    · rw [aup_n1 (by omega), aup_n1 (by omega)]
  · obtain ⟨es, hs⟩ := S_83 hW h0 e c1
    rw [es] at hq
    have hw := hs.1
    have y1 := hsp 1 (by omega) (by omega)
    obtain ⟨x1, p1⟩ := rx 1 (by omega) (by omega)
    have k1 : (k : Int) - 1 = ((k - 1 : Nat) : Int) := by omega
    have y2 := hsp 2 (by omega) (by omega)
    obtain ⟨x2, p2⟩ := rx 2 (by omega) (by omega)
    have k2 : (k : Int) - 2 = ((k - 2 : Nat) : Int) := by omega
    have y3 := hsp 3 (by omega) (by omega)
    obtain ⟨x3, p3⟩ := rx 3 (by omega) (by omega)
    have k3 : (k : Int) - 3 = ((k - 3 : Nat) : Int) := by omega
    rw [w1] at hwk ⊢
    have wN : (3 : Int).toNat = 3 := rfl
    rw [wN, c1]
    have tc : tau 83 = 3 := rfl
    rw [tc]
    have hp := pI_lt r2 hw
    have gl : ((G.length + 1 : Nat) : Int) = (G.length : Int) + 1 := by omega
    obtain ⟨σ1, hσ1⟩ : ∃ q, q = aup (aup (aup (aup (aup σ 140 G.length 0) 141 G.length (pI N (rt G (idN (idG G) (h - 1))) : Int)) 142 G.length (pI N (rt G (idN (idG G) (h - 3))) : Int)) 130 23 ((G.length : Int) + 1)) 141 (pI N (idN (idG G) (h - 3))) (G.length : Int) := ⟨_, rfl⟩
    have m1 : σ1 130 23 = ((G.length + 1 : Nat) : Int) := by rw [hσ1, aup_n1 (by omega), aup_s]; omega
    simp (disch := omega) only [s174_0, s174_1, s174_4, s174_5, s174_8, s174_9, s174_10, s174_11, s174_12, s174_13, s174_15, s174_16, s174_17, s174_20, s174_21, s174_24, s174_25, s174_28, s174_29, s174_32, s174_33, s174_34, s174_35, s174_36, s174_37, s174_39, s174_40, s174_41, s174_44, s174_45, s174_48, s174_49, s174_52, s174_53, s174_56, s174_57, s174_58, s174_59, s174_60, s174_61, s174_63, s174_64, s174_96, s174_97, s174_100, s174_101, s174_103, s174_104, s174_105, s174_108, s174_109, s174_111, s174_112, s174_115, s174_116, s174_119, s174_120, s174_121, s174_122, s174_124, s174_126, s174_129, s174_130, s174_131, s174_134, s174_135, s174_136, s174_137, s174_139, s174_141, s174_144, s174_145, s174_148, s174_149, s174_152, s174_153, s174_155, s174_156, s174_157, s174_160, s174_161, s174_162, s174_163, s174_165, s174_167, s174_170, s174_171, s174_174, s174_175, s174_178, s174_179, s174_180, s174_181, s174_183, s174_185, s174_188, s174_189, s174_190, s174_193, s174_194, s174_196, s174_197, List.cons_append, List.nil_append, if_true, if_false, true_and, and_true, and_self, eq_self, true_or, or_true, false_or, or_false, tIn, tLe, fLe, tLt, fLt, tEq, fEq, isL, k1, y1, x1, k2, y2, x2, k3, y3, x3, kd142, ln142, kd143, ln143, kd141, ln141, Int.toNat_natCast, c169 r1 (show G.length < 640 by omega)]
    rw [← hσ1]
    simp (disch := omega) only [s174_0, s174_1, s174_4, s174_5, s174_8, s174_9, s174_10, s174_11, s174_12, s174_13, s174_15, s174_16, s174_17, s174_20, s174_21, s174_24, s174_25, s174_28, s174_29, s174_32, s174_33, s174_34, s174_35, s174_36, s174_37, s174_39, s174_40, s174_41, s174_44, s174_45, s174_48, s174_49, s174_52, s174_53, s174_56, s174_57, s174_58, s174_59, s174_60, s174_61, s174_63, s174_64, s174_96, s174_97, s174_100, s174_101, s174_103, s174_104, s174_105, s174_108, s174_109, s174_111, s174_112, s174_115, s174_116, s174_119, s174_120, s174_121, s174_122, s174_124, s174_126, s174_129, s174_130, s174_131, s174_134, s174_135, s174_136, s174_137, s174_139, s174_141, s174_144, s174_145, s174_148, s174_149, s174_152, s174_153, s174_155, s174_156, s174_157, s174_160, s174_161, s174_162, s174_163, s174_165, s174_167, s174_170, s174_171, s174_174, s174_175, s174_178, s174_179, s174_180, s174_181, s174_183, s174_185, s174_188, s174_189, s174_190, s174_193, s174_194, s174_196, s174_197, List.cons_append, List.nil_append, if_true, if_false, true_and, and_true, and_self, eq_self, true_or, or_true, false_or, or_false, tIn, tLe, fLe, tLt, fLt, tEq, fEq, isL, k1, y1, x1, k2, y2, x2, k3, y3, x3, kd142, ln142, kd143, ln143, kd141, ln141, Int.toNat_natCast, c169 m1 (show G.length + 1 < 640 by omega)]
    have big : ∀ a, pI N a < G.length → pI N a ≠ G.length ∧ pI N a ≠ G.length + 1 := fun a ha => ⟨by omega, by omega⟩
    have b1 : pI N G.length = G.length := pI_big r2
    have b2 : pI N (G.length + 1) = G.length + 1 := pI_big (by omega)
    subst hσ1
    refine hq _ (RGr_new hR hw (by simp; omega) (fun i hi hn => ?_) ⟨?_, fun _ => ?_, fun z => absurd z (by show ¬ ((1 : Int) = 2); decide)⟩ (fun k hk => ?_) ?_) ⟨fun a q1 q2 q3 q4 => ?_, fun j hj => ?_⟩
    · have hne : pI N i ≠ pI N (idN (idG G) (h - 3)) := fun z => hn (pI_inj z)
      obtain ⟨n1, n2⟩ := big i (pI_lt r2 hi)
      refine ⟨?_, ?_, ?_⟩ <;> simp [aup, hne, n1, n2]
    · have := (RG_at hR hw).1
      rw [hs.2.1] at this
      obtain ⟨n1, n2⟩ := big _ hp
      simp [aup, n1, n2, this]
    · obtain ⟨n1, n2⟩ := big _ hp
      have n3 : ¬ G.length = pI N (idN (idG G) (h - 3)) := by omega
      simp [aup, n1, n2, b1, b2]
    · have hk2 : k < 2 := by simpa using hk
      have n3 : ¬ G.length = pI N (idN (idG G) (h - 3)) := by omega
      have n4 : ¬ G.length + 1 = pI N (idN (idG G) (h - 3)) := by omega
      rcases (show k = 0 ∨ k = 1 by omega) with rfl | rfl
      · unfold nodR
        simp only [Nat.add_zero, b1]
        simp [aup, n3, cT, tau]
      · unfold nodR
        simp only [b2]
        simp [aup, n3, n4, cT, tau]
    · simp [aup]; omega
    · funext i; simp [aup, q1, q2, q3, q4]
    · simp [aup, hj]
  · obtain ⟨es, hs⟩ := S_66 hW h0 e c1
    rw [es] at hq
    have hw := hs.1
    have y1 := hsp 1 (by omega) (by omega)
    obtain ⟨x1, p1⟩ := rx 1 (by omega) (by omega)
    have k1 : (k : Int) - 1 = ((k - 1 : Nat) : Int) := by omega
    have y2 := hsp 2 (by omega) (by omega)
    obtain ⟨x2, p2⟩ := rx 2 (by omega) (by omega)
    have k2 : (k : Int) - 2 = ((k - 2 : Nat) : Int) := by omega
    have y3 := hsp 3 (by omega) (by omega)
    obtain ⟨x3, p3⟩ := rx 3 (by omega) (by omega)
    have k3 : (k : Int) - 3 = ((k - 3 : Nat) : Int) := by omega
    rw [w1] at hwk ⊢
    have wN : (3 : Int).toNat = 3 := rfl
    rw [wN, c1]
    have tc : tau 66 = 4 := rfl
    rw [tc]
    have hp := pI_lt r2 hw
    have gl : ((G.length + 1 : Nat) : Int) = (G.length : Int) + 1 := by omega
    simp (disch := omega) only [s174_0, s174_1, s174_4, s174_5, s174_8, s174_9, s174_10, s174_11, s174_12, s174_13, s174_15, s174_16, s174_17, s174_20, s174_21, s174_24, s174_25, s174_28, s174_29, s174_32, s174_33, s174_34, s174_35, s174_36, s174_37, s174_39, s174_40, s174_41, s174_44, s174_45, s174_48, s174_49, s174_52, s174_53, s174_56, s174_57, s174_58, s174_59, s174_60, s174_61, s174_63, s174_64, s174_96, s174_97, s174_100, s174_101, s174_103, s174_104, s174_105, s174_108, s174_109, s174_111, s174_112, s174_115, s174_116, s174_119, s174_120, s174_121, s174_122, s174_124, s174_126, s174_129, s174_130, s174_131, s174_134, s174_135, s174_136, s174_137, s174_139, s174_141, s174_144, s174_145, s174_148, s174_149, s174_152, s174_153, s174_155, s174_156, s174_157, s174_160, s174_161, s174_162, s174_163, s174_165, s174_167, s174_170, s174_171, s174_174, s174_175, s174_178, s174_179, s174_180, s174_181, s174_183, s174_185, s174_188, s174_189, s174_190, s174_193, s174_194, s174_196, s174_197, List.cons_append, List.nil_append, if_true, if_false, true_and, and_true, and_self, eq_self, true_or, or_true, false_or, or_false, tIn, tLe, fLe, tLt, fLt, tEq, fEq, isL, k1, y1, x1, k2, y2, x2, k3, y3, x3, kd142, ln142, kd143, ln143, kd141, ln141, Int.toNat_natCast]
    have m1 : (aup σ 141 (pI N (idN (idG G) (h - 3))) (pI N (rt G (idN (idG G) (h - 1))) : Int)) 130 23 = (G.length : Int) := by rw [aup_n1 (by omega)]; exact r1
    simp (disch := omega) only [s174_0, s174_1, s174_4, s174_5, s174_8, s174_9, s174_10, s174_11, s174_12, s174_13, s174_15, s174_16, s174_17, s174_20, s174_21, s174_24, s174_25, s174_28, s174_29, s174_32, s174_33, s174_34, s174_35, s174_36, s174_37, s174_39, s174_40, s174_41, s174_44, s174_45, s174_48, s174_49, s174_52, s174_53, s174_56, s174_57, s174_58, s174_59, s174_60, s174_61, s174_63, s174_64, s174_96, s174_97, s174_100, s174_101, s174_103, s174_104, s174_105, s174_108, s174_109, s174_111, s174_112, s174_115, s174_116, s174_119, s174_120, s174_121, s174_122, s174_124, s174_126, s174_129, s174_130, s174_131, s174_134, s174_135, s174_136, s174_137, s174_139, s174_141, s174_144, s174_145, s174_148, s174_149, s174_152, s174_153, s174_155, s174_156, s174_157, s174_160, s174_161, s174_162, s174_163, s174_165, s174_167, s174_170, s174_171, s174_174, s174_175, s174_178, s174_179, s174_180, s174_181, s174_183, s174_185, s174_188, s174_189, s174_190, s174_193, s174_194, s174_196, s174_197, List.cons_append, List.nil_append, if_true, if_false, true_and, and_true, and_self, eq_self, true_or, or_true, false_or, or_false, tIn, tLe, fLe, tLt, fLt, tEq, fEq, isL, k1, y1, x1, k2, y2, x2, k3, y3, x3, kd142, ln142, kd143, ln143, kd141, ln141, Int.toNat_natCast, c169 m1 (show G.length < 640 by omega)]
    have big : ∀ a, pI N a < G.length → pI N a ≠ G.length := fun a ha => by omega
    have b1 : pI N G.length = G.length := pI_big r2
    refine hq _ (RGr_new hR hw (by simp; omega) (fun i hi hn => ?_) ⟨?_, fun _ => ?_, fun z => absurd z (by show ¬ ((1 : Int) = 2); decide)⟩ (fun k hk => ?_) ?_) ⟨fun a q1 q2 q3 q4 => ?_, fun j hj => ?_⟩
    · have hne : pI N i ≠ pI N (idN (idG G) (h - 3)) := fun z => hn (pI_inj z)
      have n1 := big i (pI_lt r2 hi)
      refine ⟨?_, ?_, ?_⟩ <;> simp [aup, hne, n1]
    · have := (RG_at hR hw).1
      rw [hs.2.1] at this
      have n1 := big _ hp
      simp [aup, n1, this]
    · have n1 := big _ hp
      simp [aup, n1, b1]
    · have hk2 : k < 1 := by simpa using hk
      have n3 : ¬ G.length = pI N (idN (idG G) (h - 3)) := by omega
      rcases (show k = 0 by omega) with rfl
      unfold nodR
      simp only [Nat.add_zero, b1]
      simp [aup, n3, cT, tau]
    · simp [aup]
    · funext i; simp [aup, q1, q2, q3, q4]
    · simp [aup, hj]
  · obtain ⟨es, hs⟩ := S_67 hW h0 e c1
    rw [es] at hq
    have hw := hs.1
    have y1 := hsp 1 (by omega) (by omega)
    obtain ⟨x1, p1⟩ := rx 1 (by omega) (by omega)
    have k1 : (k : Int) - 1 = ((k - 1 : Nat) : Int) := by omega
    have y2 := hsp 2 (by omega) (by omega)
    obtain ⟨x2, p2⟩ := rx 2 (by omega) (by omega)
    have k2 : (k : Int) - 2 = ((k - 2 : Nat) : Int) := by omega
    have y3 := hsp 3 (by omega) (by omega)
    obtain ⟨x3, p3⟩ := rx 3 (by omega) (by omega)
    have k3 : (k : Int) - 3 = ((k - 3 : Nat) : Int) := by omega
    rw [w1] at hwk ⊢
    have wN : (3 : Int).toNat = 3 := rfl
    rw [wN, c1]
    have tc : tau 67 = 5 := rfl
    rw [tc]
    have hp := pI_lt r2 hw
    have gl : ((G.length + 1 : Nat) : Int) = (G.length : Int) + 1 := by omega
    simp (disch := omega) only [s174_0, s174_1, s174_4, s174_5, s174_8, s174_9, s174_10, s174_11, s174_12, s174_13, s174_15, s174_16, s174_17, s174_20, s174_21, s174_24, s174_25, s174_28, s174_29, s174_32, s174_33, s174_34, s174_35, s174_36, s174_37, s174_39, s174_40, s174_41, s174_44, s174_45, s174_48, s174_49, s174_52, s174_53, s174_56, s174_57, s174_58, s174_59, s174_60, s174_61, s174_63, s174_64, s174_96, s174_97, s174_100, s174_101, s174_103, s174_104, s174_105, s174_108, s174_109, s174_111, s174_112, s174_115, s174_116, s174_119, s174_120, s174_121, s174_122, s174_124, s174_126, s174_129, s174_130, s174_131, s174_134, s174_135, s174_136, s174_137, s174_139, s174_141, s174_144, s174_145, s174_148, s174_149, s174_152, s174_153, s174_155, s174_156, s174_157, s174_160, s174_161, s174_162, s174_163, s174_165, s174_167, s174_170, s174_171, s174_174, s174_175, s174_178, s174_179, s174_180, s174_181, s174_183, s174_185, s174_188, s174_189, s174_190, s174_193, s174_194, s174_196, s174_197, List.cons_append, List.nil_append, if_true, if_false, true_and, and_true, and_self, eq_self, true_or, or_true, false_or, or_false, tIn, tLe, fLe, tLt, fLt, tEq, fEq, isL, k1, y1, x1, k2, y2, x2, k3, y3, x3, kd142, ln142, kd143, ln143, kd141, ln141, Int.toNat_natCast, c169 r1 (show G.length < 640 by omega)]
    have big : ∀ a, pI N a < G.length → pI N a ≠ G.length := fun a ha => by omega
    have b1 : pI N G.length = G.length := pI_big r2
    refine hq _ (RGr_new hR hw (by simp; omega) (fun i hi hn => ?_) ⟨?_, fun _ => ?_, fun z => absurd z (by show ¬ ((1 : Int) = 2); decide)⟩ (fun k hk => ?_) ?_) ⟨fun a q1 q2 q3 q4 => ?_, fun j hj => ?_⟩
    · have hne : pI N i ≠ pI N (idN (idG G) (h - 3)) := fun z => hn (pI_inj z)
      have n1 := big i (pI_lt r2 hi)
      refine ⟨?_, ?_, ?_⟩ <;> simp [aup, hne, n1]
    · have := (RG_at hR hw).1
      rw [hs.2.1] at this
      have n1 := big _ hp
      simp [aup, n1, this]
    · have n1 := big _ hp
      simp [aup, n1, b1]
    · have hk2 : k < 1 := by simpa using hk
      have n3 : ¬ G.length = pI N (idN (idG G) (h - 3)) := by omega
      rcases (show k = 0 by omega) with rfl
      unfold nodR
      simp only [Nat.add_zero, b1]
      simp [aup, n3, cT, tau]
    · simp [aup]
    · funext i; simp [aup, q1, q2, q3, q4]
    · simp [aup, hj]
end TRC
