section
variable {σ : aSg} {Q : List AV → aSg → Prop}
-- BinderPressModel.wants(I)I
theorem d165_0 : adec m165 0 = some (.iload_n 0, 1) := by decide +kernel
theorem s165_0 {l0 : Int} : WP m165 0 [.inl l0] [] σ Q = WP m165 1 [.inl l0] [.inl l0] σ Q := w_ld d165_0 rfl
theorem d165_1 : adec m165 1 = some (.iconst (1), 1) := by decide +kernel
theorem s165_1 {l0 : Int} {x0 : Int} : WP m165 1 [.inl l0] [.inl x0] σ Q = WP m165 2 [.inl l0] [.inl (1), .inl x0] σ Q := w_iconst d165_1 (by decide)
theorem d165_2 : adec m165 2 = some (.if_icmp .ne (7), 3) := by decide +kernel
theorem s165_2 {l0 : Int} {x0 : Int} {x1 : Int} : WP m165 2 [.inl l0] [.inl x1, .inl x0] σ Q = (if x0 = x1 then WP m165 5 [.inl l0] [] σ Q else WP m165 9 [.inl l0] [] σ Q) := w_icne d165_2 (by decide)
theorem d165_5 : adec m165 5 = some (.iconst (1), 1) := by decide +kernel
theorem s165_5 {l0 : Int} : WP m165 5 [.inl l0] [] σ Q = WP m165 6 [.inl l0] [.inl (1)] σ Q := w_iconst d165_5 (by decide)
theorem d165_6 : adec m165 6 = some (.goto (33), 3) := by decide +kernel
theorem s165_6 {l0 : Int} {x0 : Int} : WP m165 6 [.inl l0] [.inl x0] σ Q = WP m165 39 [.inl l0] [.inl x0] σ Q := w_goto d165_6 (by decide)
theorem d165_9 : adec m165 9 = some (.iload_n 0, 1) := by decide +kernel
theorem s165_9 {l0 : Int} : WP m165 9 [.inl l0] [] σ Q = WP m165 10 [.inl l0] [.inl l0] σ Q := w_ld d165_9 rfl
theorem d165_10 : adec m165 10 = some (.iconst (2), 1) := by decide +kernel
theorem s165_10 {l0 : Int} {x0 : Int} : WP m165 10 [.inl l0] [.inl x0] σ Q = WP m165 11 [.inl l0] [.inl (2), .inl x0] σ Q := w_iconst d165_10 (by decide)
theorem d165_11 : adec m165 11 = some (.if_icmp .ne (7), 3) := by decide +kernel
theorem s165_11 {l0 : Int} {x0 : Int} {x1 : Int} : WP m165 11 [.inl l0] [.inl x1, .inl x0] σ Q = (if x0 = x1 then WP m165 14 [.inl l0] [] σ Q else WP m165 18 [.inl l0] [] σ Q) := w_icne d165_11 (by decide)
theorem d165_14 : adec m165 14 = some (.iconst (2), 1) := by decide +kernel
theorem s165_14 {l0 : Int} : WP m165 14 [.inl l0] [] σ Q = WP m165 15 [.inl l0] [.inl (2)] σ Q := w_iconst d165_14 (by decide)
theorem d165_15 : adec m165 15 = some (.goto (24), 3) := by decide +kernel
theorem s165_15 {l0 : Int} {x0 : Int} : WP m165 15 [.inl l0] [.inl x0] σ Q = WP m165 39 [.inl l0] [.inl x0] σ Q := w_goto d165_15 (by decide)
theorem d165_18 : adec m165 18 = some (.iload_n 0, 1) := by decide +kernel
theorem s165_18 {l0 : Int} : WP m165 18 [.inl l0] [] σ Q = WP m165 19 [.inl l0] [.inl l0] σ Q := w_ld d165_18 rfl
theorem d165_19 : adec m165 19 = some (.i2l, 1) := by decide +kernel
theorem s165_19 {l0 : Int} {x0 : Int} : WP m165 19 [.inl l0] [.inl x0] σ Q = WP m165 20 [.inl l0] [.inr (.inr (.inl x0))] σ Q := w_ld d165_19 rfl
theorem d165_20 : adec m165 20 = some (.ldc2_w 92, 3) := by decide +kernel
theorem s165_20 {l0 : Int} {x0 : Int} : WP m165 20 [.inl l0] [.inr (.inr (.inl x0))] σ Q = WP m165 23 [.inl l0] [.inr (.inr (.inl (3))), .inr (.inr (.inl x0))] σ Q := w_ldc2 d165_20 (by decide +kernel) (by decide)
theorem d165_23 : adec m165 23 = some (.ldc2_w 219, 3) := by decide +kernel
theorem s165_23 {l0 : Int} {x0 : Int} {x1 : Int} : WP m165 23 [.inl l0] [.inr (.inr (.inl x1)), .inr (.inr (.inl x0))] σ Q = WP m165 26 [.inl l0] [.inr (.inr (.inl (5))), .inr (.inr (.inl x1)), .inr (.inr (.inl x0))] σ Q := w_ldc2 d165_23 (by decide +kernel) (by decide)
theorem d165_26 : adec m165 26 = some (.invokestatic 88, 3) := by decide +kernel
theorem s165_26 {l0 : Int} {x0 : Int} {x1 : Int} {x2 : Int} : WP m165 26 [.inl l0] [.inr (.inr (.inl x2)), .inr (.inr (.inl x1)), .inr (.inr (.inl x0))] σ Q = CA m127 [.inr (.inr (.inl x0)), .inr (.inr (.inl x1)), .inr (.inr (.inl x2))] σ (fun v σ2 => WP m165 29 [.inl l0] (v ++ []) σ2 Q) := w_cS (k := 127) d165_26 (by decide +kernel) (md := 1) (by decide +kernel) m127_at rfl rfl ⟨Nat.le_of_ble_eq_true rfl, Nat.le_of_ble_eq_true rfl, Nat.le_of_ble_eq_true rfl⟩ (by decide)
theorem d165_29 : adec m165 29 = some (.ifCond .eq (7), 3) := by decide +kernel
theorem s165_29 {l0 : Int} {x0 : Int} : WP m165 29 [.inl l0] [.inl x0] σ Q = (if x0 = 0 then WP m165 36 [.inl l0] [] σ Q else WP m165 32 [.inl l0] [] σ Q) := w_ifeq d165_29 (by decide)
theorem d165_32 : adec m165 32 = some (.iconst (3), 1) := by decide +kernel
theorem s165_32 {l0 : Int} : WP m165 32 [.inl l0] [] σ Q = WP m165 33 [.inl l0] [.inl (3)] σ Q := w_iconst d165_32 (by decide)
theorem d165_33 : adec m165 33 = some (.goto (6), 3) := by decide +kernel
theorem s165_33 {l0 : Int} {x0 : Int} : WP m165 33 [.inl l0] [.inl x0] σ Q = WP m165 39 [.inl l0] [.inl x0] σ Q := w_goto d165_33 (by decide)
theorem d165_36 : adec m165 36 = some (.sipush (999), 3) := by decide +kernel
theorem s165_36 {l0 : Int} : WP m165 36 [.inl l0] [] σ Q = WP m165 39 [.inl l0] [.inl (999)] σ Q := w_sipush d165_36 (by decide)
theorem d165_39 : adec m165 39 = some (.ireturn, 1) := by decide +kernel
theorem s165_39 {l0 : Int} {x0 : Int} : WP m165 39 [.inl l0] [.inl x0] σ Q = Q [.inl x0] σ := w_ri d165_39 rfl
theorem e165 {p0 : Int} : CA m165 [.inl p0] σ Q = WP m165 0 [.inl p0] [] σ Q := rfl
-- BinderPressModel.finds()Z
theorem d166_0 : adec m166 0 = some (.aload_n 0, 1) := by decide +kernel
theorem s166_0 {l0 : Nat} {l1 : AV} {l2 : AV} {l3 : AV} {l4 : AV} {l5 : AV} {l6 : AV} {l7 : AV} : WP m166 0 [.inr (.inl l0), l1, l2, l3, l4, l5, l6, l7] [] σ Q = WP m166 1 [.inr (.inl l0), l1, l2, l3, l4, l5, l6, l7] [.inr (.inl l0)] σ Q := w_ld d166_0 rfl
theorem d166_1 : adec m166 1 = some (.iconst (0), 1) := by decide +kernel
theorem s166_1 {l0 : Nat} {l1 : AV} {l2 : AV} {l3 : AV} {l4 : AV} {l5 : AV} {l6 : AV} {l7 : AV} {x0 : Nat} : WP m166 1 [.inr (.inl l0), l1, l2, l3, l4, l5, l6, l7] [.inr (.inl x0)] σ Q = WP m166 2 [.inr (.inl l0), l1, l2, l3, l4, l5, l6, l7] [.inl (0), .inr (.inl x0)] σ Q := w_iconst d166_1 (by decide)
theorem d166_2 : adec m166 2 = some (.putfield 94, 3) := by decide +kernel
theorem s166_2 {l0 : Nat} {l1 : AV} {l2 : AV} {l3 : AV} {l4 : AV} {l5 : AV} {l6 : AV} {l7 : AV} {x1 : Int} : WP m166 2 [.inr (.inl l0), l1, l2, l3, l4, l5, l6, l7] [.inl x1, .inr (.inl 130)] σ Q = WP m166 5 [.inr (.inl l0), l1, l2, l3, l4, l5, l6, l7] [] (aup σ 130 11 x1) Q := (w_putI (c := 10) (n := 11) d166_2 (by decide +kernel) (by decide +kernel) (by decide +kernel)).trans (g_and (isO_dec (by decide +kernel)))
theorem d166_5 : adec m166 5 = some (.aload_n 0, 1) := by decide +kernel
theorem s166_5 {l0 : Nat} {l1 : AV} {l2 : AV} {l3 : AV} {l4 : AV} {l5 : AV} {l6 : AV} {l7 : AV} : WP m166 5 [.inr (.inl l0), l1, l2, l3, l4, l5, l6, l7] [] σ Q = WP m166 6 [.inr (.inl l0), l1, l2, l3, l4, l5, l6, l7] [.inr (.inl l0)] σ Q := w_ld d166_5 rfl
theorem d166_6 : adec m166 6 = some (.iconst (0), 1) := by decide +kernel
theorem s166_6 {l0 : Nat} {l1 : AV} {l2 : AV} {l3 : AV} {l4 : AV} {l5 : AV} {l6 : AV} {l7 : AV} {x0 : Nat} : WP m166 6 [.inr (.inl l0), l1, l2, l3, l4, l5, l6, l7] [.inr (.inl x0)] σ Q = WP m166 7 [.inr (.inl l0), l1, l2, l3, l4, l5, l6, l7] [.inl (0), .inr (.inl x0)] σ Q := w_iconst d166_6 (by decide)
theorem d166_7 : adec m166 7 = some (.invokevirtual 172, 3) := by decide +kernel
theorem s166_7 {l0 : Nat} {l1 : AV} {l2 : AV} {l3 : AV} {l4 : AV} {l5 : AV} {l6 : AV} {l7 : AV} {x1 : Int} : WP m166 7 [.inr (.inl l0), l1, l2, l3, l4, l5, l6, l7] [.inl x1, .inr (.inl 130)] σ Q = CA m132 [.inr (.inl 130), .inl x1] σ (fun v σ2 => WP m166 10 [.inr (.inl l0), l1, l2, l3, l4, l5, l6, l7] (v ++ []) σ2 Q) := (w_cV (k := 132) d166_7 (by decide +kernel) m132_at rfl rfl ⟨Nat.le_of_ble_eq_true rfl, Nat.le_of_ble_eq_true rfl, Nat.le_of_ble_eq_true rfl⟩ (by decide)).trans (g_and (isO_dec (by decide +kernel)))
theorem d166_10 : adec m166 10 = some (.aload_n 0, 1) := by decide +kernel
theorem s166_10 {l0 : Nat} {l1 : AV} {l2 : AV} {l3 : AV} {l4 : AV} {l5 : AV} {l6 : AV} {l7 : AV} : WP m166 10 [.inr (.inl l0), l1, l2, l3, l4, l5, l6, l7] [] σ Q = WP m166 11 [.inr (.inl l0), l1, l2, l3, l4, l5, l6, l7] [.inr (.inl l0)] σ Q := w_ld d166_10 rfl
theorem d166_11 : adec m166 11 = some (.getfield 94, 3) := by decide +kernel
theorem s166_11 {l0 : Nat} {l1 : AV} {l2 : AV} {l3 : AV} {l4 : AV} {l5 : AV} {l6 : AV} {l7 : AV} : WP m166 11 [.inr (.inl l0), l1, l2, l3, l4, l5, l6, l7] [.inr (.inl 130)] σ Q = WP m166 14 [.inr (.inl l0), l1, l2, l3, l4, l5, l6, l7] [.inl (σ 130 11)] σ Q := (w_getI (c := 10) (n := 11) d166_11 (by decide +kernel) (by decide +kernel)).trans (g_and (isO_dec (by decide +kernel)))
theorem d166_14 : adec m166 14 = some (.ifCond .le (209), 3) := by decide +kernel
theorem s166_14 {l0 : Nat} {l1 : AV} {l2 : AV} {l3 : AV} {l4 : AV} {l5 : AV} {l6 : AV} {l7 : AV} {x0 : Int} : WP m166 14 [.inr (.inl l0), l1, l2, l3, l4, l5, l6, l7] [.inl x0] σ Q = (if x0 ≤ 0 then WP m166 223 [.inr (.inl l0), l1, l2, l3, l4, l5, l6, l7] [] σ Q else WP m166 17 [.inr (.inl l0), l1, l2, l3, l4, l5, l6, l7] [] σ Q) := w_ifle d166_14 (by decide)
theorem d166_17 : adec m166 17 = some (.aload_n 0, 1) := by decide +kernel
theorem s166_17 {l0 : Nat} {l1 : AV} {l2 : AV} {l3 : AV} {l4 : AV} {l5 : AV} {l6 : AV} {l7 : AV} : WP m166 17 [.inr (.inl l0), l1, l2, l3, l4, l5, l6, l7] [] σ Q = WP m166 18 [.inr (.inl l0), l1, l2, l3, l4, l5, l6, l7] [.inr (.inl l0)] σ Q := w_ld d166_17 rfl
theorem d166_18 : adec m166 18 = some (.invokevirtual 175, 3) := by decide +kernel
theorem s166_18 {l0 : Nat} {l1 : AV} {l2 : AV} {l3 : AV} {l4 : AV} {l5 : AV} {l6 : AV} {l7 : AV} : WP m166 18 [.inr (.inl l0), l1, l2, l3, l4, l5, l6, l7] [.inr (.inl 130)] σ Q = CA m133 [.inr (.inl 130)] σ (fun v σ2 => WP m166 21 [.inr (.inl l0), l1, l2, l3, l4, l5, l6, l7] (v ++ []) σ2 Q) := (w_cV (k := 133) d166_18 (by decide +kernel) m133_at rfl rfl ⟨Nat.le_of_ble_eq_true rfl, Nat.le_of_ble_eq_true rfl, Nat.le_of_ble_eq_true rfl⟩ (by decide)).trans (g_and (isO_dec (by decide +kernel)))
theorem d166_21 : adec m166 21 = some (.istore_n 1, 1) := by decide +kernel
theorem s166_21 {l0 : Nat} {l1 : AV} {l2 : AV} {l3 : AV} {l4 : AV} {l5 : AV} {l6 : AV} {l7 : AV} {x0 : Int} : WP m166 21 [.inr (.inl l0), l1, l2, l3, l4, l5, l6, l7] [.inl x0] σ Q = WP m166 22 [.inr (.inl l0), .inl x0, l2, l3, l4, l5, l6, l7] [] σ Q := w_st1 (j := 1) d166_21 rfl (Nat.le_of_ble_eq_true rfl) rfl
theorem d166_22 : adec m166 22 = some (.iconst (0), 1) := by decide +kernel
theorem s166_22 {l0 : Nat} {l1 : Int} {l2 : AV} {l3 : AV} {l4 : AV} {l5 : AV} {l6 : AV} {l7 : AV} : WP m166 22 [.inr (.inl l0), .inl l1, l2, l3, l4, l5, l6, l7] [] σ Q = WP m166 23 [.inr (.inl l0), .inl l1, l2, l3, l4, l5, l6, l7] [.inl (0)] σ Q := w_iconst d166_22 (by decide)
theorem d166_23 : adec m166 23 = some (.istore_n 2, 1) := by decide +kernel
theorem s166_23 {l0 : Nat} {l1 : Int} {l2 : AV} {l3 : AV} {l4 : AV} {l5 : AV} {l6 : AV} {l7 : AV} {x0 : Int} : WP m166 23 [.inr (.inl l0), .inl l1, l2, l3, l4, l5, l6, l7] [.inl x0] σ Q = WP m166 24 [.inr (.inl l0), .inl l1, .inl x0, l3, l4, l5, l6, l7] [] σ Q := w_st1 (j := 2) d166_23 rfl (Nat.le_of_ble_eq_true rfl) rfl
theorem d166_24 : adec m166 24 = some (.aload_n 0, 1) := by decide +kernel
theorem s166_24 {l0 : Nat} {l1 : Int} {l2 : Int} {l3 : AV} {l4 : AV} {l5 : AV} {l6 : AV} {l7 : AV} : WP m166 24 [.inr (.inl l0), .inl l1, .inl l2, l3, l4, l5, l6, l7] [] σ Q = WP m166 25 [.inr (.inl l0), .inl l1, .inl l2, l3, l4, l5, l6, l7] [.inr (.inl l0)] σ Q := w_ld d166_24 rfl
theorem d166_25 : adec m166 25 = some (.getfield 24, 3) := by decide +kernel
theorem s166_25 {l0 : Nat} {l1 : Int} {l2 : Int} {l3 : AV} {l4 : AV} {l5 : AV} {l6 : AV} {l7 : AV} : WP m166 25 [.inr (.inl l0), .inl l1, .inl l2, l3, l4, l5, l6, l7] [.inr (.inl 130)] σ Q = WP m166 28 [.inr (.inl l0), .inl l1, .inl l2, l3, l4, l5, l6, l7] [.inr (.inl 134)] σ Q := (w_getR (c := 10) (n := 6) d166_25 (by decide +kernel) (by decide +kernel)).trans (g_and ⟨isO_dec (by decide +kernel), by decide +kernel⟩)
theorem d166_28 : adec m166 28 = some (.iload_n 1, 1) := by decide +kernel
theorem s166_28 {l0 : Nat} {l1 : Int} {l2 : Int} {l3 : AV} {l4 : AV} {l5 : AV} {l6 : AV} {l7 : AV} {x0 : Nat} : WP m166 28 [.inr (.inl l0), .inl l1, .inl l2, l3, l4, l5, l6, l7] [.inr (.inl x0)] σ Q = WP m166 29 [.inr (.inl l0), .inl l1, .inl l2, l3, l4, l5, l6, l7] [.inl l1, .inr (.inl x0)] σ Q := w_ld d166_28 rfl
theorem d166_29 : adec m166 29 = some (.iload_n 2, 1) := by decide +kernel
theorem s166_29 {l0 : Nat} {l1 : Int} {l2 : Int} {l3 : AV} {l4 : AV} {l5 : AV} {l6 : AV} {l7 : AV} {x0 : Nat} {x1 : Int} : WP m166 29 [.inr (.inl l0), .inl l1, .inl l2, l3, l4, l5, l6, l7] [.inl x1, .inr (.inl x0)] σ Q = WP m166 30 [.inr (.inl l0), .inl l1, .inl l2, l3, l4, l5, l6, l7] [.inl l2, .inl x1, .inr (.inl x0)] σ Q := w_ld d166_29 rfl
theorem d166_30 : adec m166 30 = some (.iadd, 1) := by decide +kernel
theorem s166_30 {l0 : Nat} {l1 : Int} {l2 : Int} {l3 : AV} {l4 : AV} {l5 : AV} {l6 : AV} {l7 : AV} {x0 : Nat} {x1 : Int} {x2 : Int} : WP m166 30 [.inr (.inl l0), .inl l1, .inl l2, l3, l4, l5, l6, l7] [.inl x2, .inl x1, .inr (.inl x0)] σ Q = (inI (x1 + x2) ∧ WP m166 31 [.inr (.inl l0), .inl l1, .inl l2, l3, l4, l5, l6, l7] [.inl (x1 + x2), .inr (.inl x0)] σ Q) := w_iadd d166_30
theorem d166_31 : adec m166 31 = some (.iaload, 1) := by decide +kernel
theorem s166_31 {l0 : Nat} {l1 : Int} {l2 : Int} {l3 : AV} {l4 : AV} {l5 : AV} {l6 : AV} {l7 : AV} {x0 : Nat} {x1 : Int} : WP m166 31 [.inr (.inl l0), .inl l1, .inl l2, l3, l4, l5, l6, l7] [.inl x1, .inr (.inl x0)] σ Q = ((kdS x0 = 20 ∧ 0 ≤ x1 ∧ x1 < ln x0) ∧ WP m166 32 [.inr (.inl l0), .inl l1, .inl l2, l3, l4, l5, l6, l7] [.inl (σ x0 x1.toNat)] σ Q) := w_iald d166_31
theorem d166_32 : adec m166 32 = some (.ifCond .ne (9), 3) := by decide +kernel
theorem s166_32 {l0 : Nat} {l1 : Int} {l2 : Int} {l3 : AV} {l4 : AV} {l5 : AV} {l6 : AV} {l7 : AV} {x0 : Int} : WP m166 32 [.inr (.inl l0), .inl l1, .inl l2, l3, l4, l5, l6, l7] [.inl x0] σ Q = (if x0 = 0 then WP m166 35 [.inr (.inl l0), .inl l1, .inl l2, l3, l4, l5, l6, l7] [] σ Q else WP m166 41 [.inr (.inl l0), .inl l1, .inl l2, l3, l4, l5, l6, l7] [] σ Q) := w_ifne d166_32 (by decide)
theorem d166_35 : adec m166 35 = some (.iinc 2 (1), 3) := by decide +kernel
theorem s166_35 {l0 : Nat} {l1 : Int} {l2 : Int} {l3 : AV} {l4 : AV} {l5 : AV} {l6 : AV} {l7 : AV} : WP m166 35 [.inr (.inl l0), .inl l1, .inl l2, l3, l4, l5, l6, l7] [] σ Q = (inI (l2 + (1)) ∧ WP m166 38 [.inr (.inl l0), .inl l1, .inl (l2 + (1)), l3, l4, l5, l6, l7] [] σ Q) := w_iinc d166_35 rfl rfl
theorem d166_38 : adec m166 38 = some (.goto (-14), 3) := by decide +kernel
theorem s166_38 {l0 : Nat} {l1 : Int} {l2 : Int} {l3 : AV} {l4 : AV} {l5 : AV} {l6 : AV} {l7 : AV} : WP m166 38 [.inr (.inl l0), .inl l1, .inl l2, l3, l4, l5, l6, l7] [] σ Q = WP m166 24 [.inr (.inl l0), .inl l1, .inl l2, l3, l4, l5, l6, l7] [] σ Q := w_goto d166_38 (by decide)
theorem d166_41 : adec m166 41 = some (.aload_n 0, 1) := by decide +kernel
theorem s166_41 {l0 : Nat} {l1 : Int} {l2 : Int} {l3 : AV} {l4 : AV} {l5 : AV} {l6 : AV} {l7 : AV} : WP m166 41 [.inr (.inl l0), .inl l1, .inl l2, l3, l4, l5, l6, l7] [] σ Q = WP m166 42 [.inr (.inl l0), .inl l1, .inl l2, l3, l4, l5, l6, l7] [.inr (.inl l0)] σ Q := w_ld d166_41 rfl
theorem d166_42 : adec m166 42 = some (.getfield 24, 3) := by decide +kernel
theorem s166_42 {l0 : Nat} {l1 : Int} {l2 : Int} {l3 : AV} {l4 : AV} {l5 : AV} {l6 : AV} {l7 : AV} : WP m166 42 [.inr (.inl l0), .inl l1, .inl l2, l3, l4, l5, l6, l7] [.inr (.inl 130)] σ Q = WP m166 45 [.inr (.inl l0), .inl l1, .inl l2, l3, l4, l5, l6, l7] [.inr (.inl 134)] σ Q := (w_getR (c := 10) (n := 6) d166_42 (by decide +kernel) (by decide +kernel)).trans (g_and ⟨isO_dec (by decide +kernel), by decide +kernel⟩)
theorem d166_45 : adec m166 45 = some (.iload_n 1, 1) := by decide +kernel
theorem s166_45 {l0 : Nat} {l1 : Int} {l2 : Int} {l3 : AV} {l4 : AV} {l5 : AV} {l6 : AV} {l7 : AV} {x0 : Nat} : WP m166 45 [.inr (.inl l0), .inl l1, .inl l2, l3, l4, l5, l6, l7] [.inr (.inl x0)] σ Q = WP m166 46 [.inr (.inl l0), .inl l1, .inl l2, l3, l4, l5, l6, l7] [.inl l1, .inr (.inl x0)] σ Q := w_ld d166_45 rfl
theorem d166_46 : adec m166 46 = some (.iload_n 2, 1) := by decide +kernel
theorem s166_46 {l0 : Nat} {l1 : Int} {l2 : Int} {l3 : AV} {l4 : AV} {l5 : AV} {l6 : AV} {l7 : AV} {x0 : Nat} {x1 : Int} : WP m166 46 [.inr (.inl l0), .inl l1, .inl l2, l3, l4, l5, l6, l7] [.inl x1, .inr (.inl x0)] σ Q = WP m166 47 [.inr (.inl l0), .inl l1, .inl l2, l3, l4, l5, l6, l7] [.inl l2, .inl x1, .inr (.inl x0)] σ Q := w_ld d166_46 rfl
theorem d166_47 : adec m166 47 = some (.iadd, 1) := by decide +kernel
theorem s166_47 {l0 : Nat} {l1 : Int} {l2 : Int} {l3 : AV} {l4 : AV} {l5 : AV} {l6 : AV} {l7 : AV} {x0 : Nat} {x1 : Int} {x2 : Int} : WP m166 47 [.inr (.inl l0), .inl l1, .inl l2, l3, l4, l5, l6, l7] [.inl x2, .inl x1, .inr (.inl x0)] σ Q = (inI (x1 + x2) ∧ WP m166 48 [.inr (.inl l0), .inl l1, .inl l2, l3, l4, l5, l6, l7] [.inl (x1 + x2), .inr (.inl x0)] σ Q) := w_iadd d166_47
theorem d166_48 : adec m166 48 = some (.iaload, 1) := by decide +kernel
theorem s166_48 {l0 : Nat} {l1 : Int} {l2 : Int} {l3 : AV} {l4 : AV} {l5 : AV} {l6 : AV} {l7 : AV} {x0 : Nat} {x1 : Int} : WP m166 48 [.inr (.inl l0), .inl l1, .inl l2, l3, l4, l5, l6, l7] [.inl x1, .inr (.inl x0)] σ Q = ((kdS x0 = 20 ∧ 0 ≤ x1 ∧ x1 < ln x0) ∧ WP m166 49 [.inr (.inl l0), .inl l1, .inl l2, l3, l4, l5, l6, l7] [.inl (σ x0 x1.toNat)] σ Q) := w_iald d166_48
theorem d166_49 : adec m166 49 = some (.invokestatic 223, 3) := by decide +kernel
theorem s166_49 {l0 : Nat} {l1 : Int} {l2 : Int} {l3 : AV} {l4 : AV} {l5 : AV} {l6 : AV} {l7 : AV} {x0 : Int} : WP m166 49 [.inr (.inl l0), .inl l1, .inl l2, l3, l4, l5, l6, l7] [.inl x0] σ Q = CA m165 [.inl x0] σ (fun v σ2 => WP m166 52 [.inr (.inl l0), .inl l1, .inl l2, l3, l4, l5, l6, l7] (v ++ []) σ2 Q) := w_cS (k := 165) d166_49 (by decide +kernel) (md := 1) (by decide +kernel) m165_at rfl rfl ⟨Nat.le_of_ble_eq_true rfl, Nat.le_of_ble_eq_true rfl, Nat.le_of_ble_eq_true rfl⟩ (by decide)
theorem d166_52 : adec m166 52 = some (.istore_n 3, 1) := by decide +kernel
theorem s166_52 {l0 : Nat} {l1 : Int} {l2 : Int} {l3 : AV} {l4 : AV} {l5 : AV} {l6 : AV} {l7 : AV} {x0 : Int} : WP m166 52 [.inr (.inl l0), .inl l1, .inl l2, l3, l4, l5, l6, l7] [.inl x0] σ Q = WP m166 53 [.inr (.inl l0), .inl l1, .inl l2, .inl x0, l4, l5, l6, l7] [] σ Q := w_st1 (j := 3) d166_52 rfl (Nat.le_of_ble_eq_true rfl) rfl
theorem d166_53 : adec m166 53 = some (.iload_n 1, 1) := by decide +kernel
theorem s166_53 {l0 : Nat} {l1 : Int} {l2 : Int} {l3 : Int} {l4 : AV} {l5 : AV} {l6 : AV} {l7 : AV} : WP m166 53 [.inr (.inl l0), .inl l1, .inl l2, .inl l3, l4, l5, l6, l7] [] σ Q = WP m166 54 [.inr (.inl l0), .inl l1, .inl l2, .inl l3, l4, l5, l6, l7] [.inl l1] σ Q := w_ld d166_53 rfl
theorem d166_54 : adec m166 54 = some (.iload_n 2, 1) := by decide +kernel
theorem s166_54 {l0 : Nat} {l1 : Int} {l2 : Int} {l3 : Int} {l4 : AV} {l5 : AV} {l6 : AV} {l7 : AV} {x0 : Int} : WP m166 54 [.inr (.inl l0), .inl l1, .inl l2, .inl l3, l4, l5, l6, l7] [.inl x0] σ Q = WP m166 55 [.inr (.inl l0), .inl l1, .inl l2, .inl l3, l4, l5, l6, l7] [.inl l2, .inl x0] σ Q := w_ld d166_54 rfl
theorem d166_55 : adec m166 55 = some (.iadd, 1) := by decide +kernel
theorem s166_55 {l0 : Nat} {l1 : Int} {l2 : Int} {l3 : Int} {l4 : AV} {l5 : AV} {l6 : AV} {l7 : AV} {x0 : Int} {x1 : Int} : WP m166 55 [.inr (.inl l0), .inl l1, .inl l2, .inl l3, l4, l5, l6, l7] [.inl x1, .inl x0] σ Q = (inI (x0 + x1) ∧ WP m166 56 [.inr (.inl l0), .inl l1, .inl l2, .inl l3, l4, l5, l6, l7] [.inl (x0 + x1)] σ Q) := w_iadd d166_55
theorem d166_56 : adec m166 56 = some (.iconst (1), 1) := by decide +kernel
theorem s166_56 {l0 : Nat} {l1 : Int} {l2 : Int} {l3 : Int} {l4 : AV} {l5 : AV} {l6 : AV} {l7 : AV} {x0 : Int} : WP m166 56 [.inr (.inl l0), .inl l1, .inl l2, .inl l3, l4, l5, l6, l7] [.inl x0] σ Q = WP m166 57 [.inr (.inl l0), .inl l1, .inl l2, .inl l3, l4, l5, l6, l7] [.inl (1), .inl x0] σ Q := w_iconst d166_56 (by decide)
theorem d166_57 : adec m166 57 = some (.iadd, 1) := by decide +kernel
theorem s166_57 {l0 : Nat} {l1 : Int} {l2 : Int} {l3 : Int} {l4 : AV} {l5 : AV} {l6 : AV} {l7 : AV} {x0 : Int} {x1 : Int} : WP m166 57 [.inr (.inl l0), .inl l1, .inl l2, .inl l3, l4, l5, l6, l7] [.inl x1, .inl x0] σ Q = (inI (x0 + x1) ∧ WP m166 58 [.inr (.inl l0), .inl l1, .inl l2, .inl l3, l4, l5, l6, l7] [.inl (x0 + x1)] σ Q) := w_iadd d166_57
theorem d166_58 : adec m166 58 = some (.istore 4, 2) := by decide +kernel
theorem s166_58 {l0 : Nat} {l1 : Int} {l2 : Int} {l3 : Int} {l4 : AV} {l5 : AV} {l6 : AV} {l7 : AV} {x0 : Int} : WP m166 58 [.inr (.inl l0), .inl l1, .inl l2, .inl l3, l4, l5, l6, l7] [.inl x0] σ Q = WP m166 60 [.inr (.inl l0), .inl l1, .inl l2, .inl l3, .inl x0, l5, l6, l7] [] σ Q := w_st1 (j := 4) d166_58 rfl (Nat.le_of_ble_eq_true rfl) rfl
theorem d166_60 : adec m166 60 = some (.iload_n 3, 1) := by decide +kernel
theorem s166_60 {l0 : Nat} {l1 : Int} {l2 : Int} {l3 : Int} {l4 : Int} {l5 : AV} {l6 : AV} {l7 : AV} : WP m166 60 [.inr (.inl l0), .inl l1, .inl l2, .inl l3, .inl l4, l5, l6, l7] [] σ Q = WP m166 61 [.inr (.inl l0), .inl l1, .inl l2, .inl l3, .inl l4, l5, l6, l7] [.inl l3] σ Q := w_ld d166_60 rfl
theorem d166_61 : adec m166 61 = some (.iload_n 2, 1) := by decide +kernel
theorem s166_61 {l0 : Nat} {l1 : Int} {l2 : Int} {l3 : Int} {l4 : Int} {l5 : AV} {l6 : AV} {l7 : AV} {x0 : Int} : WP m166 61 [.inr (.inl l0), .inl l1, .inl l2, .inl l3, .inl l4, l5, l6, l7] [.inl x0] σ Q = WP m166 62 [.inr (.inl l0), .inl l1, .inl l2, .inl l3, .inl l4, l5, l6, l7] [.inl l2, .inl x0] σ Q := w_ld d166_61 rfl
theorem d166_62 : adec m166 62 = some (.if_icmp .gt (54), 3) := by decide +kernel
theorem s166_62 {l0 : Nat} {l1 : Int} {l2 : Int} {l3 : Int} {l4 : Int} {l5 : AV} {l6 : AV} {l7 : AV} {x0 : Int} {x1 : Int} : WP m166 62 [.inr (.inl l0), .inl l1, .inl l2, .inl l3, .inl l4, l5, l6, l7] [.inl x1, .inl x0] σ Q = (if x1 < x0 then WP m166 116 [.inr (.inl l0), .inl l1, .inl l2, .inl l3, .inl l4, l5, l6, l7] [] σ Q else WP m166 65 [.inr (.inl l0), .inl l1, .inl l2, .inl l3, .inl l4, l5, l6, l7] [] σ Q) := w_icgt d166_62 (by decide)
theorem d166_65 : adec m166 65 = some (.aload_n 0, 1) := by decide +kernel
theorem s166_65 {l0 : Nat} {l1 : Int} {l2 : Int} {l3 : Int} {l4 : Int} {l5 : AV} {l6 : AV} {l7 : AV} : WP m166 65 [.inr (.inl l0), .inl l1, .inl l2, .inl l3, .inl l4, l5, l6, l7] [] σ Q = WP m166 66 [.inr (.inl l0), .inl l1, .inl l2, .inl l3, .inl l4, l5, l6, l7] [.inr (.inl l0)] σ Q := w_ld d166_65 rfl
theorem d166_66 : adec m166 66 = some (.iload_n 1, 1) := by decide +kernel
theorem s166_66 {l0 : Nat} {l1 : Int} {l2 : Int} {l3 : Int} {l4 : Int} {l5 : AV} {l6 : AV} {l7 : AV} {x0 : Nat} : WP m166 66 [.inr (.inl l0), .inl l1, .inl l2, .inl l3, .inl l4, l5, l6, l7] [.inr (.inl x0)] σ Q = WP m166 67 [.inr (.inl l0), .inl l1, .inl l2, .inl l3, .inl l4, l5, l6, l7] [.inl l1, .inr (.inl x0)] σ Q := w_ld d166_66 rfl
theorem d166_67 : adec m166 67 = some (.iload_n 2, 1) := by decide +kernel
theorem s166_67 {l0 : Nat} {l1 : Int} {l2 : Int} {l3 : Int} {l4 : Int} {l5 : AV} {l6 : AV} {l7 : AV} {x0 : Nat} {x1 : Int} : WP m166 67 [.inr (.inl l0), .inl l1, .inl l2, .inl l3, .inl l4, l5, l6, l7] [.inl x1, .inr (.inl x0)] σ Q = WP m166 68 [.inr (.inl l0), .inl l1, .inl l2, .inl l3, .inl l4, l5, l6, l7] [.inl l2, .inl x1, .inr (.inl x0)] σ Q := w_ld d166_67 rfl
theorem d166_68 : adec m166 68 = some (.iadd, 1) := by decide +kernel
theorem s166_68 {l0 : Nat} {l1 : Int} {l2 : Int} {l3 : Int} {l4 : Int} {l5 : AV} {l6 : AV} {l7 : AV} {x0 : Nat} {x1 : Int} {x2 : Int} : WP m166 68 [.inr (.inl l0), .inl l1, .inl l2, .inl l3, .inl l4, l5, l6, l7] [.inl x2, .inl x1, .inr (.inl x0)] σ Q = (inI (x1 + x2) ∧ WP m166 69 [.inr (.inl l0), .inl l1, .inl l2, .inl l3, .inl l4, l5, l6, l7] [.inl (x1 + x2), .inr (.inl x0)] σ Q) := w_iadd d166_68
theorem d166_69 : adec m166 69 = some (.iload_n 3, 1) := by decide +kernel
theorem s166_69 {l0 : Nat} {l1 : Int} {l2 : Int} {l3 : Int} {l4 : Int} {l5 : AV} {l6 : AV} {l7 : AV} {x0 : Nat} {x1 : Int} : WP m166 69 [.inr (.inl l0), .inl l1, .inl l2, .inl l3, .inl l4, l5, l6, l7] [.inl x1, .inr (.inl x0)] σ Q = WP m166 70 [.inr (.inl l0), .inl l1, .inl l2, .inl l3, .inl l4, l5, l6, l7] [.inl l3, .inl x1, .inr (.inl x0)] σ Q := w_ld d166_69 rfl
theorem d166_70 : adec m166 70 = some (.isub, 1) := by decide +kernel
theorem s166_70 {l0 : Nat} {l1 : Int} {l2 : Int} {l3 : Int} {l4 : Int} {l5 : AV} {l6 : AV} {l7 : AV} {x0 : Nat} {x1 : Int} {x2 : Int} : WP m166 70 [.inr (.inl l0), .inl l1, .inl l2, .inl l3, .inl l4, l5, l6, l7] [.inl x2, .inl x1, .inr (.inl x0)] σ Q = (inI (x1 - x2) ∧ WP m166 71 [.inr (.inl l0), .inl l1, .inl l2, .inl l3, .inl l4, l5, l6, l7] [.inl (x1 - x2), .inr (.inl x0)] σ Q) := w_isub d166_70
theorem d166_71 : adec m166 71 = some (.putfield 226, 3) := by decide +kernel
theorem s166_71 {l0 : Nat} {l1 : Int} {l2 : Int} {l3 : Int} {l4 : Int} {l5 : AV} {l6 : AV} {l7 : AV} {x1 : Int} : WP m166 71 [.inr (.inl l0), .inl l1, .inl l2, .inl l3, .inl l4, l5, l6, l7] [.inl x1, .inr (.inl 130)] σ Q = WP m166 74 [.inr (.inl l0), .inl l1, .inl l2, .inl l3, .inl l4, l5, l6, l7] [] (aup σ 130 16 x1) Q := (w_putI (c := 10) (n := 16) d166_71 (by decide +kernel) (by decide +kernel) (by decide +kernel)).trans (g_and (isO_dec (by decide +kernel)))
theorem d166_74 : adec m166 74 = some (.iconst (0), 1) := by decide +kernel
theorem s166_74 {l0 : Nat} {l1 : Int} {l2 : Int} {l3 : Int} {l4 : Int} {l5 : AV} {l6 : AV} {l7 : AV} : WP m166 74 [.inr (.inl l0), .inl l1, .inl l2, .inl l3, .inl l4, l5, l6, l7] [] σ Q = WP m166 75 [.inr (.inl l0), .inl l1, .inl l2, .inl l3, .inl l4, l5, l6, l7] [.inl (0)] σ Q := w_iconst d166_74 (by decide)
theorem d166_75 : adec m166 75 = some (.istore 5, 2) := by decide +kernel
theorem s166_75 {l0 : Nat} {l1 : Int} {l2 : Int} {l3 : Int} {l4 : Int} {l5 : AV} {l6 : AV} {l7 : AV} {x0 : Int} : WP m166 75 [.inr (.inl l0), .inl l1, .inl l2, .inl l3, .inl l4, l5, l6, l7] [.inl x0] σ Q = WP m166 77 [.inr (.inl l0), .inl l1, .inl l2, .inl l3, .inl l4, .inl x0, l6, l7] [] σ Q := w_st1 (j := 5) d166_75 rfl (Nat.le_of_ble_eq_true rfl) rfl
theorem d166_77 : adec m166 77 = some (.iload 5, 2) := by decide +kernel
theorem s166_77 {l0 : Nat} {l1 : Int} {l2 : Int} {l3 : Int} {l4 : Int} {l5 : Int} {l6 : AV} {l7 : AV} : WP m166 77 [.inr (.inl l0), .inl l1, .inl l2, .inl l3, .inl l4, .inl l5, l6, l7] [] σ Q = WP m166 79 [.inr (.inl l0), .inl l1, .inl l2, .inl l3, .inl l4, .inl l5, l6, l7] [.inl l5] σ Q := w_ld d166_77 rfl
theorem d166_79 : adec m166 79 = some (.iload_n 3, 1) := by decide +kernel
theorem s166_79 {l0 : Nat} {l1 : Int} {l2 : Int} {l3 : Int} {l4 : Int} {l5 : Int} {l6 : AV} {l7 : AV} {x0 : Int} : WP m166 79 [.inr (.inl l0), .inl l1, .inl l2, .inl l3, .inl l4, .inl l5, l6, l7] [.inl x0] σ Q = WP m166 80 [.inr (.inl l0), .inl l1, .inl l2, .inl l3, .inl l4, .inl l5, l6, l7] [.inl l3, .inl x0] σ Q := w_ld d166_79 rfl
theorem d166_80 : adec m166 80 = some (.if_icmp .ge (26), 3) := by decide +kernel
theorem s166_80 {l0 : Nat} {l1 : Int} {l2 : Int} {l3 : Int} {l4 : Int} {l5 : Int} {l6 : AV} {l7 : AV} {x0 : Int} {x1 : Int} : WP m166 80 [.inr (.inl l0), .inl l1, .inl l2, .inl l3, .inl l4, .inl l5, l6, l7] [.inl x1, .inl x0] σ Q = (if x1 ≤ x0 then WP m166 106 [.inr (.inl l0), .inl l1, .inl l2, .inl l3, .inl l4, .inl l5, l6, l7] [] σ Q else WP m166 83 [.inr (.inl l0), .inl l1, .inl l2, .inl l3, .inl l4, .inl l5, l6, l7] [] σ Q) := w_icge d166_80 (by decide)
theorem d166_83 : adec m166 83 = some (.aload_n 0, 1) := by decide +kernel
theorem s166_83 {l0 : Nat} {l1 : Int} {l2 : Int} {l3 : Int} {l4 : Int} {l5 : Int} {l6 : AV} {l7 : AV} : WP m166 83 [.inr (.inl l0), .inl l1, .inl l2, .inl l3, .inl l4, .inl l5, l6, l7] [] σ Q = WP m166 84 [.inr (.inl l0), .inl l1, .inl l2, .inl l3, .inl l4, .inl l5, l6, l7] [.inr (.inl l0)] σ Q := w_ld d166_83 rfl
theorem d166_84 : adec m166 84 = some (.getfield 39, 3) := by decide +kernel
theorem s166_84 {l0 : Nat} {l1 : Int} {l2 : Int} {l3 : Int} {l4 : Int} {l5 : Int} {l6 : AV} {l7 : AV} : WP m166 84 [.inr (.inl l0), .inl l1, .inl l2, .inl l3, .inl l4, .inl l5, l6, l7] [.inr (.inl 130)] σ Q = WP m166 87 [.inr (.inl l0), .inl l1, .inl l2, .inl l3, .inl l4, .inl l5, l6, l7] [.inr (.inl 139)] σ Q := (w_getR (c := 10) (n := 17) d166_84 (by decide +kernel) (by decide +kernel)).trans (g_and ⟨isO_dec (by decide +kernel), by decide +kernel⟩)
theorem d166_87 : adec m166 87 = some (.iload 5, 2) := by decide +kernel
theorem s166_87 {l0 : Nat} {l1 : Int} {l2 : Int} {l3 : Int} {l4 : Int} {l5 : Int} {l6 : AV} {l7 : AV} {x0 : Nat} : WP m166 87 [.inr (.inl l0), .inl l1, .inl l2, .inl l3, .inl l4, .inl l5, l6, l7] [.inr (.inl x0)] σ Q = WP m166 89 [.inr (.inl l0), .inl l1, .inl l2, .inl l3, .inl l4, .inl l5, l6, l7] [.inl l5, .inr (.inl x0)] σ Q := w_ld d166_87 rfl
theorem d166_89 : adec m166 89 = some (.iload 4, 2) := by decide +kernel
theorem s166_89 {l0 : Nat} {l1 : Int} {l2 : Int} {l3 : Int} {l4 : Int} {l5 : Int} {l6 : AV} {l7 : AV} {x0 : Nat} {x1 : Int} : WP m166 89 [.inr (.inl l0), .inl l1, .inl l2, .inl l3, .inl l4, .inl l5, l6, l7] [.inl x1, .inr (.inl x0)] σ Q = WP m166 91 [.inr (.inl l0), .inl l1, .inl l2, .inl l3, .inl l4, .inl l5, l6, l7] [.inl l4, .inl x1, .inr (.inl x0)] σ Q := w_ld d166_89 rfl
theorem d166_91 : adec m166 91 = some (.iastore, 1) := by decide +kernel
theorem s166_91 {l0 : Nat} {l1 : Int} {l2 : Int} {l3 : Int} {l4 : Int} {l5 : Int} {l6 : AV} {l7 : AV} {x0 : Nat} {x1 : Int} {x2 : Int} : WP m166 91 [.inr (.inl l0), .inl l1, .inl l2, .inl l3, .inl l4, .inl l5, l6, l7] [.inl x2, .inl x1, .inr (.inl x0)] σ Q = ((kdS x0 = 20 ∧ 0 ≤ x1 ∧ x1 < ln x0) ∧ WP m166 92 [.inr (.inl l0), .inl l1, .inl l2, .inl l3, .inl l4, .inl l5, l6, l7] [] (aup σ x0 x1.toNat x2) Q) := w_iast d166_91
theorem d166_92 : adec m166 92 = some (.aload_n 0, 1) := by decide +kernel
theorem s166_92 {l0 : Nat} {l1 : Int} {l2 : Int} {l3 : Int} {l4 : Int} {l5 : Int} {l6 : AV} {l7 : AV} : WP m166 92 [.inr (.inl l0), .inl l1, .inl l2, .inl l3, .inl l4, .inl l5, l6, l7] [] σ Q = WP m166 93 [.inr (.inl l0), .inl l1, .inl l2, .inl l3, .inl l4, .inl l5, l6, l7] [.inr (.inl l0)] σ Q := w_ld d166_92 rfl
theorem d166_93 : adec m166 93 = some (.iload 4, 2) := by decide +kernel
theorem s166_93 {l0 : Nat} {l1 : Int} {l2 : Int} {l3 : Int} {l4 : Int} {l5 : Int} {l6 : AV} {l7 : AV} {x0 : Nat} : WP m166 93 [.inr (.inl l0), .inl l1, .inl l2, .inl l3, .inl l4, .inl l5, l6, l7] [.inr (.inl x0)] σ Q = WP m166 95 [.inr (.inl l0), .inl l1, .inl l2, .inl l3, .inl l4, .inl l5, l6, l7] [.inl l4, .inr (.inl x0)] σ Q := w_ld d166_93 rfl
theorem d166_95 : adec m166 95 = some (.invokevirtual 165, 3) := by decide +kernel
theorem s166_95 {l0 : Nat} {l1 : Int} {l2 : Int} {l3 : Int} {l4 : Int} {l5 : Int} {l6 : AV} {l7 : AV} {x1 : Int} : WP m166 95 [.inr (.inl l0), .inl l1, .inl l2, .inl l3, .inl l4, .inl l5, l6, l7] [.inl x1, .inr (.inl 130)] σ Q = CA m149 [.inr (.inl 130), .inl x1] σ (fun v σ2 => WP m166 98 [.inr (.inl l0), .inl l1, .inl l2, .inl l3, .inl l4, .inl l5, l6, l7] (v ++ []) σ2 Q) := (w_cV (k := 149) d166_95 (by decide +kernel) m149_at rfl rfl ⟨Nat.le_of_ble_eq_true rfl, Nat.le_of_ble_eq_true rfl, Nat.le_of_ble_eq_true rfl⟩ (by decide)).trans (g_and (isO_dec (by decide +kernel)))
theorem d166_98 : adec m166 98 = some (.istore 4, 2) := by decide +kernel
theorem s166_98 {l0 : Nat} {l1 : Int} {l2 : Int} {l3 : Int} {l4 : Int} {l5 : Int} {l6 : AV} {l7 : AV} {x0 : Int} : WP m166 98 [.inr (.inl l0), .inl l1, .inl l2, .inl l3, .inl l4, .inl l5, l6, l7] [.inl x0] σ Q = WP m166 100 [.inr (.inl l0), .inl l1, .inl l2, .inl l3, .inl x0, .inl l5, l6, l7] [] σ Q := w_st1 (j := 4) d166_98 rfl (Nat.le_of_ble_eq_true rfl) rfl
theorem d166_100 : adec m166 100 = some (.iinc 5 (1), 3) := by decide +kernel
theorem s166_100 {l0 : Nat} {l1 : Int} {l2 : Int} {l3 : Int} {l4 : Int} {l5 : Int} {l6 : AV} {l7 : AV} : WP m166 100 [.inr (.inl l0), .inl l1, .inl l2, .inl l3, .inl l4, .inl l5, l6, l7] [] σ Q = (inI (l5 + (1)) ∧ WP m166 103 [.inr (.inl l0), .inl l1, .inl l2, .inl l3, .inl l4, .inl (l5 + (1)), l6, l7] [] σ Q) := w_iinc d166_100 rfl rfl
theorem d166_103 : adec m166 103 = some (.goto (-26), 3) := by decide +kernel
theorem s166_103 {l0 : Nat} {l1 : Int} {l2 : Int} {l3 : Int} {l4 : Int} {l5 : Int} {l6 : AV} {l7 : AV} : WP m166 103 [.inr (.inl l0), .inl l1, .inl l2, .inl l3, .inl l4, .inl l5, l6, l7] [] σ Q = WP m166 77 [.inr (.inl l0), .inl l1, .inl l2, .inl l3, .inl l4, .inl l5, l6, l7] [] σ Q := w_goto d166_103 (by decide)
theorem d166_106 : adec m166 106 = some (.aload_n 0, 1) := by decide +kernel
theorem s166_106 {l0 : Nat} {l1 : Int} {l2 : Int} {l3 : Int} {l4 : Int} {l5 : Int} {l6 : AV} {l7 : AV} : WP m166 106 [.inr (.inl l0), .inl l1, .inl l2, .inl l3, .inl l4, .inl l5, l6, l7] [] σ Q = WP m166 107 [.inr (.inl l0), .inl l1, .inl l2, .inl l3, .inl l4, .inl l5, l6, l7] [.inr (.inl l0)] σ Q := w_ld d166_106 rfl
theorem d166_107 : adec m166 107 = some (.getfield 39, 3) := by decide +kernel
theorem s166_107 {l0 : Nat} {l1 : Int} {l2 : Int} {l3 : Int} {l4 : Int} {l5 : Int} {l6 : AV} {l7 : AV} : WP m166 107 [.inr (.inl l0), .inl l1, .inl l2, .inl l3, .inl l4, .inl l5, l6, l7] [.inr (.inl 130)] σ Q = WP m166 110 [.inr (.inl l0), .inl l1, .inl l2, .inl l3, .inl l4, .inl l5, l6, l7] [.inr (.inl 139)] σ Q := (w_getR (c := 10) (n := 17) d166_107 (by decide +kernel) (by decide +kernel)).trans (g_and ⟨isO_dec (by decide +kernel), by decide +kernel⟩)
theorem d166_110 : adec m166 110 = some (.iconst (3), 1) := by decide +kernel
theorem s166_110 {l0 : Nat} {l1 : Int} {l2 : Int} {l3 : Int} {l4 : Int} {l5 : Int} {l6 : AV} {l7 : AV} {x0 : Nat} : WP m166 110 [.inr (.inl l0), .inl l1, .inl l2, .inl l3, .inl l4, .inl l5, l6, l7] [.inr (.inl x0)] σ Q = WP m166 111 [.inr (.inl l0), .inl l1, .inl l2, .inl l3, .inl l4, .inl l5, l6, l7] [.inl (3), .inr (.inl x0)] σ Q := w_iconst d166_110 (by decide)
theorem d166_111 : adec m166 111 = some (.iload 4, 2) := by decide +kernel
theorem s166_111 {l0 : Nat} {l1 : Int} {l2 : Int} {l3 : Int} {l4 : Int} {l5 : Int} {l6 : AV} {l7 : AV} {x0 : Nat} {x1 : Int} : WP m166 111 [.inr (.inl l0), .inl l1, .inl l2, .inl l3, .inl l4, .inl l5, l6, l7] [.inl x1, .inr (.inl x0)] σ Q = WP m166 113 [.inr (.inl l0), .inl l1, .inl l2, .inl l3, .inl l4, .inl l5, l6, l7] [.inl l4, .inl x1, .inr (.inl x0)] σ Q := w_ld d166_111 rfl
theorem d166_113 : adec m166 113 = some (.iastore, 1) := by decide +kernel
theorem s166_113 {l0 : Nat} {l1 : Int} {l2 : Int} {l3 : Int} {l4 : Int} {l5 : Int} {l6 : AV} {l7 : AV} {x0 : Nat} {x1 : Int} {x2 : Int} : WP m166 113 [.inr (.inl l0), .inl l1, .inl l2, .inl l3, .inl l4, .inl l5, l6, l7] [.inl x2, .inl x1, .inr (.inl x0)] σ Q = ((kdS x0 = 20 ∧ 0 ≤ x1 ∧ x1 < ln x0) ∧ WP m166 114 [.inr (.inl l0), .inl l1, .inl l2, .inl l3, .inl l4, .inl l5, l6, l7] [] (aup σ x0 x1.toNat x2) Q) := w_iast d166_113
theorem d166_114 : adec m166 114 = some (.iconst (1), 1) := by decide +kernel
theorem s166_114 {l0 : Nat} {l1 : Int} {l2 : Int} {l3 : Int} {l4 : Int} {l5 : Int} {l6 : AV} {l7 : AV} : WP m166 114 [.inr (.inl l0), .inl l1, .inl l2, .inl l3, .inl l4, .inl l5, l6, l7] [] σ Q = WP m166 115 [.inr (.inl l0), .inl l1, .inl l2, .inl l3, .inl l4, .inl l5, l6, l7] [.inl (1)] σ Q := w_iconst d166_114 (by decide)
theorem d166_115 : adec m166 115 = some (.ireturn, 1) := by decide +kernel
theorem s166_115 {l0 : Nat} {l1 : Int} {l2 : Int} {l3 : Int} {l4 : Int} {l5 : Int} {l6 : AV} {l7 : AV} {x0 : Int} : WP m166 115 [.inr (.inl l0), .inl l1, .inl l2, .inl l3, .inl l4, .inl l5, l6, l7] [.inl x0] σ Q = ((x0 = 0 ∨ x0 = 1) ∧ Q [.inl x0] σ) := w_rz d166_115 rfl
theorem d166_116 : adec m166 116 = some (.aload_n 0, 1) := by decide +kernel
theorem s166_116 {l0 : Nat} {l1 : Int} {l2 : Int} {l3 : Int} {l4 : Int} {l5 : AV} {l6 : AV} {l7 : AV} : WP m166 116 [.inr (.inl l0), .inl l1, .inl l2, .inl l3, .inl l4, l5, l6, l7] [] σ Q = WP m166 117 [.inr (.inl l0), .inl l1, .inl l2, .inl l3, .inl l4, l5, l6, l7] [.inr (.inl l0)] σ Q := w_ld d166_116 rfl
theorem d166_117 : adec m166 117 = some (.getfield 94, 3) := by decide +kernel
theorem s166_117 {l0 : Nat} {l1 : Int} {l2 : Int} {l3 : Int} {l4 : Int} {l5 : AV} {l6 : AV} {l7 : AV} : WP m166 117 [.inr (.inl l0), .inl l1, .inl l2, .inl l3, .inl l4, l5, l6, l7] [.inr (.inl 130)] σ Q = WP m166 120 [.inr (.inl l0), .inl l1, .inl l2, .inl l3, .inl l4, l5, l6, l7] [.inl (σ 130 11)] σ Q := (w_getI (c := 10) (n := 11) d166_117 (by decide +kernel) (by decide +kernel)).trans (g_and (isO_dec (by decide +kernel)))
theorem d166_120 : adec m166 120 = some (.istore 5, 2) := by decide +kernel
theorem s166_120 {l0 : Nat} {l1 : Int} {l2 : Int} {l3 : Int} {l4 : Int} {l5 : AV} {l6 : AV} {l7 : AV} {x0 : Int} : WP m166 120 [.inr (.inl l0), .inl l1, .inl l2, .inl l3, .inl l4, l5, l6, l7] [.inl x0] σ Q = WP m166 122 [.inr (.inl l0), .inl l1, .inl l2, .inl l3, .inl l4, .inl x0, l6, l7] [] σ Q := w_st1 (j := 5) d166_120 rfl (Nat.le_of_ble_eq_true rfl) rfl
theorem d166_122 : adec m166 122 = some (.iconst (0), 1) := by decide +kernel
theorem s166_122 {l0 : Nat} {l1 : Int} {l2 : Int} {l3 : Int} {l4 : Int} {l5 : Int} {l6 : AV} {l7 : AV} : WP m166 122 [.inr (.inl l0), .inl l1, .inl l2, .inl l3, .inl l4, .inl l5, l6, l7] [] σ Q = WP m166 123 [.inr (.inl l0), .inl l1, .inl l2, .inl l3, .inl l4, .inl l5, l6, l7] [.inl (0)] σ Q := w_iconst d166_122 (by decide)
theorem d166_123 : adec m166 123 = some (.istore 6, 2) := by decide +kernel
theorem s166_123 {l0 : Nat} {l1 : Int} {l2 : Int} {l3 : Int} {l4 : Int} {l5 : Int} {l6 : AV} {l7 : AV} {x0 : Int} : WP m166 123 [.inr (.inl l0), .inl l1, .inl l2, .inl l3, .inl l4, .inl l5, l6, l7] [.inl x0] σ Q = WP m166 125 [.inr (.inl l0), .inl l1, .inl l2, .inl l3, .inl l4, .inl l5, .inl x0, l7] [] σ Q := w_st1 (j := 6) d166_123 rfl (Nat.le_of_ble_eq_true rfl) rfl
theorem d166_125 : adec m166 125 = some (.iload 6, 2) := by decide +kernel
theorem s166_125 {l0 : Nat} {l1 : Int} {l2 : Int} {l3 : Int} {l4 : Int} {l5 : Int} {l6 : Int} {l7 : AV} : WP m166 125 [.inr (.inl l0), .inl l1, .inl l2, .inl l3, .inl l4, .inl l5, .inl l6, l7] [] σ Q = WP m166 127 [.inr (.inl l0), .inl l1, .inl l2, .inl l3, .inl l4, .inl l5, .inl l6, l7] [.inl l6] σ Q := w_ld d166_125 rfl
theorem d166_127 : adec m166 127 = some (.iload_n 2, 1) := by decide +kernel
theorem s166_127 {l0 : Nat} {l1 : Int} {l2 : Int} {l3 : Int} {l4 : Int} {l5 : Int} {l6 : Int} {l7 : AV} {x0 : Int} : WP m166 127 [.inr (.inl l0), .inl l1, .inl l2, .inl l3, .inl l4, .inl l5, .inl l6, l7] [.inl x0] σ Q = WP m166 128 [.inr (.inl l0), .inl l1, .inl l2, .inl l3, .inl l4, .inl l5, .inl l6, l7] [.inl l2, .inl x0] σ Q := w_ld d166_127 rfl
theorem d166_128 : adec m166 128 = some (.if_icmp .ge (23), 3) := by decide +kernel
theorem s166_128 {l0 : Nat} {l1 : Int} {l2 : Int} {l3 : Int} {l4 : Int} {l5 : Int} {l6 : Int} {l7 : AV} {x0 : Int} {x1 : Int} : WP m166 128 [.inr (.inl l0), .inl l1, .inl l2, .inl l3, .inl l4, .inl l5, .inl l6, l7] [.inl x1, .inl x0] σ Q = (if x1 ≤ x0 then WP m166 151 [.inr (.inl l0), .inl l1, .inl l2, .inl l3, .inl l4, .inl l5, .inl l6, l7] [] σ Q else WP m166 131 [.inr (.inl l0), .inl l1, .inl l2, .inl l3, .inl l4, .inl l5, .inl l6, l7] [] σ Q) := w_icge d166_128 (by decide)
theorem d166_131 : adec m166 131 = some (.aload_n 0, 1) := by decide +kernel
theorem s166_131 {l0 : Nat} {l1 : Int} {l2 : Int} {l3 : Int} {l4 : Int} {l5 : Int} {l6 : Int} {l7 : AV} : WP m166 131 [.inr (.inl l0), .inl l1, .inl l2, .inl l3, .inl l4, .inl l5, .inl l6, l7] [] σ Q = WP m166 132 [.inr (.inl l0), .inl l1, .inl l2, .inl l3, .inl l4, .inl l5, .inl l6, l7] [.inr (.inl l0)] σ Q := w_ld d166_131 rfl
theorem d166_132 : adec m166 132 = some (.iload 4, 2) := by decide +kernel
theorem s166_132 {l0 : Nat} {l1 : Int} {l2 : Int} {l3 : Int} {l4 : Int} {l5 : Int} {l6 : Int} {l7 : AV} {x0 : Nat} : WP m166 132 [.inr (.inl l0), .inl l1, .inl l2, .inl l3, .inl l4, .inl l5, .inl l6, l7] [.inr (.inl x0)] σ Q = WP m166 134 [.inr (.inl l0), .inl l1, .inl l2, .inl l3, .inl l4, .inl l5, .inl l6, l7] [.inl l4, .inr (.inl x0)] σ Q := w_ld d166_132 rfl
theorem d166_134 : adec m166 134 = some (.invokevirtual 172, 3) := by decide +kernel
theorem s166_134 {l0 : Nat} {l1 : Int} {l2 : Int} {l3 : Int} {l4 : Int} {l5 : Int} {l6 : Int} {l7 : AV} {x1 : Int} : WP m166 134 [.inr (.inl l0), .inl l1, .inl l2, .inl l3, .inl l4, .inl l5, .inl l6, l7] [.inl x1, .inr (.inl 130)] σ Q = CA m132 [.inr (.inl 130), .inl x1] σ (fun v σ2 => WP m166 137 [.inr (.inl l0), .inl l1, .inl l2, .inl l3, .inl l4, .inl l5, .inl l6, l7] (v ++ []) σ2 Q) := (w_cV (k := 132) d166_134 (by decide +kernel) m132_at rfl rfl ⟨Nat.le_of_ble_eq_true rfl, Nat.le_of_ble_eq_true rfl, Nat.le_of_ble_eq_true rfl⟩ (by decide)).trans (g_and (isO_dec (by decide +kernel)))
theorem d166_137 : adec m166 137 = some (.aload_n 0, 1) := by decide +kernel
theorem s166_137 {l0 : Nat} {l1 : Int} {l2 : Int} {l3 : Int} {l4 : Int} {l5 : Int} {l6 : Int} {l7 : AV} : WP m166 137 [.inr (.inl l0), .inl l1, .inl l2, .inl l3, .inl l4, .inl l5, .inl l6, l7] [] σ Q = WP m166 138 [.inr (.inl l0), .inl l1, .inl l2, .inl l3, .inl l4, .inl l5, .inl l6, l7] [.inr (.inl l0)] σ Q := w_ld d166_137 rfl
theorem d166_138 : adec m166 138 = some (.iload 4, 2) := by decide +kernel
theorem s166_138 {l0 : Nat} {l1 : Int} {l2 : Int} {l3 : Int} {l4 : Int} {l5 : Int} {l6 : Int} {l7 : AV} {x0 : Nat} : WP m166 138 [.inr (.inl l0), .inl l1, .inl l2, .inl l3, .inl l4, .inl l5, .inl l6, l7] [.inr (.inl x0)] σ Q = WP m166 140 [.inr (.inl l0), .inl l1, .inl l2, .inl l3, .inl l4, .inl l5, .inl l6, l7] [.inl l4, .inr (.inl x0)] σ Q := w_ld d166_138 rfl
theorem d166_140 : adec m166 140 = some (.invokevirtual 165, 3) := by decide +kernel
theorem s166_140 {l0 : Nat} {l1 : Int} {l2 : Int} {l3 : Int} {l4 : Int} {l5 : Int} {l6 : Int} {l7 : AV} {x1 : Int} : WP m166 140 [.inr (.inl l0), .inl l1, .inl l2, .inl l3, .inl l4, .inl l5, .inl l6, l7] [.inl x1, .inr (.inl 130)] σ Q = CA m149 [.inr (.inl 130), .inl x1] σ (fun v σ2 => WP m166 143 [.inr (.inl l0), .inl l1, .inl l2, .inl l3, .inl l4, .inl l5, .inl l6, l7] (v ++ []) σ2 Q) := (w_cV (k := 149) d166_140 (by decide +kernel) m149_at rfl rfl ⟨Nat.le_of_ble_eq_true rfl, Nat.le_of_ble_eq_true rfl, Nat.le_of_ble_eq_true rfl⟩ (by decide)).trans (g_and (isO_dec (by decide +kernel)))
theorem d166_143 : adec m166 143 = some (.istore 4, 2) := by decide +kernel
theorem s166_143 {l0 : Nat} {l1 : Int} {l2 : Int} {l3 : Int} {l4 : Int} {l5 : Int} {l6 : Int} {l7 : AV} {x0 : Int} : WP m166 143 [.inr (.inl l0), .inl l1, .inl l2, .inl l3, .inl l4, .inl l5, .inl l6, l7] [.inl x0] σ Q = WP m166 145 [.inr (.inl l0), .inl l1, .inl l2, .inl l3, .inl x0, .inl l5, .inl l6, l7] [] σ Q := w_st1 (j := 4) d166_143 rfl (Nat.le_of_ble_eq_true rfl) rfl
theorem d166_145 : adec m166 145 = some (.iinc 6 (1), 3) := by decide +kernel
theorem s166_145 {l0 : Nat} {l1 : Int} {l2 : Int} {l3 : Int} {l4 : Int} {l5 : Int} {l6 : Int} {l7 : AV} : WP m166 145 [.inr (.inl l0), .inl l1, .inl l2, .inl l3, .inl l4, .inl l5, .inl l6, l7] [] σ Q = (inI (l6 + (1)) ∧ WP m166 148 [.inr (.inl l0), .inl l1, .inl l2, .inl l3, .inl l4, .inl l5, .inl (l6 + (1)), l7] [] σ Q) := w_iinc d166_145 rfl rfl
theorem d166_148 : adec m166 148 = some (.goto (-23), 3) := by decide +kernel
theorem s166_148 {l0 : Nat} {l1 : Int} {l2 : Int} {l3 : Int} {l4 : Int} {l5 : Int} {l6 : Int} {l7 : AV} : WP m166 148 [.inr (.inl l0), .inl l1, .inl l2, .inl l3, .inl l4, .inl l5, .inl l6, l7] [] σ Q = WP m166 125 [.inr (.inl l0), .inl l1, .inl l2, .inl l3, .inl l4, .inl l5, .inl l6, l7] [] σ Q := w_goto d166_148 (by decide)
theorem d166_151 : adec m166 151 = some (.iconst (0), 1) := by decide +kernel
theorem s166_151 {l0 : Nat} {l1 : Int} {l2 : Int} {l3 : Int} {l4 : Int} {l5 : Int} {l6 : Int} {l7 : AV} : WP m166 151 [.inr (.inl l0), .inl l1, .inl l2, .inl l3, .inl l4, .inl l5, .inl l6, l7] [] σ Q = WP m166 152 [.inr (.inl l0), .inl l1, .inl l2, .inl l3, .inl l4, .inl l5, .inl l6, l7] [.inl (0)] σ Q := w_iconst d166_151 (by decide)
theorem d166_152 : adec m166 152 = some (.istore 6, 2) := by decide +kernel
theorem s166_152 {l0 : Nat} {l1 : Int} {l2 : Int} {l3 : Int} {l4 : Int} {l5 : Int} {l6 : Int} {l7 : AV} {x0 : Int} : WP m166 152 [.inr (.inl l0), .inl l1, .inl l2, .inl l3, .inl l4, .inl l5, .inl l6, l7] [.inl x0] σ Q = WP m166 154 [.inr (.inl l0), .inl l1, .inl l2, .inl l3, .inl l4, .inl l5, .inl x0, l7] [] σ Q := w_st1 (j := 6) d166_152 rfl (Nat.le_of_ble_eq_true rfl) rfl
theorem d166_154 : adec m166 154 = some (.iload 6, 2) := by decide +kernel
theorem s166_154 {l0 : Nat} {l1 : Int} {l2 : Int} {l3 : Int} {l4 : Int} {l5 : Int} {l6 : Int} {l7 : AV} : WP m166 154 [.inr (.inl l0), .inl l1, .inl l2, .inl l3, .inl l4, .inl l5, .inl l6, l7] [] σ Q = WP m166 156 [.inr (.inl l0), .inl l1, .inl l2, .inl l3, .inl l4, .inl l5, .inl l6, l7] [.inl l6] σ Q := w_ld d166_154 rfl
theorem d166_156 : adec m166 156 = some (.iload_n 2, 1) := by decide +kernel
theorem s166_156 {l0 : Nat} {l1 : Int} {l2 : Int} {l3 : Int} {l4 : Int} {l5 : Int} {l6 : Int} {l7 : AV} {x0 : Int} : WP m166 156 [.inr (.inl l0), .inl l1, .inl l2, .inl l3, .inl l4, .inl l5, .inl l6, l7] [.inl x0] σ Q = WP m166 157 [.inr (.inl l0), .inl l1, .inl l2, .inl l3, .inl l4, .inl l5, .inl l6, l7] [.inl l2, .inl x0] σ Q := w_ld d166_156 rfl
theorem d166_157 : adec m166 157 = some (.iconst (2), 1) := by decide +kernel
theorem s166_157 {l0 : Nat} {l1 : Int} {l2 : Int} {l3 : Int} {l4 : Int} {l5 : Int} {l6 : Int} {l7 : AV} {x0 : Int} {x1 : Int} : WP m166 157 [.inr (.inl l0), .inl l1, .inl l2, .inl l3, .inl l4, .inl l5, .inl l6, l7] [.inl x1, .inl x0] σ Q = WP m166 158 [.inr (.inl l0), .inl l1, .inl l2, .inl l3, .inl l4, .inl l5, .inl l6, l7] [.inl (2), .inl x1, .inl x0] σ Q := w_iconst d166_157 (by decide)
theorem d166_158 : adec m166 158 = some (.idiv, 1) := by decide +kernel
theorem s166_158 {l0 : Nat} {l1 : Int} {l2 : Int} {l3 : Int} {l4 : Int} {l5 : Int} {l6 : Int} {l7 : AV} {x0 : Int} {x1 : Int} {x2 : Int} : WP m166 158 [.inr (.inl l0), .inl l1, .inl l2, .inl l3, .inl l4, .inl l5, .inl l6, l7] [.inl x2, .inl x1, .inl x0] σ Q = ((0 ≤ x1 ∧ 0 < x2 ∧ inI (x1 / x2)) ∧ WP m166 159 [.inr (.inl l0), .inl l1, .inl l2, .inl l3, .inl l4, .inl l5, .inl l6, l7] [.inl (x1 / x2), .inl x0] σ Q) := w_idiv d166_158
theorem d166_159 : adec m166 159 = some (.if_icmp .ge (61), 3) := by decide +kernel
theorem s166_159 {l0 : Nat} {l1 : Int} {l2 : Int} {l3 : Int} {l4 : Int} {l5 : Int} {l6 : Int} {l7 : AV} {x0 : Int} {x1 : Int} : WP m166 159 [.inr (.inl l0), .inl l1, .inl l2, .inl l3, .inl l4, .inl l5, .inl l6, l7] [.inl x1, .inl x0] σ Q = (if x1 ≤ x0 then WP m166 220 [.inr (.inl l0), .inl l1, .inl l2, .inl l3, .inl l4, .inl l5, .inl l6, l7] [] σ Q else WP m166 162 [.inr (.inl l0), .inl l1, .inl l2, .inl l3, .inl l4, .inl l5, .inl l6, l7] [] σ Q) := w_icge d166_159 (by decide)
theorem d166_162 : adec m166 162 = some (.aload_n 0, 1) := by decide +kernel
theorem s166_162 {l0 : Nat} {l1 : Int} {l2 : Int} {l3 : Int} {l4 : Int} {l5 : Int} {l6 : Int} {l7 : AV} : WP m166 162 [.inr (.inl l0), .inl l1, .inl l2, .inl l3, .inl l4, .inl l5, .inl l6, l7] [] σ Q = WP m166 163 [.inr (.inl l0), .inl l1, .inl l2, .inl l3, .inl l4, .inl l5, .inl l6, l7] [.inr (.inl l0)] σ Q := w_ld d166_162 rfl
theorem d166_163 : adec m166 163 = some (.getfield 30, 3) := by decide +kernel
theorem s166_163 {l0 : Nat} {l1 : Int} {l2 : Int} {l3 : Int} {l4 : Int} {l5 : Int} {l6 : Int} {l7 : AV} : WP m166 163 [.inr (.inl l0), .inl l1, .inl l2, .inl l3, .inl l4, .inl l5, .inl l6, l7] [.inr (.inl 130)] σ Q = WP m166 166 [.inr (.inl l0), .inl l1, .inl l2, .inl l3, .inl l4, .inl l5, .inl l6, l7] [.inr (.inl 136)] σ Q := (w_getR (c := 10) (n := 10) d166_163 (by decide +kernel) (by decide +kernel)).trans (g_and ⟨isO_dec (by decide +kernel), by decide +kernel⟩)
theorem d166_166 : adec m166 166 = some (.iload 5, 2) := by decide +kernel
theorem s166_166 {l0 : Nat} {l1 : Int} {l2 : Int} {l3 : Int} {l4 : Int} {l5 : Int} {l6 : Int} {l7 : AV} {x0 : Nat} : WP m166 166 [.inr (.inl l0), .inl l1, .inl l2, .inl l3, .inl l4, .inl l5, .inl l6, l7] [.inr (.inl x0)] σ Q = WP m166 168 [.inr (.inl l0), .inl l1, .inl l2, .inl l3, .inl l4, .inl l5, .inl l6, l7] [.inl l5, .inr (.inl x0)] σ Q := w_ld d166_166 rfl
theorem d166_168 : adec m166 168 = some (.iload 6, 2) := by decide +kernel
theorem s166_168 {l0 : Nat} {l1 : Int} {l2 : Int} {l3 : Int} {l4 : Int} {l5 : Int} {l6 : Int} {l7 : AV} {x0 : Nat} {x1 : Int} : WP m166 168 [.inr (.inl l0), .inl l1, .inl l2, .inl l3, .inl l4, .inl l5, .inl l6, l7] [.inl x1, .inr (.inl x0)] σ Q = WP m166 170 [.inr (.inl l0), .inl l1, .inl l2, .inl l3, .inl l4, .inl l5, .inl l6, l7] [.inl l6, .inl x1, .inr (.inl x0)] σ Q := w_ld d166_168 rfl
theorem d166_170 : adec m166 170 = some (.iadd, 1) := by decide +kernel
theorem s166_170 {l0 : Nat} {l1 : Int} {l2 : Int} {l3 : Int} {l4 : Int} {l5 : Int} {l6 : Int} {l7 : AV} {x0 : Nat} {x1 : Int} {x2 : Int} : WP m166 170 [.inr (.inl l0), .inl l1, .inl l2, .inl l3, .inl l4, .inl l5, .inl l6, l7] [.inl x2, .inl x1, .inr (.inl x0)] σ Q = (inI (x1 + x2) ∧ WP m166 171 [.inr (.inl l0), .inl l1, .inl l2, .inl l3, .inl l4, .inl l5, .inl l6, l7] [.inl (x1 + x2), .inr (.inl x0)] σ Q) := w_iadd d166_170
theorem d166_171 : adec m166 171 = some (.iaload, 1) := by decide +kernel
theorem s166_171 {l0 : Nat} {l1 : Int} {l2 : Int} {l3 : Int} {l4 : Int} {l5 : Int} {l6 : Int} {l7 : AV} {x0 : Nat} {x1 : Int} : WP m166 171 [.inr (.inl l0), .inl l1, .inl l2, .inl l3, .inl l4, .inl l5, .inl l6, l7] [.inl x1, .inr (.inl x0)] σ Q = ((kdS x0 = 20 ∧ 0 ≤ x1 ∧ x1 < ln x0) ∧ WP m166 172 [.inr (.inl l0), .inl l1, .inl l2, .inl l3, .inl l4, .inl l5, .inl l6, l7] [.inl (σ x0 x1.toNat)] σ Q) := w_iald d166_171
theorem d166_172 : adec m166 172 = some (.istore 7, 2) := by decide +kernel
theorem s166_172 {l0 : Nat} {l1 : Int} {l2 : Int} {l3 : Int} {l4 : Int} {l5 : Int} {l6 : Int} {l7 : AV} {x0 : Int} : WP m166 172 [.inr (.inl l0), .inl l1, .inl l2, .inl l3, .inl l4, .inl l5, .inl l6, l7] [.inl x0] σ Q = WP m166 174 [.inr (.inl l0), .inl l1, .inl l2, .inl l3, .inl l4, .inl l5, .inl l6, .inl x0] [] σ Q := w_st1 (j := 7) d166_172 rfl (Nat.le_of_ble_eq_true rfl) rfl
theorem d166_174 : adec m166 174 = some (.aload_n 0, 1) := by decide +kernel
theorem s166_174 {l0 : Nat} {l1 : Int} {l2 : Int} {l3 : Int} {l4 : Int} {l5 : Int} {l6 : Int} {l7 : Int} : WP m166 174 [.inr (.inl l0), .inl l1, .inl l2, .inl l3, .inl l4, .inl l5, .inl l6, .inl l7] [] σ Q = WP m166 175 [.inr (.inl l0), .inl l1, .inl l2, .inl l3, .inl l4, .inl l5, .inl l6, .inl l7] [.inr (.inl l0)] σ Q := w_ld d166_174 rfl
theorem d166_175 : adec m166 175 = some (.getfield 30, 3) := by decide +kernel
theorem s166_175 {l0 : Nat} {l1 : Int} {l2 : Int} {l3 : Int} {l4 : Int} {l5 : Int} {l6 : Int} {l7 : Int} : WP m166 175 [.inr (.inl l0), .inl l1, .inl l2, .inl l3, .inl l4, .inl l5, .inl l6, .inl l7] [.inr (.inl 130)] σ Q = WP m166 178 [.inr (.inl l0), .inl l1, .inl l2, .inl l3, .inl l4, .inl l5, .inl l6, .inl l7] [.inr (.inl 136)] σ Q := (w_getR (c := 10) (n := 10) d166_175 (by decide +kernel) (by decide +kernel)).trans (g_and ⟨isO_dec (by decide +kernel), by decide +kernel⟩)
theorem d166_178 : adec m166 178 = some (.iload 5, 2) := by decide +kernel
theorem s166_178 {l0 : Nat} {l1 : Int} {l2 : Int} {l3 : Int} {l4 : Int} {l5 : Int} {l6 : Int} {l7 : Int} {x0 : Nat} : WP m166 178 [.inr (.inl l0), .inl l1, .inl l2, .inl l3, .inl l4, .inl l5, .inl l6, .inl l7] [.inr (.inl x0)] σ Q = WP m166 180 [.inr (.inl l0), .inl l1, .inl l2, .inl l3, .inl l4, .inl l5, .inl l6, .inl l7] [.inl l5, .inr (.inl x0)] σ Q := w_ld d166_178 rfl
theorem d166_180 : adec m166 180 = some (.iload 6, 2) := by decide +kernel
theorem s166_180 {l0 : Nat} {l1 : Int} {l2 : Int} {l3 : Int} {l4 : Int} {l5 : Int} {l6 : Int} {l7 : Int} {x0 : Nat} {x1 : Int} : WP m166 180 [.inr (.inl l0), .inl l1, .inl l2, .inl l3, .inl l4, .inl l5, .inl l6, .inl l7] [.inl x1, .inr (.inl x0)] σ Q = WP m166 182 [.inr (.inl l0), .inl l1, .inl l2, .inl l3, .inl l4, .inl l5, .inl l6, .inl l7] [.inl l6, .inl x1, .inr (.inl x0)] σ Q := w_ld d166_180 rfl
theorem d166_182 : adec m166 182 = some (.iadd, 1) := by decide +kernel
theorem s166_182 {l0 : Nat} {l1 : Int} {l2 : Int} {l3 : Int} {l4 : Int} {l5 : Int} {l6 : Int} {l7 : Int} {x0 : Nat} {x1 : Int} {x2 : Int} : WP m166 182 [.inr (.inl l0), .inl l1, .inl l2, .inl l3, .inl l4, .inl l5, .inl l6, .inl l7] [.inl x2, .inl x1, .inr (.inl x0)] σ Q = (inI (x1 + x2) ∧ WP m166 183 [.inr (.inl l0), .inl l1, .inl l2, .inl l3, .inl l4, .inl l5, .inl l6, .inl l7] [.inl (x1 + x2), .inr (.inl x0)] σ Q) := w_iadd d166_182
theorem d166_183 : adec m166 183 = some (.aload_n 0, 1) := by decide +kernel
theorem s166_183 {l0 : Nat} {l1 : Int} {l2 : Int} {l3 : Int} {l4 : Int} {l5 : Int} {l6 : Int} {l7 : Int} {x0 : Nat} {x1 : Int} : WP m166 183 [.inr (.inl l0), .inl l1, .inl l2, .inl l3, .inl l4, .inl l5, .inl l6, .inl l7] [.inl x1, .inr (.inl x0)] σ Q = WP m166 184 [.inr (.inl l0), .inl l1, .inl l2, .inl l3, .inl l4, .inl l5, .inl l6, .inl l7] [.inr (.inl l0), .inl x1, .inr (.inl x0)] σ Q := w_ld d166_183 rfl
theorem d166_184 : adec m166 184 = some (.getfield 30, 3) := by decide +kernel
theorem s166_184 {l0 : Nat} {l1 : Int} {l2 : Int} {l3 : Int} {l4 : Int} {l5 : Int} {l6 : Int} {l7 : Int} {x0 : Nat} {x1 : Int} : WP m166 184 [.inr (.inl l0), .inl l1, .inl l2, .inl l3, .inl l4, .inl l5, .inl l6, .inl l7] [.inr (.inl 130), .inl x1, .inr (.inl x0)] σ Q = WP m166 187 [.inr (.inl l0), .inl l1, .inl l2, .inl l3, .inl l4, .inl l5, .inl l6, .inl l7] [.inr (.inl 136), .inl x1, .inr (.inl x0)] σ Q := (w_getR (c := 10) (n := 10) d166_184 (by decide +kernel) (by decide +kernel)).trans (g_and ⟨isO_dec (by decide +kernel), by decide +kernel⟩)
theorem d166_187 : adec m166 187 = some (.aload_n 0, 1) := by decide +kernel
theorem s166_187 {l0 : Nat} {l1 : Int} {l2 : Int} {l3 : Int} {l4 : Int} {l5 : Int} {l6 : Int} {l7 : Int} {x0 : Nat} {x1 : Int} {x2 : Nat} : WP m166 187 [.inr (.inl l0), .inl l1, .inl l2, .inl l3, .inl l4, .inl l5, .inl l6, .inl l7] [.inr (.inl x2), .inl x1, .inr (.inl x0)] σ Q = WP m166 188 [.inr (.inl l0), .inl l1, .inl l2, .inl l3, .inl l4, .inl l5, .inl l6, .inl l7] [.inr (.inl l0), .inr (.inl x2), .inl x1, .inr (.inl x0)] σ Q := w_ld d166_187 rfl
theorem d166_188 : adec m166 188 = some (.getfield 94, 3) := by decide +kernel
theorem s166_188 {l0 : Nat} {l1 : Int} {l2 : Int} {l3 : Int} {l4 : Int} {l5 : Int} {l6 : Int} {l7 : Int} {x0 : Nat} {x1 : Int} {x2 : Nat} : WP m166 188 [.inr (.inl l0), .inl l1, .inl l2, .inl l3, .inl l4, .inl l5, .inl l6, .inl l7] [.inr (.inl 130), .inr (.inl x2), .inl x1, .inr (.inl x0)] σ Q = WP m166 191 [.inr (.inl l0), .inl l1, .inl l2, .inl l3, .inl l4, .inl l5, .inl l6, .inl l7] [.inl (σ 130 11), .inr (.inl x2), .inl x1, .inr (.inl x0)] σ Q := (w_getI (c := 10) (n := 11) d166_188 (by decide +kernel) (by decide +kernel)).trans (g_and (isO_dec (by decide +kernel)))
theorem d166_191 : adec m166 191 = some (.iconst (1), 1) := by decide +kernel
theorem s166_191 {l0 : Nat} {l1 : Int} {l2 : Int} {l3 : Int} {l4 : Int} {l5 : Int} {l6 : Int} {l7 : Int} {x0 : Nat} {x1 : Int} {x2 : Nat} {x3 : Int} : WP m166 191 [.inr (.inl l0), .inl l1, .inl l2, .inl l3, .inl l4, .inl l5, .inl l6, .inl l7] [.inl x3, .inr (.inl x2), .inl x1, .inr (.inl x0)] σ Q = WP m166 192 [.inr (.inl l0), .inl l1, .inl l2, .inl l3, .inl l4, .inl l5, .inl l6, .inl l7] [.inl (1), .inl x3, .inr (.inl x2), .inl x1, .inr (.inl x0)] σ Q := w_iconst d166_191 (by decide)
theorem d166_192 : adec m166 192 = some (.isub, 1) := by decide +kernel
theorem s166_192 {l0 : Nat} {l1 : Int} {l2 : Int} {l3 : Int} {l4 : Int} {l5 : Int} {l6 : Int} {l7 : Int} {x0 : Nat} {x1 : Int} {x2 : Nat} {x3 : Int} {x4 : Int} : WP m166 192 [.inr (.inl l0), .inl l1, .inl l2, .inl l3, .inl l4, .inl l5, .inl l6, .inl l7] [.inl x4, .inl x3, .inr (.inl x2), .inl x1, .inr (.inl x0)] σ Q = (inI (x3 - x4) ∧ WP m166 193 [.inr (.inl l0), .inl l1, .inl l2, .inl l3, .inl l4, .inl l5, .inl l6, .inl l7] [.inl (x3 - x4), .inr (.inl x2), .inl x1, .inr (.inl x0)] σ Q) := w_isub d166_192
theorem d166_193 : adec m166 193 = some (.iload 6, 2) := by decide +kernel
theorem s166_193 {l0 : Nat} {l1 : Int} {l2 : Int} {l3 : Int} {l4 : Int} {l5 : Int} {l6 : Int} {l7 : Int} {x0 : Nat} {x1 : Int} {x2 : Nat} {x3 : Int} : WP m166 193 [.inr (.inl l0), .inl l1, .inl l2, .inl l3, .inl l4, .inl l5, .inl l6, .inl l7] [.inl x3, .inr (.inl x2), .inl x1, .inr (.inl x0)] σ Q = WP m166 195 [.inr (.inl l0), .inl l1, .inl l2, .inl l3, .inl l4, .inl l5, .inl l6, .inl l7] [.inl l6, .inl x3, .inr (.inl x2), .inl x1, .inr (.inl x0)] σ Q := w_ld d166_193 rfl
theorem d166_195 : adec m166 195 = some (.isub, 1) := by decide +kernel
theorem s166_195 {l0 : Nat} {l1 : Int} {l2 : Int} {l3 : Int} {l4 : Int} {l5 : Int} {l6 : Int} {l7 : Int} {x0 : Nat} {x1 : Int} {x2 : Nat} {x3 : Int} {x4 : Int} : WP m166 195 [.inr (.inl l0), .inl l1, .inl l2, .inl l3, .inl l4, .inl l5, .inl l6, .inl l7] [.inl x4, .inl x3, .inr (.inl x2), .inl x1, .inr (.inl x0)] σ Q = (inI (x3 - x4) ∧ WP m166 196 [.inr (.inl l0), .inl l1, .inl l2, .inl l3, .inl l4, .inl l5, .inl l6, .inl l7] [.inl (x3 - x4), .inr (.inl x2), .inl x1, .inr (.inl x0)] σ Q) := w_isub d166_195
theorem d166_196 : adec m166 196 = some (.iaload, 1) := by decide +kernel
theorem s166_196 {l0 : Nat} {l1 : Int} {l2 : Int} {l3 : Int} {l4 : Int} {l5 : Int} {l6 : Int} {l7 : Int} {x0 : Nat} {x1 : Int} {x2 : Nat} {x3 : Int} : WP m166 196 [.inr (.inl l0), .inl l1, .inl l2, .inl l3, .inl l4, .inl l5, .inl l6, .inl l7] [.inl x3, .inr (.inl x2), .inl x1, .inr (.inl x0)] σ Q = ((kdS x2 = 20 ∧ 0 ≤ x3 ∧ x3 < ln x2) ∧ WP m166 197 [.inr (.inl l0), .inl l1, .inl l2, .inl l3, .inl l4, .inl l5, .inl l6, .inl l7] [.inl (σ x2 x3.toNat), .inl x1, .inr (.inl x0)] σ Q) := w_iald d166_196
theorem d166_197 : adec m166 197 = some (.iastore, 1) := by decide +kernel
theorem s166_197 {l0 : Nat} {l1 : Int} {l2 : Int} {l3 : Int} {l4 : Int} {l5 : Int} {l6 : Int} {l7 : Int} {x0 : Nat} {x1 : Int} {x2 : Int} : WP m166 197 [.inr (.inl l0), .inl l1, .inl l2, .inl l3, .inl l4, .inl l5, .inl l6, .inl l7] [.inl x2, .inl x1, .inr (.inl x0)] σ Q = ((kdS x0 = 20 ∧ 0 ≤ x1 ∧ x1 < ln x0) ∧ WP m166 198 [.inr (.inl l0), .inl l1, .inl l2, .inl l3, .inl l4, .inl l5, .inl l6, .inl l7] [] (aup σ x0 x1.toNat x2) Q) := w_iast d166_197
theorem d166_198 : adec m166 198 = some (.aload_n 0, 1) := by decide +kernel
theorem s166_198 {l0 : Nat} {l1 : Int} {l2 : Int} {l3 : Int} {l4 : Int} {l5 : Int} {l6 : Int} {l7 : Int} : WP m166 198 [.inr (.inl l0), .inl l1, .inl l2, .inl l3, .inl l4, .inl l5, .inl l6, .inl l7] [] σ Q = WP m166 199 [.inr (.inl l0), .inl l1, .inl l2, .inl l3, .inl l4, .inl l5, .inl l6, .inl l7] [.inr (.inl l0)] σ Q := w_ld d166_198 rfl
theorem d166_199 : adec m166 199 = some (.getfield 30, 3) := by decide +kernel
theorem s166_199 {l0 : Nat} {l1 : Int} {l2 : Int} {l3 : Int} {l4 : Int} {l5 : Int} {l6 : Int} {l7 : Int} : WP m166 199 [.inr (.inl l0), .inl l1, .inl l2, .inl l3, .inl l4, .inl l5, .inl l6, .inl l7] [.inr (.inl 130)] σ Q = WP m166 202 [.inr (.inl l0), .inl l1, .inl l2, .inl l3, .inl l4, .inl l5, .inl l6, .inl l7] [.inr (.inl 136)] σ Q := (w_getR (c := 10) (n := 10) d166_199 (by decide +kernel) (by decide +kernel)).trans (g_and ⟨isO_dec (by decide +kernel), by decide +kernel⟩)
theorem d166_202 : adec m166 202 = some (.aload_n 0, 1) := by decide +kernel
theorem s166_202 {l0 : Nat} {l1 : Int} {l2 : Int} {l3 : Int} {l4 : Int} {l5 : Int} {l6 : Int} {l7 : Int} {x0 : Nat} : WP m166 202 [.inr (.inl l0), .inl l1, .inl l2, .inl l3, .inl l4, .inl l5, .inl l6, .inl l7] [.inr (.inl x0)] σ Q = WP m166 203 [.inr (.inl l0), .inl l1, .inl l2, .inl l3, .inl l4, .inl l5, .inl l6, .inl l7] [.inr (.inl l0), .inr (.inl x0)] σ Q := w_ld d166_202 rfl
theorem d166_203 : adec m166 203 = some (.getfield 94, 3) := by decide +kernel
theorem s166_203 {l0 : Nat} {l1 : Int} {l2 : Int} {l3 : Int} {l4 : Int} {l5 : Int} {l6 : Int} {l7 : Int} {x0 : Nat} : WP m166 203 [.inr (.inl l0), .inl l1, .inl l2, .inl l3, .inl l4, .inl l5, .inl l6, .inl l7] [.inr (.inl 130), .inr (.inl x0)] σ Q = WP m166 206 [.inr (.inl l0), .inl l1, .inl l2, .inl l3, .inl l4, .inl l5, .inl l6, .inl l7] [.inl (σ 130 11), .inr (.inl x0)] σ Q := (w_getI (c := 10) (n := 11) d166_203 (by decide +kernel) (by decide +kernel)).trans (g_and (isO_dec (by decide +kernel)))
theorem d166_206 : adec m166 206 = some (.iconst (1), 1) := by decide +kernel
theorem s166_206 {l0 : Nat} {l1 : Int} {l2 : Int} {l3 : Int} {l4 : Int} {l5 : Int} {l6 : Int} {l7 : Int} {x0 : Nat} {x1 : Int} : WP m166 206 [.inr (.inl l0), .inl l1, .inl l2, .inl l3, .inl l4, .inl l5, .inl l6, .inl l7] [.inl x1, .inr (.inl x0)] σ Q = WP m166 207 [.inr (.inl l0), .inl l1, .inl l2, .inl l3, .inl l4, .inl l5, .inl l6, .inl l7] [.inl (1), .inl x1, .inr (.inl x0)] σ Q := w_iconst d166_206 (by decide)
theorem d166_207 : adec m166 207 = some (.isub, 1) := by decide +kernel
theorem s166_207 {l0 : Nat} {l1 : Int} {l2 : Int} {l3 : Int} {l4 : Int} {l5 : Int} {l6 : Int} {l7 : Int} {x0 : Nat} {x1 : Int} {x2 : Int} : WP m166 207 [.inr (.inl l0), .inl l1, .inl l2, .inl l3, .inl l4, .inl l5, .inl l6, .inl l7] [.inl x2, .inl x1, .inr (.inl x0)] σ Q = (inI (x1 - x2) ∧ WP m166 208 [.inr (.inl l0), .inl l1, .inl l2, .inl l3, .inl l4, .inl l5, .inl l6, .inl l7] [.inl (x1 - x2), .inr (.inl x0)] σ Q) := w_isub d166_207
theorem d166_208 : adec m166 208 = some (.iload 6, 2) := by decide +kernel
theorem s166_208 {l0 : Nat} {l1 : Int} {l2 : Int} {l3 : Int} {l4 : Int} {l5 : Int} {l6 : Int} {l7 : Int} {x0 : Nat} {x1 : Int} : WP m166 208 [.inr (.inl l0), .inl l1, .inl l2, .inl l3, .inl l4, .inl l5, .inl l6, .inl l7] [.inl x1, .inr (.inl x0)] σ Q = WP m166 210 [.inr (.inl l0), .inl l1, .inl l2, .inl l3, .inl l4, .inl l5, .inl l6, .inl l7] [.inl l6, .inl x1, .inr (.inl x0)] σ Q := w_ld d166_208 rfl
theorem d166_210 : adec m166 210 = some (.isub, 1) := by decide +kernel
theorem s166_210 {l0 : Nat} {l1 : Int} {l2 : Int} {l3 : Int} {l4 : Int} {l5 : Int} {l6 : Int} {l7 : Int} {x0 : Nat} {x1 : Int} {x2 : Int} : WP m166 210 [.inr (.inl l0), .inl l1, .inl l2, .inl l3, .inl l4, .inl l5, .inl l6, .inl l7] [.inl x2, .inl x1, .inr (.inl x0)] σ Q = (inI (x1 - x2) ∧ WP m166 211 [.inr (.inl l0), .inl l1, .inl l2, .inl l3, .inl l4, .inl l5, .inl l6, .inl l7] [.inl (x1 - x2), .inr (.inl x0)] σ Q) := w_isub d166_210
theorem d166_211 : adec m166 211 = some (.iload 7, 2) := by decide +kernel
theorem s166_211 {l0 : Nat} {l1 : Int} {l2 : Int} {l3 : Int} {l4 : Int} {l5 : Int} {l6 : Int} {l7 : Int} {x0 : Nat} {x1 : Int} : WP m166 211 [.inr (.inl l0), .inl l1, .inl l2, .inl l3, .inl l4, .inl l5, .inl l6, .inl l7] [.inl x1, .inr (.inl x0)] σ Q = WP m166 213 [.inr (.inl l0), .inl l1, .inl l2, .inl l3, .inl l4, .inl l5, .inl l6, .inl l7] [.inl l7, .inl x1, .inr (.inl x0)] σ Q := w_ld d166_211 rfl
theorem d166_213 : adec m166 213 = some (.iastore, 1) := by decide +kernel
theorem s166_213 {l0 : Nat} {l1 : Int} {l2 : Int} {l3 : Int} {l4 : Int} {l5 : Int} {l6 : Int} {l7 : Int} {x0 : Nat} {x1 : Int} {x2 : Int} : WP m166 213 [.inr (.inl l0), .inl l1, .inl l2, .inl l3, .inl l4, .inl l5, .inl l6, .inl l7] [.inl x2, .inl x1, .inr (.inl x0)] σ Q = ((kdS x0 = 20 ∧ 0 ≤ x1 ∧ x1 < ln x0) ∧ WP m166 214 [.inr (.inl l0), .inl l1, .inl l2, .inl l3, .inl l4, .inl l5, .inl l6, .inl l7] [] (aup σ x0 x1.toNat x2) Q) := w_iast d166_213
theorem d166_214 : adec m166 214 = some (.iinc 6 (1), 3) := by decide +kernel
theorem s166_214 {l0 : Nat} {l1 : Int} {l2 : Int} {l3 : Int} {l4 : Int} {l5 : Int} {l6 : Int} {l7 : Int} : WP m166 214 [.inr (.inl l0), .inl l1, .inl l2, .inl l3, .inl l4, .inl l5, .inl l6, .inl l7] [] σ Q = (inI (l6 + (1)) ∧ WP m166 217 [.inr (.inl l0), .inl l1, .inl l2, .inl l3, .inl l4, .inl l5, .inl (l6 + (1)), .inl l7] [] σ Q) := w_iinc d166_214 rfl rfl
theorem d166_217 : adec m166 217 = some (.goto (-63), 3) := by decide +kernel
theorem s166_217 {l0 : Nat} {l1 : Int} {l2 : Int} {l3 : Int} {l4 : Int} {l5 : Int} {l6 : Int} {l7 : Int} : WP m166 217 [.inr (.inl l0), .inl l1, .inl l2, .inl l3, .inl l4, .inl l5, .inl l6, .inl l7] [] σ Q = WP m166 154 [.inr (.inl l0), .inl l1, .inl l2, .inl l3, .inl l4, .inl l5, .inl l6, .inl l7] [] σ Q := w_goto d166_217 (by decide)
theorem d166_220 : adec m166 220 = some (.goto (-210), 3) := by decide +kernel
theorem s166_220 {l0 : Nat} {l1 : Int} {l2 : Int} {l3 : Int} {l4 : Int} {l5 : Int} {l6 : Int} {l7 : AV} : WP m166 220 [.inr (.inl l0), .inl l1, .inl l2, .inl l3, .inl l4, .inl l5, .inl l6, l7] [] σ Q = WP m166 10 [.inr (.inl l0), .inl l1, .inl l2, .inl l3, .inl l4, .inl l5, .inl l6, l7] [] σ Q := w_goto d166_220 (by decide)
theorem d166_223 : adec m166 223 = some (.iconst (0), 1) := by decide +kernel
theorem s166_223 {l0 : Nat} {l1 : AV} {l2 : AV} {l3 : AV} {l4 : AV} {l5 : AV} {l6 : AV} {l7 : AV} : WP m166 223 [.inr (.inl l0), l1, l2, l3, l4, l5, l6, l7] [] σ Q = WP m166 224 [.inr (.inl l0), l1, l2, l3, l4, l5, l6, l7] [.inl (0)] σ Q := w_iconst d166_223 (by decide)
theorem d166_224 : adec m166 224 = some (.ireturn, 1) := by decide +kernel
theorem s166_224 {l0 : Nat} {l1 : AV} {l2 : AV} {l3 : AV} {l4 : AV} {l5 : AV} {l6 : AV} {l7 : AV} {x0 : Int} : WP m166 224 [.inr (.inl l0), l1, l2, l3, l4, l5, l6, l7] [.inl x0] σ Q = ((x0 = 0 ∨ x0 = 1) ∧ Q [.inl x0] σ) := w_rz d166_224 rfl
theorem e166 {p0 : Nat} : CA m166 [.inr (.inl p0)] σ Q = WP m166 0 [.inr (.inl p0), vU, vU, vU, vU, vU, vU, vU] [] σ Q := rfl
-- BinderPressModel.does()V
theorem d167_0 : adec m167 0 = some (.aload_n 0, 1) := by decide +kernel
theorem s167_0 {l0 : Nat} {l1 : AV} {l2 : AV} {l3 : AV} : WP m167 0 [.inr (.inl l0), l1, l2, l3] [] σ Q = WP m167 1 [.inr (.inl l0), l1, l2, l3] [.inr (.inl l0)] σ Q := w_ld d167_0 rfl
theorem d167_1 : adec m167 1 = some (.iconst (0), 1) := by decide +kernel
theorem s167_1 {l0 : Nat} {l1 : AV} {l2 : AV} {l3 : AV} {x0 : Nat} : WP m167 1 [.inr (.inl l0), l1, l2, l3] [.inr (.inl x0)] σ Q = WP m167 2 [.inr (.inl l0), l1, l2, l3] [.inl (0), .inr (.inl x0)] σ Q := w_iconst d167_1 (by decide)
theorem d167_2 : adec m167 2 = some (.putfield 97, 3) := by decide +kernel
theorem s167_2 {l0 : Nat} {l1 : AV} {l2 : AV} {l3 : AV} {x1 : Int} : WP m167 2 [.inr (.inl l0), l1, l2, l3] [.inl x1, .inr (.inl 130)] σ Q = WP m167 5 [.inr (.inl l0), l1, l2, l3] [] (aup σ 130 9 x1) Q := (w_putI (c := 10) (n := 9) d167_2 (by decide +kernel) (by decide +kernel) (by decide +kernel)).trans (g_and (isO_dec (by decide +kernel)))
theorem d167_5 : adec m167 5 = some (.iconst (0), 1) := by decide +kernel
theorem s167_5 {l0 : Nat} {l1 : AV} {l2 : AV} {l3 : AV} : WP m167 5 [.inr (.inl l0), l1, l2, l3] [] σ Q = WP m167 6 [.inr (.inl l0), l1, l2, l3] [.inl (0)] σ Q := w_iconst d167_5 (by decide)
theorem d167_6 : adec m167 6 = some (.istore_n 1, 1) := by decide +kernel
theorem s167_6 {l0 : Nat} {l1 : AV} {l2 : AV} {l3 : AV} {x0 : Int} : WP m167 6 [.inr (.inl l0), l1, l2, l3] [.inl x0] σ Q = WP m167 7 [.inr (.inl l0), .inl x0, l2, l3] [] σ Q := w_st1 (j := 1) d167_6 rfl (Nat.le_of_ble_eq_true rfl) rfl
theorem d167_7 : adec m167 7 = some (.iload_n 1, 1) := by decide +kernel
theorem s167_7 {l0 : Nat} {l1 : Int} {l2 : AV} {l3 : AV} : WP m167 7 [.inr (.inl l0), .inl l1, l2, l3] [] σ Q = WP m167 8 [.inr (.inl l0), .inl l1, l2, l3] [.inl l1] σ Q := w_ld d167_7 rfl
theorem d167_8 : adec m167 8 = some (.aload_n 0, 1) := by decide +kernel
theorem s167_8 {l0 : Nat} {l1 : Int} {l2 : AV} {l3 : AV} {x0 : Int} : WP m167 8 [.inr (.inl l0), .inl l1, l2, l3] [.inl x0] σ Q = WP m167 9 [.inr (.inl l0), .inl l1, l2, l3] [.inr (.inl l0), .inl x0] σ Q := w_ld d167_8 rfl
theorem d167_9 : adec m167 9 = some (.getfield 226, 3) := by decide +kernel
theorem s167_9 {l0 : Nat} {l1 : Int} {l2 : AV} {l3 : AV} {x0 : Int} : WP m167 9 [.inr (.inl l0), .inl l1, l2, l3] [.inr (.inl 130), .inl x0] σ Q = WP m167 12 [.inr (.inl l0), .inl l1, l2, l3] [.inl (σ 130 16), .inl x0] σ Q := (w_getI (c := 10) (n := 16) d167_9 (by decide +kernel) (by decide +kernel)).trans (g_and (isO_dec (by decide +kernel)))
theorem d167_12 : adec m167 12 = some (.if_icmp .ge (19), 3) := by decide +kernel
theorem s167_12 {l0 : Nat} {l1 : Int} {l2 : AV} {l3 : AV} {x0 : Int} {x1 : Int} : WP m167 12 [.inr (.inl l0), .inl l1, l2, l3] [.inl x1, .inl x0] σ Q = (if x1 ≤ x0 then WP m167 31 [.inr (.inl l0), .inl l1, l2, l3] [] σ Q else WP m167 15 [.inr (.inl l0), .inl l1, l2, l3] [] σ Q) := w_icge d167_12 (by decide)
theorem d167_15 : adec m167 15 = some (.aload_n 0, 1) := by decide +kernel
theorem s167_15 {l0 : Nat} {l1 : Int} {l2 : AV} {l3 : AV} : WP m167 15 [.inr (.inl l0), .inl l1, l2, l3] [] σ Q = WP m167 16 [.inr (.inl l0), .inl l1, l2, l3] [.inr (.inl l0)] σ Q := w_ld d167_15 rfl
theorem d167_16 : adec m167 16 = some (.aload_n 0, 1) := by decide +kernel
theorem s167_16 {l0 : Nat} {l1 : Int} {l2 : AV} {l3 : AV} {x0 : Nat} : WP m167 16 [.inr (.inl l0), .inl l1, l2, l3] [.inr (.inl x0)] σ Q = WP m167 17 [.inr (.inl l0), .inl l1, l2, l3] [.inr (.inl l0), .inr (.inl x0)] σ Q := w_ld d167_16 rfl
theorem d167_17 : adec m167 17 = some (.getfield 24, 3) := by decide +kernel
theorem s167_17 {l0 : Nat} {l1 : Int} {l2 : AV} {l3 : AV} {x0 : Nat} : WP m167 17 [.inr (.inl l0), .inl l1, l2, l3] [.inr (.inl 130), .inr (.inl x0)] σ Q = WP m167 20 [.inr (.inl l0), .inl l1, l2, l3] [.inr (.inl 134), .inr (.inl x0)] σ Q := (w_getR (c := 10) (n := 6) d167_17 (by decide +kernel) (by decide +kernel)).trans (g_and ⟨isO_dec (by decide +kernel), by decide +kernel⟩)
theorem d167_20 : adec m167 20 = some (.iload_n 1, 1) := by decide +kernel
theorem s167_20 {l0 : Nat} {l1 : Int} {l2 : AV} {l3 : AV} {x0 : Nat} {x1 : Nat} : WP m167 20 [.inr (.inl l0), .inl l1, l2, l3] [.inr (.inl x1), .inr (.inl x0)] σ Q = WP m167 21 [.inr (.inl l0), .inl l1, l2, l3] [.inl l1, .inr (.inl x1), .inr (.inl x0)] σ Q := w_ld d167_20 rfl
theorem d167_21 : adec m167 21 = some (.iaload, 1) := by decide +kernel
theorem s167_21 {l0 : Nat} {l1 : Int} {l2 : AV} {l3 : AV} {x0 : Nat} {x1 : Nat} {x2 : Int} : WP m167 21 [.inr (.inl l0), .inl l1, l2, l3] [.inl x2, .inr (.inl x1), .inr (.inl x0)] σ Q = ((kdS x1 = 20 ∧ 0 ≤ x2 ∧ x2 < ln x1) ∧ WP m167 22 [.inr (.inl l0), .inl l1, l2, l3] [.inl (σ x1 x2.toNat), .inr (.inl x0)] σ Q) := w_iald d167_21
theorem d167_22 : adec m167 22 = some (.invokevirtual 168, 3) := by decide +kernel
theorem s167_22 {l0 : Nat} {l1 : Int} {l2 : AV} {l3 : AV} {x1 : Int} : WP m167 22 [.inr (.inl l0), .inl l1, l2, l3] [.inl x1, .inr (.inl 130)] σ Q = CA m134 [.inr (.inl 130), .inl x1] σ (fun v σ2 => WP m167 25 [.inr (.inl l0), .inl l1, l2, l3] (v ++ []) σ2 Q) := (w_cV (k := 134) d167_22 (by decide +kernel) m134_at rfl rfl ⟨Nat.le_of_ble_eq_true rfl, Nat.le_of_ble_eq_true rfl, Nat.le_of_ble_eq_true rfl⟩ (by decide)).trans (g_and (isO_dec (by decide +kernel)))
theorem d167_25 : adec m167 25 = some (.iinc 1 (1), 3) := by decide +kernel
theorem s167_25 {l0 : Nat} {l1 : Int} {l2 : AV} {l3 : AV} : WP m167 25 [.inr (.inl l0), .inl l1, l2, l3] [] σ Q = (inI (l1 + (1)) ∧ WP m167 28 [.inr (.inl l0), .inl (l1 + (1)), l2, l3] [] σ Q) := w_iinc d167_25 rfl rfl
theorem d167_28 : adec m167 28 = some (.goto (-21), 3) := by decide +kernel
theorem s167_28 {l0 : Nat} {l1 : Int} {l2 : AV} {l3 : AV} : WP m167 28 [.inr (.inl l0), .inl l1, l2, l3] [] σ Q = WP m167 7 [.inr (.inl l0), .inl l1, l2, l3] [] σ Q := w_goto d167_28 (by decide)
theorem d167_31 : adec m167 31 = some (.aload_n 0, 1) := by decide +kernel
theorem s167_31 {l0 : Nat} {l1 : Int} {l2 : AV} {l3 : AV} : WP m167 31 [.inr (.inl l0), .inl l1, l2, l3] [] σ Q = WP m167 32 [.inr (.inl l0), .inl l1, l2, l3] [.inr (.inl l0)] σ Q := w_ld d167_31 rfl
theorem d167_32 : adec m167 32 = some (.getfield 24, 3) := by decide +kernel
theorem s167_32 {l0 : Nat} {l1 : Int} {l2 : AV} {l3 : AV} : WP m167 32 [.inr (.inl l0), .inl l1, l2, l3] [.inr (.inl 130)] σ Q = WP m167 35 [.inr (.inl l0), .inl l1, l2, l3] [.inr (.inl 134)] σ Q := (w_getR (c := 10) (n := 6) d167_32 (by decide +kernel) (by decide +kernel)).trans (g_and ⟨isO_dec (by decide +kernel), by decide +kernel⟩)
theorem d167_35 : adec m167 35 = some (.aload_n 0, 1) := by decide +kernel
theorem s167_35 {l0 : Nat} {l1 : Int} {l2 : AV} {l3 : AV} {x0 : Nat} : WP m167 35 [.inr (.inl l0), .inl l1, l2, l3] [.inr (.inl x0)] σ Q = WP m167 36 [.inr (.inl l0), .inl l1, l2, l3] [.inr (.inl l0), .inr (.inl x0)] σ Q := w_ld d167_35 rfl
theorem d167_36 : adec m167 36 = some (.getfield 226, 3) := by decide +kernel
theorem s167_36 {l0 : Nat} {l1 : Int} {l2 : AV} {l3 : AV} {x0 : Nat} : WP m167 36 [.inr (.inl l0), .inl l1, l2, l3] [.inr (.inl 130), .inr (.inl x0)] σ Q = WP m167 39 [.inr (.inl l0), .inl l1, l2, l3] [.inl (σ 130 16), .inr (.inl x0)] σ Q := (w_getI (c := 10) (n := 16) d167_36 (by decide +kernel) (by decide +kernel)).trans (g_and (isO_dec (by decide +kernel)))
theorem d167_39 : adec m167 39 = some (.iaload, 1) := by decide +kernel
theorem s167_39 {l0 : Nat} {l1 : Int} {l2 : AV} {l3 : AV} {x0 : Nat} {x1 : Int} : WP m167 39 [.inr (.inl l0), .inl l1, l2, l3] [.inl x1, .inr (.inl x0)] σ Q = ((kdS x0 = 20 ∧ 0 ≤ x1 ∧ x1 < ln x0) ∧ WP m167 40 [.inr (.inl l0), .inl l1, l2, l3] [.inl (σ x0 x1.toNat)] σ Q) := w_iald d167_39
theorem d167_40 : adec m167 40 = some (.istore_n 1, 1) := by decide +kernel
theorem s167_40 {l0 : Nat} {l1 : Int} {l2 : AV} {l3 : AV} {x0 : Int} : WP m167 40 [.inr (.inl l0), .inl l1, l2, l3] [.inl x0] σ Q = WP m167 41 [.inr (.inl l0), .inl x0, l2, l3] [] σ Q := w_st1 (j := 1) d167_40 rfl (Nat.le_of_ble_eq_true rfl) rfl
theorem d167_41 : adec m167 41 = some (.aload_n 0, 1) := by decide +kernel
theorem s167_41 {l0 : Nat} {l1 : Int} {l2 : AV} {l3 : AV} : WP m167 41 [.inr (.inl l0), .inl l1, l2, l3] [] σ Q = WP m167 42 [.inr (.inl l0), .inl l1, l2, l3] [.inr (.inl l0)] σ Q := w_ld d167_41 rfl
theorem d167_42 : adec m167 42 = some (.getfield 226, 3) := by decide +kernel
theorem s167_42 {l0 : Nat} {l1 : Int} {l2 : AV} {l3 : AV} : WP m167 42 [.inr (.inl l0), .inl l1, l2, l3] [.inr (.inl 130)] σ Q = WP m167 45 [.inr (.inl l0), .inl l1, l2, l3] [.inl (σ 130 16)] σ Q := (w_getI (c := 10) (n := 16) d167_42 (by decide +kernel) (by decide +kernel)).trans (g_and (isO_dec (by decide +kernel)))
theorem d167_45 : adec m167 45 = some (.istore_n 2, 1) := by decide +kernel
theorem s167_45 {l0 : Nat} {l1 : Int} {l2 : AV} {l3 : AV} {x0 : Int} : WP m167 45 [.inr (.inl l0), .inl l1, l2, l3] [.inl x0] σ Q = WP m167 46 [.inr (.inl l0), .inl l1, .inl x0, l3] [] σ Q := w_st1 (j := 2) d167_45 rfl (Nat.le_of_ble_eq_true rfl) rfl
theorem d167_46 : adec m167 46 = some (.iload_n 1, 1) := by decide +kernel
theorem s167_46 {l0 : Nat} {l1 : Int} {l2 : Int} {l3 : AV} : WP m167 46 [.inr (.inl l0), .inl l1, .inl l2, l3] [] σ Q = WP m167 47 [.inr (.inl l0), .inl l1, .inl l2, l3] [.inl l1] σ Q := w_ld d167_46 rfl
theorem d167_47 : adec m167 47 = some (.ifCond .ne (16), 3) := by decide +kernel
theorem s167_47 {l0 : Nat} {l1 : Int} {l2 : Int} {l3 : AV} {x0 : Int} : WP m167 47 [.inr (.inl l0), .inl l1, .inl l2, l3] [.inl x0] σ Q = (if x0 = 0 then WP m167 50 [.inr (.inl l0), .inl l1, .inl l2, l3] [] σ Q else WP m167 63 [.inr (.inl l0), .inl l1, .inl l2, l3] [] σ Q) := w_ifne d167_47 (by decide)
theorem d167_50 : adec m167 50 = some (.iinc 2 (1), 3) := by decide +kernel
theorem s167_50 {l0 : Nat} {l1 : Int} {l2 : Int} {l3 : AV} : WP m167 50 [.inr (.inl l0), .inl l1, .inl l2, l3] [] σ Q = (inI (l2 + (1)) ∧ WP m167 53 [.inr (.inl l0), .inl l1, .inl (l2 + (1)), l3] [] σ Q) := w_iinc d167_50 rfl rfl
theorem d167_53 : adec m167 53 = some (.aload_n 0, 1) := by decide +kernel
theorem s167_53 {l0 : Nat} {l1 : Int} {l2 : Int} {l3 : AV} : WP m167 53 [.inr (.inl l0), .inl l1, .inl l2, l3] [] σ Q = WP m167 54 [.inr (.inl l0), .inl l1, .inl l2, l3] [.inr (.inl l0)] σ Q := w_ld d167_53 rfl
theorem d167_54 : adec m167 54 = some (.getfield 24, 3) := by decide +kernel
theorem s167_54 {l0 : Nat} {l1 : Int} {l2 : Int} {l3 : AV} : WP m167 54 [.inr (.inl l0), .inl l1, .inl l2, l3] [.inr (.inl 130)] σ Q = WP m167 57 [.inr (.inl l0), .inl l1, .inl l2, l3] [.inr (.inl 134)] σ Q := (w_getR (c := 10) (n := 6) d167_54 (by decide +kernel) (by decide +kernel)).trans (g_and ⟨isO_dec (by decide +kernel), by decide +kernel⟩)
theorem d167_57 : adec m167 57 = some (.iload_n 2, 1) := by decide +kernel
theorem s167_57 {l0 : Nat} {l1 : Int} {l2 : Int} {l3 : AV} {x0 : Nat} : WP m167 57 [.inr (.inl l0), .inl l1, .inl l2, l3] [.inr (.inl x0)] σ Q = WP m167 58 [.inr (.inl l0), .inl l1, .inl l2, l3] [.inl l2, .inr (.inl x0)] σ Q := w_ld d167_57 rfl
theorem d167_58 : adec m167 58 = some (.iaload, 1) := by decide +kernel
theorem s167_58 {l0 : Nat} {l1 : Int} {l2 : Int} {l3 : AV} {x0 : Nat} {x1 : Int} : WP m167 58 [.inr (.inl l0), .inl l1, .inl l2, l3] [.inl x1, .inr (.inl x0)] σ Q = ((kdS x0 = 20 ∧ 0 ≤ x1 ∧ x1 < ln x0) ∧ WP m167 59 [.inr (.inl l0), .inl l1, .inl l2, l3] [.inl (σ x0 x1.toNat)] σ Q) := w_iald d167_58
theorem d167_59 : adec m167 59 = some (.istore_n 1, 1) := by decide +kernel
theorem s167_59 {l0 : Nat} {l1 : Int} {l2 : Int} {l3 : AV} {x0 : Int} : WP m167 59 [.inr (.inl l0), .inl l1, .inl l2, l3] [.inl x0] σ Q = WP m167 60 [.inr (.inl l0), .inl x0, .inl l2, l3] [] σ Q := w_st1 (j := 1) d167_59 rfl (Nat.le_of_ble_eq_true rfl) rfl
theorem d167_60 : adec m167 60 = some (.goto (-14), 3) := by decide +kernel
theorem s167_60 {l0 : Nat} {l1 : Int} {l2 : Int} {l3 : AV} : WP m167 60 [.inr (.inl l0), .inl l1, .inl l2, l3] [] σ Q = WP m167 46 [.inr (.inl l0), .inl l1, .inl l2, l3] [] σ Q := w_goto d167_60 (by decide)
theorem d167_63 : adec m167 63 = some (.iload_n 1, 1) := by decide +kernel
theorem s167_63 {l0 : Nat} {l1 : Int} {l2 : Int} {l3 : AV} : WP m167 63 [.inr (.inl l0), .inl l1, .inl l2, l3] [] σ Q = WP m167 64 [.inr (.inl l0), .inl l1, .inl l2, l3] [.inl l1] σ Q := w_ld d167_63 rfl
theorem d167_64 : adec m167 64 = some (.tableswitch (146) (1) (4) #[32, 32, 45, 103], 32) := by decide +kernel
theorem s167_64 {l0 : Nat} {l1 : Int} {l2 : Int} {l3 : AV} {x0 : Int} : WP m167 64 [.inr (.inl l0), .inl l1, .inl l2, l3] [.inl x0] σ Q = (if x0 = 1 then WP m167 96 [.inr (.inl l0), .inl l1, .inl l2, l3] [] σ Q else if x0 = 2 then WP m167 96 [.inr (.inl l0), .inl l1, .inl l2, l3] [] σ Q else if x0 = 3 then WP m167 109 [.inr (.inl l0), .inl l1, .inl l2, l3] [] σ Q else if x0 = 4 then WP m167 167 [.inr (.inl l0), .inl l1, .inl l2, l3] [] σ Q else WP m167 210 [.inr (.inl l0), .inl l1, .inl l2, l3] [] σ Q) := by
  by_cases h0 : x0 = (1)
  · rw [if_pos h0]; subst h0; exact w_sw d167_64 rfl rfl
  by_cases h1 : x0 = (2)
  · rw [if_neg h0, if_pos h1]; subst h1; exact w_sw d167_64 rfl rfl
  by_cases h2 : x0 = (3)
  · rw [if_neg h0, if_neg h1, if_pos h2]; subst h2; exact w_sw d167_64 rfl rfl
  by_cases h3 : x0 = (4)
  · rw [if_neg h0, if_neg h1, if_neg h2, if_pos h3]; subst h3; exact w_sw d167_64 rfl rfl
  rw [if_neg h0, if_neg h1, if_neg h2, if_neg h3]
  by_cases hr : x0 < (1) ∨ (4) < x0
  · exact w_sw d167_64 rfl (by simp only [bstep]; rw [if_pos hr]; rfl)
  · omega
theorem d167_96 : adec m167 96 = some (.aload_n 0, 1) := by decide +kernel
theorem s167_96 {l0 : Nat} {l1 : Int} {l2 : Int} {l3 : AV} : WP m167 96 [.inr (.inl l0), .inl l1, .inl l2, l3] [] σ Q = WP m167 97 [.inr (.inl l0), .inl l1, .inl l2, l3] [.inr (.inl l0)] σ Q := w_ld d167_96 rfl
theorem d167_97 : adec m167 97 = some (.aload_n 0, 1) := by decide +kernel
theorem s167_97 {l0 : Nat} {l1 : Int} {l2 : Int} {l3 : AV} {x0 : Nat} : WP m167 97 [.inr (.inl l0), .inl l1, .inl l2, l3] [.inr (.inl x0)] σ Q = WP m167 98 [.inr (.inl l0), .inl l1, .inl l2, l3] [.inr (.inl l0), .inr (.inl x0)] σ Q := w_ld d167_97 rfl
theorem d167_98 : adec m167 98 = some (.getfield 39, 3) := by decide +kernel
theorem s167_98 {l0 : Nat} {l1 : Int} {l2 : Int} {l3 : AV} {x0 : Nat} : WP m167 98 [.inr (.inl l0), .inl l1, .inl l2, l3] [.inr (.inl 130), .inr (.inl x0)] σ Q = WP m167 101 [.inr (.inl l0), .inl l1, .inl l2, l3] [.inr (.inl 139), .inr (.inl x0)] σ Q := (w_getR (c := 10) (n := 17) d167_98 (by decide +kernel) (by decide +kernel)).trans (g_and ⟨isO_dec (by decide +kernel), by decide +kernel⟩)
theorem d167_101 : adec m167 101 = some (.iconst (0), 1) := by decide +kernel
theorem s167_101 {l0 : Nat} {l1 : Int} {l2 : Int} {l3 : AV} {x0 : Nat} {x1 : Nat} : WP m167 101 [.inr (.inl l0), .inl l1, .inl l2, l3] [.inr (.inl x1), .inr (.inl x0)] σ Q = WP m167 102 [.inr (.inl l0), .inl l1, .inl l2, l3] [.inl (0), .inr (.inl x1), .inr (.inl x0)] σ Q := w_iconst d167_101 (by decide)
theorem d167_102 : adec m167 102 = some (.iaload, 1) := by decide +kernel
theorem s167_102 {l0 : Nat} {l1 : Int} {l2 : Int} {l3 : AV} {x0 : Nat} {x1 : Nat} {x2 : Int} : WP m167 102 [.inr (.inl l0), .inl l1, .inl l2, l3] [.inl x2, .inr (.inl x1), .inr (.inl x0)] σ Q = ((kdS x1 = 20 ∧ 0 ≤ x2 ∧ x2 < ln x1) ∧ WP m167 103 [.inr (.inl l0), .inl l1, .inl l2, l3] [.inl (σ x1 x2.toNat), .inr (.inl x0)] σ Q) := w_iald d167_102
theorem d167_103 : adec m167 103 = some (.invokevirtual 179, 3) := by decide +kernel
theorem s167_103 {l0 : Nat} {l1 : Int} {l2 : Int} {l3 : AV} {x1 : Int} : WP m167 103 [.inr (.inl l0), .inl l1, .inl l2, l3] [.inl x1, .inr (.inl 130)] σ Q = CA m151 [.inr (.inl 130), .inl x1] σ (fun v σ2 => WP m167 106 [.inr (.inl l0), .inl l1, .inl l2, l3] (v ++ []) σ2 Q) := (w_cV (k := 151) d167_103 (by decide +kernel) m151_at rfl rfl ⟨Nat.le_of_ble_eq_true rfl, Nat.le_of_ble_eq_true rfl, Nat.le_of_ble_eq_true rfl⟩ (by decide)).trans (g_and (isO_dec (by decide +kernel)))
theorem d167_106 : adec m167 106 = some (.goto (144), 3) := by decide +kernel
theorem s167_106 {l0 : Nat} {l1 : Int} {l2 : Int} {l3 : AV} : WP m167 106 [.inr (.inl l0), .inl l1, .inl l2, l3] [] σ Q = WP m167 250 [.inr (.inl l0), .inl l1, .inl l2, l3] [] σ Q := w_goto d167_106 (by decide)
theorem d167_109 : adec m167 109 = some (.aload_n 0, 1) := by decide +kernel
theorem s167_109 {l0 : Nat} {l1 : Int} {l2 : Int} {l3 : AV} : WP m167 109 [.inr (.inl l0), .inl l1, .inl l2, l3] [] σ Q = WP m167 110 [.inr (.inl l0), .inl l1, .inl l2, l3] [.inr (.inl l0)] σ Q := w_ld d167_109 rfl
theorem d167_110 : adec m167 110 = some (.iconst (0), 1) := by decide +kernel
theorem s167_110 {l0 : Nat} {l1 : Int} {l2 : Int} {l3 : AV} {x0 : Nat} : WP m167 110 [.inr (.inl l0), .inl l1, .inl l2, l3] [.inr (.inl x0)] σ Q = WP m167 111 [.inr (.inl l0), .inl l1, .inl l2, l3] [.inl (0), .inr (.inl x0)] σ Q := w_iconst d167_110 (by decide)
theorem d167_111 : adec m167 111 = some (.invokevirtual 168, 3) := by decide +kernel
theorem s167_111 {l0 : Nat} {l1 : Int} {l2 : Int} {l3 : AV} {x1 : Int} : WP m167 111 [.inr (.inl l0), .inl l1, .inl l2, l3] [.inl x1, .inr (.inl 130)] σ Q = CA m134 [.inr (.inl 130), .inl x1] σ (fun v σ2 => WP m167 114 [.inr (.inl l0), .inl l1, .inl l2, l3] (v ++ []) σ2 Q) := (w_cV (k := 134) d167_111 (by decide +kernel) m134_at rfl rfl ⟨Nat.le_of_ble_eq_true rfl, Nat.le_of_ble_eq_true rfl, Nat.le_of_ble_eq_true rfl⟩ (by decide)).trans (g_and (isO_dec (by decide +kernel)))
theorem d167_114 : adec m167 114 = some (.aload_n 0, 1) := by decide +kernel
theorem s167_114 {l0 : Nat} {l1 : Int} {l2 : Int} {l3 : AV} : WP m167 114 [.inr (.inl l0), .inl l1, .inl l2, l3] [] σ Q = WP m167 115 [.inr (.inl l0), .inl l1, .inl l2, l3] [.inr (.inl l0)] σ Q := w_ld d167_114 rfl
theorem d167_115 : adec m167 115 = some (.iconst (0), 1) := by decide +kernel
theorem s167_115 {l0 : Nat} {l1 : Int} {l2 : Int} {l3 : AV} {x0 : Nat} : WP m167 115 [.inr (.inl l0), .inl l1, .inl l2, l3] [.inr (.inl x0)] σ Q = WP m167 116 [.inr (.inl l0), .inl l1, .inl l2, l3] [.inl (0), .inr (.inl x0)] σ Q := w_iconst d167_115 (by decide)
theorem d167_116 : adec m167 116 = some (.invokevirtual 168, 3) := by decide +kernel
theorem s167_116 {l0 : Nat} {l1 : Int} {l2 : Int} {l3 : AV} {x1 : Int} : WP m167 116 [.inr (.inl l0), .inl l1, .inl l2, l3] [.inl x1, .inr (.inl 130)] σ Q = CA m134 [.inr (.inl 130), .inl x1] σ (fun v σ2 => WP m167 119 [.inr (.inl l0), .inl l1, .inl l2, l3] (v ++ []) σ2 Q) := (w_cV (k := 134) d167_116 (by decide +kernel) m134_at rfl rfl ⟨Nat.le_of_ble_eq_true rfl, Nat.le_of_ble_eq_true rfl, Nat.le_of_ble_eq_true rfl⟩ (by decide)).trans (g_and (isO_dec (by decide +kernel)))
theorem d167_119 : adec m167 119 = some (.aload_n 0, 1) := by decide +kernel
theorem s167_119 {l0 : Nat} {l1 : Int} {l2 : Int} {l3 : AV} : WP m167 119 [.inr (.inl l0), .inl l1, .inl l2, l3] [] σ Q = WP m167 120 [.inr (.inl l0), .inl l1, .inl l2, l3] [.inr (.inl l0)] σ Q := w_ld d167_119 rfl
theorem d167_120 : adec m167 120 = some (.aload_n 0, 1) := by decide +kernel
theorem s167_120 {l0 : Nat} {l1 : Int} {l2 : Int} {l3 : AV} {x0 : Nat} : WP m167 120 [.inr (.inl l0), .inl l1, .inl l2, l3] [.inr (.inl x0)] σ Q = WP m167 121 [.inr (.inl l0), .inl l1, .inl l2, l3] [.inr (.inl l0), .inr (.inl x0)] σ Q := w_ld d167_120 rfl
theorem d167_121 : adec m167 121 = some (.getfield 39, 3) := by decide +kernel
theorem s167_121 {l0 : Nat} {l1 : Int} {l2 : Int} {l3 : AV} {x0 : Nat} : WP m167 121 [.inr (.inl l0), .inl l1, .inl l2, l3] [.inr (.inl 130), .inr (.inl x0)] σ Q = WP m167 124 [.inr (.inl l0), .inl l1, .inl l2, l3] [.inr (.inl 139), .inr (.inl x0)] σ Q := (w_getR (c := 10) (n := 17) d167_121 (by decide +kernel) (by decide +kernel)).trans (g_and ⟨isO_dec (by decide +kernel), by decide +kernel⟩)
theorem d167_124 : adec m167 124 = some (.iconst (0), 1) := by decide +kernel
theorem s167_124 {l0 : Nat} {l1 : Int} {l2 : Int} {l3 : AV} {x0 : Nat} {x1 : Nat} : WP m167 124 [.inr (.inl l0), .inl l1, .inl l2, l3] [.inr (.inl x1), .inr (.inl x0)] σ Q = WP m167 125 [.inr (.inl l0), .inl l1, .inl l2, l3] [.inl (0), .inr (.inl x1), .inr (.inl x0)] σ Q := w_iconst d167_124 (by decide)
theorem d167_125 : adec m167 125 = some (.iaload, 1) := by decide +kernel
theorem s167_125 {l0 : Nat} {l1 : Int} {l2 : Int} {l3 : AV} {x0 : Nat} {x1 : Nat} {x2 : Int} : WP m167 125 [.inr (.inl l0), .inl l1, .inl l2, l3] [.inl x2, .inr (.inl x1), .inr (.inl x0)] σ Q = ((kdS x1 = 20 ∧ 0 ≤ x2 ∧ x2 < ln x1) ∧ WP m167 126 [.inr (.inl l0), .inl l1, .inl l2, l3] [.inl (σ x1 x2.toNat), .inr (.inl x0)] σ Q) := w_iald d167_125
theorem d167_126 : adec m167 126 = some (.invokevirtual 179, 3) := by decide +kernel
theorem s167_126 {l0 : Nat} {l1 : Int} {l2 : Int} {l3 : AV} {x1 : Int} : WP m167 126 [.inr (.inl l0), .inl l1, .inl l2, l3] [.inl x1, .inr (.inl 130)] σ Q = CA m151 [.inr (.inl 130), .inl x1] σ (fun v σ2 => WP m167 129 [.inr (.inl l0), .inl l1, .inl l2, l3] (v ++ []) σ2 Q) := (w_cV (k := 151) d167_126 (by decide +kernel) m151_at rfl rfl ⟨Nat.le_of_ble_eq_true rfl, Nat.le_of_ble_eq_true rfl, Nat.le_of_ble_eq_true rfl⟩ (by decide)).trans (g_and (isO_dec (by decide +kernel)))
theorem d167_129 : adec m167 129 = some (.aload_n 0, 1) := by decide +kernel
theorem s167_129 {l0 : Nat} {l1 : Int} {l2 : Int} {l3 : AV} : WP m167 129 [.inr (.inl l0), .inl l1, .inl l2, l3] [] σ Q = WP m167 130 [.inr (.inl l0), .inl l1, .inl l2, l3] [.inr (.inl l0)] σ Q := w_ld d167_129 rfl
theorem d167_130 : adec m167 130 = some (.aload_n 0, 1) := by decide +kernel
theorem s167_130 {l0 : Nat} {l1 : Int} {l2 : Int} {l3 : AV} {x0 : Nat} : WP m167 130 [.inr (.inl l0), .inl l1, .inl l2, l3] [.inr (.inl x0)] σ Q = WP m167 131 [.inr (.inl l0), .inl l1, .inl l2, l3] [.inr (.inl l0), .inr (.inl x0)] σ Q := w_ld d167_130 rfl
theorem d167_131 : adec m167 131 = some (.getfield 39, 3) := by decide +kernel
theorem s167_131 {l0 : Nat} {l1 : Int} {l2 : Int} {l3 : AV} {x0 : Nat} : WP m167 131 [.inr (.inl l0), .inl l1, .inl l2, l3] [.inr (.inl 130), .inr (.inl x0)] σ Q = WP m167 134 [.inr (.inl l0), .inl l1, .inl l2, l3] [.inr (.inl 139), .inr (.inl x0)] σ Q := (w_getR (c := 10) (n := 17) d167_131 (by decide +kernel) (by decide +kernel)).trans (g_and ⟨isO_dec (by decide +kernel), by decide +kernel⟩)
theorem d167_134 : adec m167 134 = some (.iconst (2), 1) := by decide +kernel
theorem s167_134 {l0 : Nat} {l1 : Int} {l2 : Int} {l3 : AV} {x0 : Nat} {x1 : Nat} : WP m167 134 [.inr (.inl l0), .inl l1, .inl l2, l3] [.inr (.inl x1), .inr (.inl x0)] σ Q = WP m167 135 [.inr (.inl l0), .inl l1, .inl l2, l3] [.inl (2), .inr (.inl x1), .inr (.inl x0)] σ Q := w_iconst d167_134 (by decide)
theorem d167_135 : adec m167 135 = some (.iaload, 1) := by decide +kernel
theorem s167_135 {l0 : Nat} {l1 : Int} {l2 : Int} {l3 : AV} {x0 : Nat} {x1 : Nat} {x2 : Int} : WP m167 135 [.inr (.inl l0), .inl l1, .inl l2, l3] [.inl x2, .inr (.inl x1), .inr (.inl x0)] σ Q = ((kdS x1 = 20 ∧ 0 ≤ x2 ∧ x2 < ln x1) ∧ WP m167 136 [.inr (.inl l0), .inl l1, .inl l2, l3] [.inl (σ x1 x2.toNat), .inr (.inl x0)] σ Q) := w_iald d167_135
theorem d167_136 : adec m167 136 = some (.invokevirtual 179, 3) := by decide +kernel
theorem s167_136 {l0 : Nat} {l1 : Int} {l2 : Int} {l3 : AV} {x1 : Int} : WP m167 136 [.inr (.inl l0), .inl l1, .inl l2, l3] [.inl x1, .inr (.inl 130)] σ Q = CA m151 [.inr (.inl 130), .inl x1] σ (fun v σ2 => WP m167 139 [.inr (.inl l0), .inl l1, .inl l2, l3] (v ++ []) σ2 Q) := (w_cV (k := 151) d167_136 (by decide +kernel) m151_at rfl rfl ⟨Nat.le_of_ble_eq_true rfl, Nat.le_of_ble_eq_true rfl, Nat.le_of_ble_eq_true rfl⟩ (by decide)).trans (g_and (isO_dec (by decide +kernel)))
theorem d167_139 : adec m167 139 = some (.aload_n 0, 1) := by decide +kernel
theorem s167_139 {l0 : Nat} {l1 : Int} {l2 : Int} {l3 : AV} : WP m167 139 [.inr (.inl l0), .inl l1, .inl l2, l3] [] σ Q = WP m167 140 [.inr (.inl l0), .inl l1, .inl l2, l3] [.inr (.inl l0)] σ Q := w_ld d167_139 rfl
theorem d167_140 : adec m167 140 = some (.iconst (0), 1) := by decide +kernel
theorem s167_140 {l0 : Nat} {l1 : Int} {l2 : Int} {l3 : AV} {x0 : Nat} : WP m167 140 [.inr (.inl l0), .inl l1, .inl l2, l3] [.inr (.inl x0)] σ Q = WP m167 141 [.inr (.inl l0), .inl l1, .inl l2, l3] [.inl (0), .inr (.inl x0)] σ Q := w_iconst d167_140 (by decide)
theorem d167_141 : adec m167 141 = some (.invokevirtual 168, 3) := by decide +kernel
theorem s167_141 {l0 : Nat} {l1 : Int} {l2 : Int} {l3 : AV} {x1 : Int} : WP m167 141 [.inr (.inl l0), .inl l1, .inl l2, l3] [.inl x1, .inr (.inl 130)] σ Q = CA m134 [.inr (.inl 130), .inl x1] σ (fun v σ2 => WP m167 144 [.inr (.inl l0), .inl l1, .inl l2, l3] (v ++ []) σ2 Q) := (w_cV (k := 134) d167_141 (by decide +kernel) m134_at rfl rfl ⟨Nat.le_of_ble_eq_true rfl, Nat.le_of_ble_eq_true rfl, Nat.le_of_ble_eq_true rfl⟩ (by decide)).trans (g_and (isO_dec (by decide +kernel)))
theorem d167_144 : adec m167 144 = some (.aload_n 0, 1) := by decide +kernel
theorem s167_144 {l0 : Nat} {l1 : Int} {l2 : Int} {l3 : AV} : WP m167 144 [.inr (.inl l0), .inl l1, .inl l2, l3] [] σ Q = WP m167 145 [.inr (.inl l0), .inl l1, .inl l2, l3] [.inr (.inl l0)] σ Q := w_ld d167_144 rfl
theorem d167_145 : adec m167 145 = some (.aload_n 0, 1) := by decide +kernel
theorem s167_145 {l0 : Nat} {l1 : Int} {l2 : Int} {l3 : AV} {x0 : Nat} : WP m167 145 [.inr (.inl l0), .inl l1, .inl l2, l3] [.inr (.inl x0)] σ Q = WP m167 146 [.inr (.inl l0), .inl l1, .inl l2, l3] [.inr (.inl l0), .inr (.inl x0)] σ Q := w_ld d167_145 rfl
theorem d167_146 : adec m167 146 = some (.getfield 39, 3) := by decide +kernel
theorem s167_146 {l0 : Nat} {l1 : Int} {l2 : Int} {l3 : AV} {x0 : Nat} : WP m167 146 [.inr (.inl l0), .inl l1, .inl l2, l3] [.inr (.inl 130), .inr (.inl x0)] σ Q = WP m167 149 [.inr (.inl l0), .inl l1, .inl l2, l3] [.inr (.inl 139), .inr (.inl x0)] σ Q := (w_getR (c := 10) (n := 17) d167_146 (by decide +kernel) (by decide +kernel)).trans (g_and ⟨isO_dec (by decide +kernel), by decide +kernel⟩)
theorem d167_149 : adec m167 149 = some (.iconst (1), 1) := by decide +kernel
theorem s167_149 {l0 : Nat} {l1 : Int} {l2 : Int} {l3 : AV} {x0 : Nat} {x1 : Nat} : WP m167 149 [.inr (.inl l0), .inl l1, .inl l2, l3] [.inr (.inl x1), .inr (.inl x0)] σ Q = WP m167 150 [.inr (.inl l0), .inl l1, .inl l2, l3] [.inl (1), .inr (.inl x1), .inr (.inl x0)] σ Q := w_iconst d167_149 (by decide)
theorem d167_150 : adec m167 150 = some (.iaload, 1) := by decide +kernel
theorem s167_150 {l0 : Nat} {l1 : Int} {l2 : Int} {l3 : AV} {x0 : Nat} {x1 : Nat} {x2 : Int} : WP m167 150 [.inr (.inl l0), .inl l1, .inl l2, l3] [.inl x2, .inr (.inl x1), .inr (.inl x0)] σ Q = ((kdS x1 = 20 ∧ 0 ≤ x2 ∧ x2 < ln x1) ∧ WP m167 151 [.inr (.inl l0), .inl l1, .inl l2, l3] [.inl (σ x1 x2.toNat), .inr (.inl x0)] σ Q) := w_iald d167_150
theorem d167_151 : adec m167 151 = some (.invokevirtual 179, 3) := by decide +kernel
theorem s167_151 {l0 : Nat} {l1 : Int} {l2 : Int} {l3 : AV} {x1 : Int} : WP m167 151 [.inr (.inl l0), .inl l1, .inl l2, l3] [.inl x1, .inr (.inl 130)] σ Q = CA m151 [.inr (.inl 130), .inl x1] σ (fun v σ2 => WP m167 154 [.inr (.inl l0), .inl l1, .inl l2, l3] (v ++ []) σ2 Q) := (w_cV (k := 151) d167_151 (by decide +kernel) m151_at rfl rfl ⟨Nat.le_of_ble_eq_true rfl, Nat.le_of_ble_eq_true rfl, Nat.le_of_ble_eq_true rfl⟩ (by decide)).trans (g_and (isO_dec (by decide +kernel)))
theorem d167_154 : adec m167 154 = some (.aload_n 0, 1) := by decide +kernel
theorem s167_154 {l0 : Nat} {l1 : Int} {l2 : Int} {l3 : AV} : WP m167 154 [.inr (.inl l0), .inl l1, .inl l2, l3] [] σ Q = WP m167 155 [.inr (.inl l0), .inl l1, .inl l2, l3] [.inr (.inl l0)] σ Q := w_ld d167_154 rfl
theorem d167_155 : adec m167 155 = some (.aload_n 0, 1) := by decide +kernel
theorem s167_155 {l0 : Nat} {l1 : Int} {l2 : Int} {l3 : AV} {x0 : Nat} : WP m167 155 [.inr (.inl l0), .inl l1, .inl l2, l3] [.inr (.inl x0)] σ Q = WP m167 156 [.inr (.inl l0), .inl l1, .inl l2, l3] [.inr (.inl l0), .inr (.inl x0)] σ Q := w_ld d167_155 rfl
theorem d167_156 : adec m167 156 = some (.getfield 39, 3) := by decide +kernel
theorem s167_156 {l0 : Nat} {l1 : Int} {l2 : Int} {l3 : AV} {x0 : Nat} : WP m167 156 [.inr (.inl l0), .inl l1, .inl l2, l3] [.inr (.inl 130), .inr (.inl x0)] σ Q = WP m167 159 [.inr (.inl l0), .inl l1, .inl l2, l3] [.inr (.inl 139), .inr (.inl x0)] σ Q := (w_getR (c := 10) (n := 17) d167_156 (by decide +kernel) (by decide +kernel)).trans (g_and ⟨isO_dec (by decide +kernel), by decide +kernel⟩)
theorem d167_159 : adec m167 159 = some (.iconst (2), 1) := by decide +kernel
theorem s167_159 {l0 : Nat} {l1 : Int} {l2 : Int} {l3 : AV} {x0 : Nat} {x1 : Nat} : WP m167 159 [.inr (.inl l0), .inl l1, .inl l2, l3] [.inr (.inl x1), .inr (.inl x0)] σ Q = WP m167 160 [.inr (.inl l0), .inl l1, .inl l2, l3] [.inl (2), .inr (.inl x1), .inr (.inl x0)] σ Q := w_iconst d167_159 (by decide)
theorem d167_160 : adec m167 160 = some (.iaload, 1) := by decide +kernel
theorem s167_160 {l0 : Nat} {l1 : Int} {l2 : Int} {l3 : AV} {x0 : Nat} {x1 : Nat} {x2 : Int} : WP m167 160 [.inr (.inl l0), .inl l1, .inl l2, l3] [.inl x2, .inr (.inl x1), .inr (.inl x0)] σ Q = ((kdS x1 = 20 ∧ 0 ≤ x2 ∧ x2 < ln x1) ∧ WP m167 161 [.inr (.inl l0), .inl l1, .inl l2, l3] [.inl (σ x1 x2.toNat), .inr (.inl x0)] σ Q) := w_iald d167_160
theorem d167_161 : adec m167 161 = some (.invokevirtual 179, 3) := by decide +kernel
theorem s167_161 {l0 : Nat} {l1 : Int} {l2 : Int} {l3 : AV} {x1 : Int} : WP m167 161 [.inr (.inl l0), .inl l1, .inl l2, l3] [.inl x1, .inr (.inl 130)] σ Q = CA m151 [.inr (.inl 130), .inl x1] σ (fun v σ2 => WP m167 164 [.inr (.inl l0), .inl l1, .inl l2, l3] (v ++ []) σ2 Q) := (w_cV (k := 151) d167_161 (by decide +kernel) m151_at rfl rfl ⟨Nat.le_of_ble_eq_true rfl, Nat.le_of_ble_eq_true rfl, Nat.le_of_ble_eq_true rfl⟩ (by decide)).trans (g_and (isO_dec (by decide +kernel)))
theorem d167_164 : adec m167 164 = some (.goto (86), 3) := by decide +kernel
theorem s167_164 {l0 : Nat} {l1 : Int} {l2 : Int} {l3 : AV} : WP m167 164 [.inr (.inl l0), .inl l1, .inl l2, l3] [] σ Q = WP m167 250 [.inr (.inl l0), .inl l1, .inl l2, l3] [] σ Q := w_goto d167_164 (by decide)
theorem d167_167 : adec m167 167 = some (.aload_n 0, 1) := by decide +kernel
theorem s167_167 {l0 : Nat} {l1 : Int} {l2 : Int} {l3 : AV} : WP m167 167 [.inr (.inl l0), .inl l1, .inl l2, l3] [] σ Q = WP m167 168 [.inr (.inl l0), .inl l1, .inl l2, l3] [.inr (.inl l0)] σ Q := w_ld d167_167 rfl
theorem d167_168 : adec m167 168 = some (.iconst (0), 1) := by decide +kernel
theorem s167_168 {l0 : Nat} {l1 : Int} {l2 : Int} {l3 : AV} {x0 : Nat} : WP m167 168 [.inr (.inl l0), .inl l1, .inl l2, l3] [.inr (.inl x0)] σ Q = WP m167 169 [.inr (.inl l0), .inl l1, .inl l2, l3] [.inl (0), .inr (.inl x0)] σ Q := w_iconst d167_168 (by decide)
theorem d167_169 : adec m167 169 = some (.invokevirtual 168, 3) := by decide +kernel
theorem s167_169 {l0 : Nat} {l1 : Int} {l2 : Int} {l3 : AV} {x1 : Int} : WP m167 169 [.inr (.inl l0), .inl l1, .inl l2, l3] [.inl x1, .inr (.inl 130)] σ Q = CA m134 [.inr (.inl 130), .inl x1] σ (fun v σ2 => WP m167 172 [.inr (.inl l0), .inl l1, .inl l2, l3] (v ++ []) σ2 Q) := (w_cV (k := 134) d167_169 (by decide +kernel) m134_at rfl rfl ⟨Nat.le_of_ble_eq_true rfl, Nat.le_of_ble_eq_true rfl, Nat.le_of_ble_eq_true rfl⟩ (by decide)).trans (g_and (isO_dec (by decide +kernel)))
theorem d167_172 : adec m167 172 = some (.aload_n 0, 1) := by decide +kernel
theorem s167_172 {l0 : Nat} {l1 : Int} {l2 : Int} {l3 : AV} : WP m167 172 [.inr (.inl l0), .inl l1, .inl l2, l3] [] σ Q = WP m167 173 [.inr (.inl l0), .inl l1, .inl l2, l3] [.inr (.inl l0)] σ Q := w_ld d167_172 rfl
theorem d167_173 : adec m167 173 = some (.aload_n 0, 1) := by decide +kernel
theorem s167_173 {l0 : Nat} {l1 : Int} {l2 : Int} {l3 : AV} {x0 : Nat} : WP m167 173 [.inr (.inl l0), .inl l1, .inl l2, l3] [.inr (.inl x0)] σ Q = WP m167 174 [.inr (.inl l0), .inl l1, .inl l2, l3] [.inr (.inl l0), .inr (.inl x0)] σ Q := w_ld d167_173 rfl
theorem d167_174 : adec m167 174 = some (.getfield 39, 3) := by decide +kernel
theorem s167_174 {l0 : Nat} {l1 : Int} {l2 : Int} {l3 : AV} {x0 : Nat} : WP m167 174 [.inr (.inl l0), .inl l1, .inl l2, l3] [.inr (.inl 130), .inr (.inl x0)] σ Q = WP m167 177 [.inr (.inl l0), .inl l1, .inl l2, l3] [.inr (.inl 139), .inr (.inl x0)] σ Q := (w_getR (c := 10) (n := 17) d167_174 (by decide +kernel) (by decide +kernel)).trans (g_and ⟨isO_dec (by decide +kernel), by decide +kernel⟩)
theorem d167_177 : adec m167 177 = some (.iconst (0), 1) := by decide +kernel
theorem s167_177 {l0 : Nat} {l1 : Int} {l2 : Int} {l3 : AV} {x0 : Nat} {x1 : Nat} : WP m167 177 [.inr (.inl l0), .inl l1, .inl l2, l3] [.inr (.inl x1), .inr (.inl x0)] σ Q = WP m167 178 [.inr (.inl l0), .inl l1, .inl l2, l3] [.inl (0), .inr (.inl x1), .inr (.inl x0)] σ Q := w_iconst d167_177 (by decide)
theorem d167_178 : adec m167 178 = some (.iaload, 1) := by decide +kernel
theorem s167_178 {l0 : Nat} {l1 : Int} {l2 : Int} {l3 : AV} {x0 : Nat} {x1 : Nat} {x2 : Int} : WP m167 178 [.inr (.inl l0), .inl l1, .inl l2, l3] [.inl x2, .inr (.inl x1), .inr (.inl x0)] σ Q = ((kdS x1 = 20 ∧ 0 ≤ x2 ∧ x2 < ln x1) ∧ WP m167 179 [.inr (.inl l0), .inl l1, .inl l2, l3] [.inl (σ x1 x2.toNat), .inr (.inl x0)] σ Q) := w_iald d167_178
theorem d167_179 : adec m167 179 = some (.invokevirtual 179, 3) := by decide +kernel
theorem s167_179 {l0 : Nat} {l1 : Int} {l2 : Int} {l3 : AV} {x1 : Int} : WP m167 179 [.inr (.inl l0), .inl l1, .inl l2, l3] [.inl x1, .inr (.inl 130)] σ Q = CA m151 [.inr (.inl 130), .inl x1] σ (fun v σ2 => WP m167 182 [.inr (.inl l0), .inl l1, .inl l2, l3] (v ++ []) σ2 Q) := (w_cV (k := 151) d167_179 (by decide +kernel) m151_at rfl rfl ⟨Nat.le_of_ble_eq_true rfl, Nat.le_of_ble_eq_true rfl, Nat.le_of_ble_eq_true rfl⟩ (by decide)).trans (g_and (isO_dec (by decide +kernel)))
theorem d167_182 : adec m167 182 = some (.aload_n 0, 1) := by decide +kernel
theorem s167_182 {l0 : Nat} {l1 : Int} {l2 : Int} {l3 : AV} : WP m167 182 [.inr (.inl l0), .inl l1, .inl l2, l3] [] σ Q = WP m167 183 [.inr (.inl l0), .inl l1, .inl l2, l3] [.inr (.inl l0)] σ Q := w_ld d167_182 rfl
theorem d167_183 : adec m167 183 = some (.iconst (0), 1) := by decide +kernel
theorem s167_183 {l0 : Nat} {l1 : Int} {l2 : Int} {l3 : AV} {x0 : Nat} : WP m167 183 [.inr (.inl l0), .inl l1, .inl l2, l3] [.inr (.inl x0)] σ Q = WP m167 184 [.inr (.inl l0), .inl l1, .inl l2, l3] [.inl (0), .inr (.inl x0)] σ Q := w_iconst d167_183 (by decide)
theorem d167_184 : adec m167 184 = some (.invokevirtual 168, 3) := by decide +kernel
theorem s167_184 {l0 : Nat} {l1 : Int} {l2 : Int} {l3 : AV} {x1 : Int} : WP m167 184 [.inr (.inl l0), .inl l1, .inl l2, l3] [.inl x1, .inr (.inl 130)] σ Q = CA m134 [.inr (.inl 130), .inl x1] σ (fun v σ2 => WP m167 187 [.inr (.inl l0), .inl l1, .inl l2, l3] (v ++ []) σ2 Q) := (w_cV (k := 134) d167_184 (by decide +kernel) m134_at rfl rfl ⟨Nat.le_of_ble_eq_true rfl, Nat.le_of_ble_eq_true rfl, Nat.le_of_ble_eq_true rfl⟩ (by decide)).trans (g_and (isO_dec (by decide +kernel)))
theorem d167_187 : adec m167 187 = some (.aload_n 0, 1) := by decide +kernel
theorem s167_187 {l0 : Nat} {l1 : Int} {l2 : Int} {l3 : AV} : WP m167 187 [.inr (.inl l0), .inl l1, .inl l2, l3] [] σ Q = WP m167 188 [.inr (.inl l0), .inl l1, .inl l2, l3] [.inr (.inl l0)] σ Q := w_ld d167_187 rfl
theorem d167_188 : adec m167 188 = some (.aload_n 0, 1) := by decide +kernel
theorem s167_188 {l0 : Nat} {l1 : Int} {l2 : Int} {l3 : AV} {x0 : Nat} : WP m167 188 [.inr (.inl l0), .inl l1, .inl l2, l3] [.inr (.inl x0)] σ Q = WP m167 189 [.inr (.inl l0), .inl l1, .inl l2, l3] [.inr (.inl l0), .inr (.inl x0)] σ Q := w_ld d167_188 rfl
theorem d167_189 : adec m167 189 = some (.getfield 39, 3) := by decide +kernel
theorem s167_189 {l0 : Nat} {l1 : Int} {l2 : Int} {l3 : AV} {x0 : Nat} : WP m167 189 [.inr (.inl l0), .inl l1, .inl l2, l3] [.inr (.inl 130), .inr (.inl x0)] σ Q = WP m167 192 [.inr (.inl l0), .inl l1, .inl l2, l3] [.inr (.inl 139), .inr (.inl x0)] σ Q := (w_getR (c := 10) (n := 17) d167_189 (by decide +kernel) (by decide +kernel)).trans (g_and ⟨isO_dec (by decide +kernel), by decide +kernel⟩)
theorem d167_192 : adec m167 192 = some (.iconst (1), 1) := by decide +kernel
theorem s167_192 {l0 : Nat} {l1 : Int} {l2 : Int} {l3 : AV} {x0 : Nat} {x1 : Nat} : WP m167 192 [.inr (.inl l0), .inl l1, .inl l2, l3] [.inr (.inl x1), .inr (.inl x0)] σ Q = WP m167 193 [.inr (.inl l0), .inl l1, .inl l2, l3] [.inl (1), .inr (.inl x1), .inr (.inl x0)] σ Q := w_iconst d167_192 (by decide)
theorem d167_193 : adec m167 193 = some (.iaload, 1) := by decide +kernel
theorem s167_193 {l0 : Nat} {l1 : Int} {l2 : Int} {l3 : AV} {x0 : Nat} {x1 : Nat} {x2 : Int} : WP m167 193 [.inr (.inl l0), .inl l1, .inl l2, l3] [.inl x2, .inr (.inl x1), .inr (.inl x0)] σ Q = ((kdS x1 = 20 ∧ 0 ≤ x2 ∧ x2 < ln x1) ∧ WP m167 194 [.inr (.inl l0), .inl l1, .inl l2, l3] [.inl (σ x1 x2.toNat), .inr (.inl x0)] σ Q) := w_iald d167_193
theorem d167_194 : adec m167 194 = some (.invokevirtual 179, 3) := by decide +kernel
theorem s167_194 {l0 : Nat} {l1 : Int} {l2 : Int} {l3 : AV} {x1 : Int} : WP m167 194 [.inr (.inl l0), .inl l1, .inl l2, l3] [.inl x1, .inr (.inl 130)] σ Q = CA m151 [.inr (.inl 130), .inl x1] σ (fun v σ2 => WP m167 197 [.inr (.inl l0), .inl l1, .inl l2, l3] (v ++ []) σ2 Q) := (w_cV (k := 151) d167_194 (by decide +kernel) m151_at rfl rfl ⟨Nat.le_of_ble_eq_true rfl, Nat.le_of_ble_eq_true rfl, Nat.le_of_ble_eq_true rfl⟩ (by decide)).trans (g_and (isO_dec (by decide +kernel)))
theorem d167_197 : adec m167 197 = some (.aload_n 0, 1) := by decide +kernel
theorem s167_197 {l0 : Nat} {l1 : Int} {l2 : Int} {l3 : AV} : WP m167 197 [.inr (.inl l0), .inl l1, .inl l2, l3] [] σ Q = WP m167 198 [.inr (.inl l0), .inl l1, .inl l2, l3] [.inr (.inl l0)] σ Q := w_ld d167_197 rfl
theorem d167_198 : adec m167 198 = some (.aload_n 0, 1) := by decide +kernel
theorem s167_198 {l0 : Nat} {l1 : Int} {l2 : Int} {l3 : AV} {x0 : Nat} : WP m167 198 [.inr (.inl l0), .inl l1, .inl l2, l3] [.inr (.inl x0)] σ Q = WP m167 199 [.inr (.inl l0), .inl l1, .inl l2, l3] [.inr (.inl l0), .inr (.inl x0)] σ Q := w_ld d167_198 rfl
theorem d167_199 : adec m167 199 = some (.getfield 39, 3) := by decide +kernel
theorem s167_199 {l0 : Nat} {l1 : Int} {l2 : Int} {l3 : AV} {x0 : Nat} : WP m167 199 [.inr (.inl l0), .inl l1, .inl l2, l3] [.inr (.inl 130), .inr (.inl x0)] σ Q = WP m167 202 [.inr (.inl l0), .inl l1, .inl l2, l3] [.inr (.inl 139), .inr (.inl x0)] σ Q := (w_getR (c := 10) (n := 17) d167_199 (by decide +kernel) (by decide +kernel)).trans (g_and ⟨isO_dec (by decide +kernel), by decide +kernel⟩)
theorem d167_202 : adec m167 202 = some (.iconst (2), 1) := by decide +kernel
theorem s167_202 {l0 : Nat} {l1 : Int} {l2 : Int} {l3 : AV} {x0 : Nat} {x1 : Nat} : WP m167 202 [.inr (.inl l0), .inl l1, .inl l2, l3] [.inr (.inl x1), .inr (.inl x0)] σ Q = WP m167 203 [.inr (.inl l0), .inl l1, .inl l2, l3] [.inl (2), .inr (.inl x1), .inr (.inl x0)] σ Q := w_iconst d167_202 (by decide)
theorem d167_203 : adec m167 203 = some (.iaload, 1) := by decide +kernel
theorem s167_203 {l0 : Nat} {l1 : Int} {l2 : Int} {l3 : AV} {x0 : Nat} {x1 : Nat} {x2 : Int} : WP m167 203 [.inr (.inl l0), .inl l1, .inl l2, l3] [.inl x2, .inr (.inl x1), .inr (.inl x0)] σ Q = ((kdS x1 = 20 ∧ 0 ≤ x2 ∧ x2 < ln x1) ∧ WP m167 204 [.inr (.inl l0), .inl l1, .inl l2, l3] [.inl (σ x1 x2.toNat), .inr (.inl x0)] σ Q) := w_iald d167_203
theorem d167_204 : adec m167 204 = some (.invokevirtual 179, 3) := by decide +kernel
theorem s167_204 {l0 : Nat} {l1 : Int} {l2 : Int} {l3 : AV} {x1 : Int} : WP m167 204 [.inr (.inl l0), .inl l1, .inl l2, l3] [.inl x1, .inr (.inl 130)] σ Q = CA m151 [.inr (.inl 130), .inl x1] σ (fun v σ2 => WP m167 207 [.inr (.inl l0), .inl l1, .inl l2, l3] (v ++ []) σ2 Q) := (w_cV (k := 151) d167_204 (by decide +kernel) m151_at rfl rfl ⟨Nat.le_of_ble_eq_true rfl, Nat.le_of_ble_eq_true rfl, Nat.le_of_ble_eq_true rfl⟩ (by decide)).trans (g_and (isO_dec (by decide +kernel)))
theorem d167_207 : adec m167 207 = some (.goto (43), 3) := by decide +kernel
theorem s167_207 {l0 : Nat} {l1 : Int} {l2 : Int} {l3 : AV} : WP m167 207 [.inr (.inl l0), .inl l1, .inl l2, l3] [] σ Q = WP m167 250 [.inr (.inl l0), .inl l1, .inl l2, l3] [] σ Q := w_goto d167_207 (by decide)
theorem d167_210 : adec m167 210 = some (.aload_n 0, 1) := by decide +kernel
theorem s167_210 {l0 : Nat} {l1 : Int} {l2 : Int} {l3 : AV} : WP m167 210 [.inr (.inl l0), .inl l1, .inl l2, l3] [] σ Q = WP m167 211 [.inr (.inl l0), .inl l1, .inl l2, l3] [.inr (.inl l0)] σ Q := w_ld d167_210 rfl
theorem d167_211 : adec m167 211 = some (.iconst (0), 1) := by decide +kernel
theorem s167_211 {l0 : Nat} {l1 : Int} {l2 : Int} {l3 : AV} {x0 : Nat} : WP m167 211 [.inr (.inl l0), .inl l1, .inl l2, l3] [.inr (.inl x0)] σ Q = WP m167 212 [.inr (.inl l0), .inl l1, .inl l2, l3] [.inl (0), .inr (.inl x0)] σ Q := w_iconst d167_211 (by decide)
theorem d167_212 : adec m167 212 = some (.invokevirtual 168, 3) := by decide +kernel
theorem s167_212 {l0 : Nat} {l1 : Int} {l2 : Int} {l3 : AV} {x1 : Int} : WP m167 212 [.inr (.inl l0), .inl l1, .inl l2, l3] [.inl x1, .inr (.inl 130)] σ Q = CA m134 [.inr (.inl 130), .inl x1] σ (fun v σ2 => WP m167 215 [.inr (.inl l0), .inl l1, .inl l2, l3] (v ++ []) σ2 Q) := (w_cV (k := 134) d167_212 (by decide +kernel) m134_at rfl rfl ⟨Nat.le_of_ble_eq_true rfl, Nat.le_of_ble_eq_true rfl, Nat.le_of_ble_eq_true rfl⟩ (by decide)).trans (g_and (isO_dec (by decide +kernel)))
theorem d167_215 : adec m167 215 = some (.aload_n 0, 1) := by decide +kernel
theorem s167_215 {l0 : Nat} {l1 : Int} {l2 : Int} {l3 : AV} : WP m167 215 [.inr (.inl l0), .inl l1, .inl l2, l3] [] σ Q = WP m167 216 [.inr (.inl l0), .inl l1, .inl l2, l3] [.inr (.inl l0)] σ Q := w_ld d167_215 rfl
theorem d167_216 : adec m167 216 = some (.iconst (0), 1) := by decide +kernel
theorem s167_216 {l0 : Nat} {l1 : Int} {l2 : Int} {l3 : AV} {x0 : Nat} : WP m167 216 [.inr (.inl l0), .inl l1, .inl l2, l3] [.inr (.inl x0)] σ Q = WP m167 217 [.inr (.inl l0), .inl l1, .inl l2, l3] [.inl (0), .inr (.inl x0)] σ Q := w_iconst d167_216 (by decide)
theorem d167_217 : adec m167 217 = some (.invokevirtual 168, 3) := by decide +kernel
theorem s167_217 {l0 : Nat} {l1 : Int} {l2 : Int} {l3 : AV} {x1 : Int} : WP m167 217 [.inr (.inl l0), .inl l1, .inl l2, l3] [.inl x1, .inr (.inl 130)] σ Q = CA m134 [.inr (.inl 130), .inl x1] σ (fun v σ2 => WP m167 220 [.inr (.inl l0), .inl l1, .inl l2, l3] (v ++ []) σ2 Q) := (w_cV (k := 134) d167_217 (by decide +kernel) m134_at rfl rfl ⟨Nat.le_of_ble_eq_true rfl, Nat.le_of_ble_eq_true rfl, Nat.le_of_ble_eq_true rfl⟩ (by decide)).trans (g_and (isO_dec (by decide +kernel)))
theorem d167_220 : adec m167 220 = some (.aload_n 0, 1) := by decide +kernel
theorem s167_220 {l0 : Nat} {l1 : Int} {l2 : Int} {l3 : AV} : WP m167 220 [.inr (.inl l0), .inl l1, .inl l2, l3] [] σ Q = WP m167 221 [.inr (.inl l0), .inl l1, .inl l2, l3] [.inr (.inl l0)] σ Q := w_ld d167_220 rfl
theorem d167_221 : adec m167 221 = some (.aload_n 0, 1) := by decide +kernel
theorem s167_221 {l0 : Nat} {l1 : Int} {l2 : Int} {l3 : AV} {x0 : Nat} : WP m167 221 [.inr (.inl l0), .inl l1, .inl l2, l3] [.inr (.inl x0)] σ Q = WP m167 222 [.inr (.inl l0), .inl l1, .inl l2, l3] [.inr (.inl l0), .inr (.inl x0)] σ Q := w_ld d167_221 rfl
theorem d167_222 : adec m167 222 = some (.getfield 39, 3) := by decide +kernel
theorem s167_222 {l0 : Nat} {l1 : Int} {l2 : Int} {l3 : AV} {x0 : Nat} : WP m167 222 [.inr (.inl l0), .inl l1, .inl l2, l3] [.inr (.inl 130), .inr (.inl x0)] σ Q = WP m167 225 [.inr (.inl l0), .inl l1, .inl l2, l3] [.inr (.inl 139), .inr (.inl x0)] σ Q := (w_getR (c := 10) (n := 17) d167_222 (by decide +kernel) (by decide +kernel)).trans (g_and ⟨isO_dec (by decide +kernel), by decide +kernel⟩)
theorem d167_225 : adec m167 225 = some (.iconst (0), 1) := by decide +kernel
theorem s167_225 {l0 : Nat} {l1 : Int} {l2 : Int} {l3 : AV} {x0 : Nat} {x1 : Nat} : WP m167 225 [.inr (.inl l0), .inl l1, .inl l2, l3] [.inr (.inl x1), .inr (.inl x0)] σ Q = WP m167 226 [.inr (.inl l0), .inl l1, .inl l2, l3] [.inl (0), .inr (.inl x1), .inr (.inl x0)] σ Q := w_iconst d167_225 (by decide)
theorem d167_226 : adec m167 226 = some (.iaload, 1) := by decide +kernel
theorem s167_226 {l0 : Nat} {l1 : Int} {l2 : Int} {l3 : AV} {x0 : Nat} {x1 : Nat} {x2 : Int} : WP m167 226 [.inr (.inl l0), .inl l1, .inl l2, l3] [.inl x2, .inr (.inl x1), .inr (.inl x0)] σ Q = ((kdS x1 = 20 ∧ 0 ≤ x2 ∧ x2 < ln x1) ∧ WP m167 227 [.inr (.inl l0), .inl l1, .inl l2, l3] [.inl (σ x1 x2.toNat), .inr (.inl x0)] σ Q) := w_iald d167_226
theorem d167_227 : adec m167 227 = some (.invokevirtual 179, 3) := by decide +kernel
theorem s167_227 {l0 : Nat} {l1 : Int} {l2 : Int} {l3 : AV} {x1 : Int} : WP m167 227 [.inr (.inl l0), .inl l1, .inl l2, l3] [.inl x1, .inr (.inl 130)] σ Q = CA m151 [.inr (.inl 130), .inl x1] σ (fun v σ2 => WP m167 230 [.inr (.inl l0), .inl l1, .inl l2, l3] (v ++ []) σ2 Q) := (w_cV (k := 151) d167_227 (by decide +kernel) m151_at rfl rfl ⟨Nat.le_of_ble_eq_true rfl, Nat.le_of_ble_eq_true rfl, Nat.le_of_ble_eq_true rfl⟩ (by decide)).trans (g_and (isO_dec (by decide +kernel)))
theorem d167_230 : adec m167 230 = some (.aload_n 0, 1) := by decide +kernel
theorem s167_230 {l0 : Nat} {l1 : Int} {l2 : Int} {l3 : AV} : WP m167 230 [.inr (.inl l0), .inl l1, .inl l2, l3] [] σ Q = WP m167 231 [.inr (.inl l0), .inl l1, .inl l2, l3] [.inr (.inl l0)] σ Q := w_ld d167_230 rfl
theorem d167_231 : adec m167 231 = some (.aload_n 0, 1) := by decide +kernel
theorem s167_231 {l0 : Nat} {l1 : Int} {l2 : Int} {l3 : AV} {x0 : Nat} : WP m167 231 [.inr (.inl l0), .inl l1, .inl l2, l3] [.inr (.inl x0)] σ Q = WP m167 232 [.inr (.inl l0), .inl l1, .inl l2, l3] [.inr (.inl l0), .inr (.inl x0)] σ Q := w_ld d167_231 rfl
theorem d167_232 : adec m167 232 = some (.getfield 39, 3) := by decide +kernel
theorem s167_232 {l0 : Nat} {l1 : Int} {l2 : Int} {l3 : AV} {x0 : Nat} : WP m167 232 [.inr (.inl l0), .inl l1, .inl l2, l3] [.inr (.inl 130), .inr (.inl x0)] σ Q = WP m167 235 [.inr (.inl l0), .inl l1, .inl l2, l3] [.inr (.inl 139), .inr (.inl x0)] σ Q := (w_getR (c := 10) (n := 17) d167_232 (by decide +kernel) (by decide +kernel)).trans (g_and ⟨isO_dec (by decide +kernel), by decide +kernel⟩)
theorem d167_235 : adec m167 235 = some (.iconst (2), 1) := by decide +kernel
theorem s167_235 {l0 : Nat} {l1 : Int} {l2 : Int} {l3 : AV} {x0 : Nat} {x1 : Nat} : WP m167 235 [.inr (.inl l0), .inl l1, .inl l2, l3] [.inr (.inl x1), .inr (.inl x0)] σ Q = WP m167 236 [.inr (.inl l0), .inl l1, .inl l2, l3] [.inl (2), .inr (.inl x1), .inr (.inl x0)] σ Q := w_iconst d167_235 (by decide)
theorem d167_236 : adec m167 236 = some (.iaload, 1) := by decide +kernel
theorem s167_236 {l0 : Nat} {l1 : Int} {l2 : Int} {l3 : AV} {x0 : Nat} {x1 : Nat} {x2 : Int} : WP m167 236 [.inr (.inl l0), .inl l1, .inl l2, l3] [.inl x2, .inr (.inl x1), .inr (.inl x0)] σ Q = ((kdS x1 = 20 ∧ 0 ≤ x2 ∧ x2 < ln x1) ∧ WP m167 237 [.inr (.inl l0), .inl l1, .inl l2, l3] [.inl (σ x1 x2.toNat), .inr (.inl x0)] σ Q) := w_iald d167_236
theorem d167_237 : adec m167 237 = some (.invokevirtual 179, 3) := by decide +kernel
theorem s167_237 {l0 : Nat} {l1 : Int} {l2 : Int} {l3 : AV} {x1 : Int} : WP m167 237 [.inr (.inl l0), .inl l1, .inl l2, l3] [.inl x1, .inr (.inl 130)] σ Q = CA m151 [.inr (.inl 130), .inl x1] σ (fun v σ2 => WP m167 240 [.inr (.inl l0), .inl l1, .inl l2, l3] (v ++ []) σ2 Q) := (w_cV (k := 151) d167_237 (by decide +kernel) m151_at rfl rfl ⟨Nat.le_of_ble_eq_true rfl, Nat.le_of_ble_eq_true rfl, Nat.le_of_ble_eq_true rfl⟩ (by decide)).trans (g_and (isO_dec (by decide +kernel)))
theorem d167_240 : adec m167 240 = some (.aload_n 0, 1) := by decide +kernel
theorem s167_240 {l0 : Nat} {l1 : Int} {l2 : Int} {l3 : AV} : WP m167 240 [.inr (.inl l0), .inl l1, .inl l2, l3] [] σ Q = WP m167 241 [.inr (.inl l0), .inl l1, .inl l2, l3] [.inr (.inl l0)] σ Q := w_ld d167_240 rfl
theorem d167_241 : adec m167 241 = some (.aload_n 0, 1) := by decide +kernel
theorem s167_241 {l0 : Nat} {l1 : Int} {l2 : Int} {l3 : AV} {x0 : Nat} : WP m167 241 [.inr (.inl l0), .inl l1, .inl l2, l3] [.inr (.inl x0)] σ Q = WP m167 242 [.inr (.inl l0), .inl l1, .inl l2, l3] [.inr (.inl l0), .inr (.inl x0)] σ Q := w_ld d167_241 rfl
theorem d167_242 : adec m167 242 = some (.getfield 39, 3) := by decide +kernel
theorem s167_242 {l0 : Nat} {l1 : Int} {l2 : Int} {l3 : AV} {x0 : Nat} : WP m167 242 [.inr (.inl l0), .inl l1, .inl l2, l3] [.inr (.inl 130), .inr (.inl x0)] σ Q = WP m167 245 [.inr (.inl l0), .inl l1, .inl l2, l3] [.inr (.inl 139), .inr (.inl x0)] σ Q := (w_getR (c := 10) (n := 17) d167_242 (by decide +kernel) (by decide +kernel)).trans (g_and ⟨isO_dec (by decide +kernel), by decide +kernel⟩)
theorem d167_245 : adec m167 245 = some (.iconst (1), 1) := by decide +kernel
theorem s167_245 {l0 : Nat} {l1 : Int} {l2 : Int} {l3 : AV} {x0 : Nat} {x1 : Nat} : WP m167 245 [.inr (.inl l0), .inl l1, .inl l2, l3] [.inr (.inl x1), .inr (.inl x0)] σ Q = WP m167 246 [.inr (.inl l0), .inl l1, .inl l2, l3] [.inl (1), .inr (.inl x1), .inr (.inl x0)] σ Q := w_iconst d167_245 (by decide)
theorem d167_246 : adec m167 246 = some (.iaload, 1) := by decide +kernel
theorem s167_246 {l0 : Nat} {l1 : Int} {l2 : Int} {l3 : AV} {x0 : Nat} {x1 : Nat} {x2 : Int} : WP m167 246 [.inr (.inl l0), .inl l1, .inl l2, l3] [.inl x2, .inr (.inl x1), .inr (.inl x0)] σ Q = ((kdS x1 = 20 ∧ 0 ≤ x2 ∧ x2 < ln x1) ∧ WP m167 247 [.inr (.inl l0), .inl l1, .inl l2, l3] [.inl (σ x1 x2.toNat), .inr (.inl x0)] σ Q) := w_iald d167_246
theorem d167_247 : adec m167 247 = some (.invokevirtual 179, 3) := by decide +kernel
theorem s167_247 {l0 : Nat} {l1 : Int} {l2 : Int} {l3 : AV} {x1 : Int} : WP m167 247 [.inr (.inl l0), .inl l1, .inl l2, l3] [.inl x1, .inr (.inl 130)] σ Q = CA m151 [.inr (.inl 130), .inl x1] σ (fun v σ2 => WP m167 250 [.inr (.inl l0), .inl l1, .inl l2, l3] (v ++ []) σ2 Q) := (w_cV (k := 151) d167_247 (by decide +kernel) m151_at rfl rfl ⟨Nat.le_of_ble_eq_true rfl, Nat.le_of_ble_eq_true rfl, Nat.le_of_ble_eq_true rfl⟩ (by decide)).trans (g_and (isO_dec (by decide +kernel)))
theorem d167_250 : adec m167 250 = some (.aload_n 0, 1) := by decide +kernel
theorem s167_250 {l0 : Nat} {l1 : Int} {l2 : Int} {l3 : AV} : WP m167 250 [.inr (.inl l0), .inl l1, .inl l2, l3] [] σ Q = WP m167 251 [.inr (.inl l0), .inl l1, .inl l2, l3] [.inr (.inl l0)] σ Q := w_ld d167_250 rfl
theorem d167_251 : adec m167 251 = some (.getfield 39, 3) := by decide +kernel
theorem s167_251 {l0 : Nat} {l1 : Int} {l2 : Int} {l3 : AV} : WP m167 251 [.inr (.inl l0), .inl l1, .inl l2, l3] [.inr (.inl 130)] σ Q = WP m167 254 [.inr (.inl l0), .inl l1, .inl l2, l3] [.inr (.inl 139)] σ Q := (w_getR (c := 10) (n := 17) d167_251 (by decide +kernel) (by decide +kernel)).trans (g_and ⟨isO_dec (by decide +kernel), by decide +kernel⟩)
theorem d167_254 : adec m167 254 = some (.iconst (3), 1) := by decide +kernel
theorem s167_254 {l0 : Nat} {l1 : Int} {l2 : Int} {l3 : AV} {x0 : Nat} : WP m167 254 [.inr (.inl l0), .inl l1, .inl l2, l3] [.inr (.inl x0)] σ Q = WP m167 255 [.inr (.inl l0), .inl l1, .inl l2, l3] [.inl (3), .inr (.inl x0)] σ Q := w_iconst d167_254 (by decide)
theorem d167_255 : adec m167 255 = some (.iaload, 1) := by decide +kernel
theorem s167_255 {l0 : Nat} {l1 : Int} {l2 : Int} {l3 : AV} {x0 : Nat} {x1 : Int} : WP m167 255 [.inr (.inl l0), .inl l1, .inl l2, l3] [.inl x1, .inr (.inl x0)] σ Q = ((kdS x0 = 20 ∧ 0 ≤ x1 ∧ x1 < ln x0) ∧ WP m167 256 [.inr (.inl l0), .inl l1, .inl l2, l3] [.inl (σ x0 x1.toNat)] σ Q) := w_iald d167_255
theorem d167_256 : adec m167 256 = some (.istore_n 3, 1) := by decide +kernel
theorem s167_256 {l0 : Nat} {l1 : Int} {l2 : Int} {l3 : AV} {x0 : Int} : WP m167 256 [.inr (.inl l0), .inl l1, .inl l2, l3] [.inl x0] σ Q = WP m167 257 [.inr (.inl l0), .inl l1, .inl l2, .inl x0] [] σ Q := w_st1 (j := 3) d167_256 rfl (Nat.le_of_ble_eq_true rfl) rfl
theorem d167_257 : adec m167 257 = some (.iload_n 3, 1) := by decide +kernel
theorem s167_257 {l0 : Nat} {l1 : Int} {l2 : Int} {l3 : Int} : WP m167 257 [.inr (.inl l0), .inl l1, .inl l2, .inl l3] [] σ Q = WP m167 258 [.inr (.inl l0), .inl l1, .inl l2, .inl l3] [.inl l3] σ Q := w_ld d167_257 rfl
theorem d167_258 : adec m167 258 = some (.aload_n 0, 1) := by decide +kernel
theorem s167_258 {l0 : Nat} {l1 : Int} {l2 : Int} {l3 : Int} {x0 : Int} : WP m167 258 [.inr (.inl l0), .inl l1, .inl l2, .inl l3] [.inl x0] σ Q = WP m167 259 [.inr (.inl l0), .inl l1, .inl l2, .inl l3] [.inr (.inl l0), .inl x0] σ Q := w_ld d167_258 rfl
theorem d167_259 : adec m167 259 = some (.getfield 104, 3) := by decide +kernel
theorem s167_259 {l0 : Nat} {l1 : Int} {l2 : Int} {l3 : Int} {x0 : Int} : WP m167 259 [.inr (.inl l0), .inl l1, .inl l2, .inl l3] [.inr (.inl 130), .inl x0] σ Q = WP m167 262 [.inr (.inl l0), .inl l1, .inl l2, .inl l3] [.inl (σ 130 7), .inl x0] σ Q := (w_getI (c := 10) (n := 7) d167_259 (by decide +kernel) (by decide +kernel)).trans (g_and (isO_dec (by decide +kernel)))
theorem d167_262 : adec m167 262 = some (.if_icmp .ge (19), 3) := by decide +kernel
theorem s167_262 {l0 : Nat} {l1 : Int} {l2 : Int} {l3 : Int} {x0 : Int} {x1 : Int} : WP m167 262 [.inr (.inl l0), .inl l1, .inl l2, .inl l3] [.inl x1, .inl x0] σ Q = (if x1 ≤ x0 then WP m167 281 [.inr (.inl l0), .inl l1, .inl l2, .inl l3] [] σ Q else WP m167 265 [.inr (.inl l0), .inl l1, .inl l2, .inl l3] [] σ Q) := w_icge d167_262 (by decide)
theorem d167_265 : adec m167 265 = some (.aload_n 0, 1) := by decide +kernel
theorem s167_265 {l0 : Nat} {l1 : Int} {l2 : Int} {l3 : Int} : WP m167 265 [.inr (.inl l0), .inl l1, .inl l2, .inl l3] [] σ Q = WP m167 266 [.inr (.inl l0), .inl l1, .inl l2, .inl l3] [.inr (.inl l0)] σ Q := w_ld d167_265 rfl
theorem d167_266 : adec m167 266 = some (.aload_n 0, 1) := by decide +kernel
theorem s167_266 {l0 : Nat} {l1 : Int} {l2 : Int} {l3 : Int} {x0 : Nat} : WP m167 266 [.inr (.inl l0), .inl l1, .inl l2, .inl l3] [.inr (.inl x0)] σ Q = WP m167 267 [.inr (.inl l0), .inl l1, .inl l2, .inl l3] [.inr (.inl l0), .inr (.inl x0)] σ Q := w_ld d167_266 rfl
theorem d167_267 : adec m167 267 = some (.getfield 24, 3) := by decide +kernel
theorem s167_267 {l0 : Nat} {l1 : Int} {l2 : Int} {l3 : Int} {x0 : Nat} : WP m167 267 [.inr (.inl l0), .inl l1, .inl l2, .inl l3] [.inr (.inl 130), .inr (.inl x0)] σ Q = WP m167 270 [.inr (.inl l0), .inl l1, .inl l2, .inl l3] [.inr (.inl 134), .inr (.inl x0)] σ Q := (w_getR (c := 10) (n := 6) d167_267 (by decide +kernel) (by decide +kernel)).trans (g_and ⟨isO_dec (by decide +kernel), by decide +kernel⟩)
theorem d167_270 : adec m167 270 = some (.iload_n 3, 1) := by decide +kernel
theorem s167_270 {l0 : Nat} {l1 : Int} {l2 : Int} {l3 : Int} {x0 : Nat} {x1 : Nat} : WP m167 270 [.inr (.inl l0), .inl l1, .inl l2, .inl l3] [.inr (.inl x1), .inr (.inl x0)] σ Q = WP m167 271 [.inr (.inl l0), .inl l1, .inl l2, .inl l3] [.inl l3, .inr (.inl x1), .inr (.inl x0)] σ Q := w_ld d167_270 rfl
theorem d167_271 : adec m167 271 = some (.iaload, 1) := by decide +kernel
theorem s167_271 {l0 : Nat} {l1 : Int} {l2 : Int} {l3 : Int} {x0 : Nat} {x1 : Nat} {x2 : Int} : WP m167 271 [.inr (.inl l0), .inl l1, .inl l2, .inl l3] [.inl x2, .inr (.inl x1), .inr (.inl x0)] σ Q = ((kdS x1 = 20 ∧ 0 ≤ x2 ∧ x2 < ln x1) ∧ WP m167 272 [.inr (.inl l0), .inl l1, .inl l2, .inl l3] [.inl (σ x1 x2.toNat), .inr (.inl x0)] σ Q) := w_iald d167_271
theorem d167_272 : adec m167 272 = some (.invokevirtual 168, 3) := by decide +kernel
theorem s167_272 {l0 : Nat} {l1 : Int} {l2 : Int} {l3 : Int} {x1 : Int} : WP m167 272 [.inr (.inl l0), .inl l1, .inl l2, .inl l3] [.inl x1, .inr (.inl 130)] σ Q = CA m134 [.inr (.inl 130), .inl x1] σ (fun v σ2 => WP m167 275 [.inr (.inl l0), .inl l1, .inl l2, .inl l3] (v ++ []) σ2 Q) := (w_cV (k := 134) d167_272 (by decide +kernel) m134_at rfl rfl ⟨Nat.le_of_ble_eq_true rfl, Nat.le_of_ble_eq_true rfl, Nat.le_of_ble_eq_true rfl⟩ (by decide)).trans (g_and (isO_dec (by decide +kernel)))
theorem d167_275 : adec m167 275 = some (.iinc 3 (1), 3) := by decide +kernel
theorem s167_275 {l0 : Nat} {l1 : Int} {l2 : Int} {l3 : Int} : WP m167 275 [.inr (.inl l0), .inl l1, .inl l2, .inl l3] [] σ Q = (inI (l3 + (1)) ∧ WP m167 278 [.inr (.inl l0), .inl l1, .inl l2, .inl (l3 + (1))] [] σ Q) := w_iinc d167_275 rfl rfl
theorem d167_278 : adec m167 278 = some (.goto (-21), 3) := by decide +kernel
theorem s167_278 {l0 : Nat} {l1 : Int} {l2 : Int} {l3 : Int} : WP m167 278 [.inr (.inl l0), .inl l1, .inl l2, .inl l3] [] σ Q = WP m167 257 [.inr (.inl l0), .inl l1, .inl l2, .inl l3] [] σ Q := w_goto d167_278 (by decide)
theorem d167_281 : adec m167 281 = some (.aload_n 0, 1) := by decide +kernel
theorem s167_281 {l0 : Nat} {l1 : Int} {l2 : Int} {l3 : Int} : WP m167 281 [.inr (.inl l0), .inl l1, .inl l2, .inl l3] [] σ Q = WP m167 282 [.inr (.inl l0), .inl l1, .inl l2, .inl l3] [.inr (.inl l0)] σ Q := w_ld d167_281 rfl
theorem d167_282 : adec m167 282 = some (.invokevirtual 192, 3) := by decide +kernel
theorem s167_282 {l0 : Nat} {l1 : Int} {l2 : Int} {l3 : Int} : WP m167 282 [.inr (.inl l0), .inl l1, .inl l2, .inl l3] [.inr (.inl 130)] σ Q = CA m139 [.inr (.inl 130)] σ (fun v σ2 => WP m167 285 [.inr (.inl l0), .inl l1, .inl l2, .inl l3] (v ++ []) σ2 Q) := (w_cV (k := 139) d167_282 (by decide +kernel) m139_at rfl rfl ⟨Nat.le_of_ble_eq_true rfl, Nat.le_of_ble_eq_true rfl, Nat.le_of_ble_eq_true rfl⟩ (by decide)).trans (g_and (isO_dec (by decide +kernel)))
theorem d167_285 : adec m167 285 = some (.return_, 1) := by decide +kernel
theorem s167_285 {l0 : Nat} {l1 : Int} {l2 : Int} {l3 : Int} : WP m167 285 [.inr (.inl l0), .inl l1, .inl l2, .inl l3] [] σ Q = Q [] σ := w_rv d167_285 rfl
theorem e167 {p0 : Nat} : CA m167 [.inr (.inl p0)] σ Q = WP m167 0 [.inr (.inl p0), vU, vU, vU] [] σ Q := rfl
-- BinderPressModel.worksPlainly(I)I
theorem d168_0 : adec m168 0 = some (.iconst (0), 1) := by decide +kernel
theorem s168_0 {l0 : Nat} {l1 : Int} {l2 : AV} : WP m168 0 [.inr (.inl l0), .inl l1, l2] [] σ Q = WP m168 1 [.inr (.inl l0), .inl l1, l2] [.inl (0)] σ Q := w_iconst d168_0 (by decide)
theorem d168_1 : adec m168 1 = some (.istore_n 2, 1) := by decide +kernel
theorem s168_1 {l0 : Nat} {l1 : Int} {l2 : AV} {x0 : Int} : WP m168 1 [.inr (.inl l0), .inl l1, l2] [.inl x0] σ Q = WP m168 2 [.inr (.inl l0), .inl l1, .inl x0] [] σ Q := w_st1 (j := 2) d168_1 rfl (Nat.le_of_ble_eq_true rfl) rfl
theorem d168_2 : adec m168 2 = some (.aload_n 0, 1) := by decide +kernel
theorem s168_2 {l0 : Nat} {l1 : Int} {l2 : Int} : WP m168 2 [.inr (.inl l0), .inl l1, .inl l2] [] σ Q = WP m168 3 [.inr (.inl l0), .inl l1, .inl l2] [.inr (.inl l0)] σ Q := w_ld d168_2 rfl
theorem d168_3 : adec m168 3 = some (.iconst (0), 1) := by decide +kernel
theorem s168_3 {l0 : Nat} {l1 : Int} {l2 : Int} {x0 : Nat} : WP m168 3 [.inr (.inl l0), .inl l1, .inl l2] [.inr (.inl x0)] σ Q = WP m168 4 [.inr (.inl l0), .inl l1, .inl l2] [.inl (0), .inr (.inl x0)] σ Q := w_iconst d168_3 (by decide)
theorem d168_4 : adec m168 4 = some (.putfield 229, 3) := by decide +kernel
theorem s168_4 {l0 : Nat} {l1 : Int} {l2 : Int} {x1 : Int} : WP m168 4 [.inr (.inl l0), .inl l1, .inl l2] [.inl x1, .inr (.inl 130)] σ Q = ((x1 = 0 ∨ x1 = 1) ∧ WP m168 7 [.inr (.inl l0), .inl l1, .inl l2] [] (aup σ 130 18 x1) Q) := (w_putZ (c := 10) (n := 18) d168_4 (by decide +kernel) (by decide +kernel) (by decide +kernel)).trans (g_and2 (isO_dec (by decide +kernel)))
theorem d168_7 : adec m168 7 = some (.aload_n 0, 1) := by decide +kernel
theorem s168_7 {l0 : Nat} {l1 : Int} {l2 : Int} : WP m168 7 [.inr (.inl l0), .inl l1, .inl l2] [] σ Q = WP m168 8 [.inr (.inl l0), .inl l1, .inl l2] [.inr (.inl l0)] σ Q := w_ld d168_7 rfl
theorem d168_8 : adec m168 8 = some (.aload_n 0, 1) := by decide +kernel
theorem s168_8 {l0 : Nat} {l1 : Int} {l2 : Int} {x0 : Nat} : WP m168 8 [.inr (.inl l0), .inl l1, .inl l2] [.inr (.inl x0)] σ Q = WP m168 9 [.inr (.inl l0), .inl l1, .inl l2] [.inr (.inl l0), .inr (.inl x0)] σ Q := w_ld d168_8 rfl
theorem d168_9 : adec m168 9 = some (.invokevirtual 233, 3) := by decide +kernel
theorem s168_9 {l0 : Nat} {l1 : Int} {l2 : Int} {x0 : Nat} : WP m168 9 [.inr (.inl l0), .inl l1, .inl l2] [.inr (.inl 130), .inr (.inl x0)] σ Q = CA m166 [.inr (.inl 130)] σ (fun v σ2 => WP m168 12 [.inr (.inl l0), .inl l1, .inl l2] (v ++ [.inr (.inl x0)]) σ2 Q) := (w_cV (k := 166) d168_9 (by decide +kernel) m166_at rfl rfl ⟨Nat.le_of_ble_eq_true rfl, Nat.le_of_ble_eq_true rfl, Nat.le_of_ble_eq_true rfl⟩ (by decide)).trans (g_and (isO_dec (by decide +kernel)))
theorem d168_12 : adec m168 12 = some (.putfield 236, 3) := by decide +kernel
theorem s168_12 {l0 : Nat} {l1 : Int} {l2 : Int} {x1 : Int} : WP m168 12 [.inr (.inl l0), .inl l1, .inl l2] [.inl x1, .inr (.inl 130)] σ Q = ((x1 = 0 ∨ x1 = 1) ∧ WP m168 15 [.inr (.inl l0), .inl l1, .inl l2] [] (aup σ 130 19 x1) Q) := (w_putZ (c := 10) (n := 19) d168_12 (by decide +kernel) (by decide +kernel) (by decide +kernel)).trans (g_and2 (isO_dec (by decide +kernel)))
theorem d168_15 : adec m168 15 = some (.aload_n 0, 1) := by decide +kernel
theorem s168_15 {l0 : Nat} {l1 : Int} {l2 : Int} : WP m168 15 [.inr (.inl l0), .inl l1, .inl l2] [] σ Q = WP m168 16 [.inr (.inl l0), .inl l1, .inl l2] [.inr (.inl l0)] σ Q := w_ld d168_15 rfl
theorem d168_16 : adec m168 16 = some (.getfield 236, 3) := by decide +kernel
theorem s168_16 {l0 : Nat} {l1 : Int} {l2 : Int} : WP m168 16 [.inr (.inl l0), .inl l1, .inl l2] [.inr (.inl 130)] σ Q = WP m168 19 [.inr (.inl l0), .inl l1, .inl l2] [.inl (σ 130 19)] σ Q := (w_getI (c := 10) (n := 19) d168_16 (by decide +kernel) (by decide +kernel)).trans (g_and (isO_dec (by decide +kernel)))
theorem d168_19 : adec m168 19 = some (.ifCond .eq (67), 3) := by decide +kernel
theorem s168_19 {l0 : Nat} {l1 : Int} {l2 : Int} {x0 : Int} : WP m168 19 [.inr (.inl l0), .inl l1, .inl l2] [.inl x0] σ Q = (if x0 = 0 then WP m168 86 [.inr (.inl l0), .inl l1, .inl l2] [] σ Q else WP m168 22 [.inr (.inl l0), .inl l1, .inl l2] [] σ Q) := w_ifeq d168_19 (by decide)
theorem d168_22 : adec m168 22 = some (.iload_n 2, 1) := by decide +kernel
theorem s168_22 {l0 : Nat} {l1 : Int} {l2 : Int} : WP m168 22 [.inr (.inl l0), .inl l1, .inl l2] [] σ Q = WP m168 23 [.inr (.inl l0), .inl l1, .inl l2] [.inl l2] σ Q := w_ld d168_22 rfl
theorem d168_23 : adec m168 23 = some (.iload_n 1, 1) := by decide +kernel
theorem s168_23 {l0 : Nat} {l1 : Int} {l2 : Int} {x0 : Int} : WP m168 23 [.inr (.inl l0), .inl l1, .inl l2] [.inl x0] σ Q = WP m168 24 [.inr (.inl l0), .inl l1, .inl l2] [.inl l1, .inl x0] σ Q := w_ld d168_23 rfl
theorem d168_24 : adec m168 24 = some (.if_icmp .ge (62), 3) := by decide +kernel
theorem s168_24 {l0 : Nat} {l1 : Int} {l2 : Int} {x0 : Int} {x1 : Int} : WP m168 24 [.inr (.inl l0), .inl l1, .inl l2] [.inl x1, .inl x0] σ Q = (if x1 ≤ x0 then WP m168 86 [.inr (.inl l0), .inl l1, .inl l2] [] σ Q else WP m168 27 [.inr (.inl l0), .inl l1, .inl l2] [] σ Q) := w_icge d168_24 (by decide)
theorem d168_27 : adec m168 27 = some (.aload_n 0, 1) := by decide +kernel
theorem s168_27 {l0 : Nat} {l1 : Int} {l2 : Int} : WP m168 27 [.inr (.inl l0), .inl l1, .inl l2] [] σ Q = WP m168 28 [.inr (.inl l0), .inl l1, .inl l2] [.inr (.inl l0)] σ Q := w_ld d168_27 rfl
theorem d168_28 : adec m168 28 = some (.getfield 229, 3) := by decide +kernel
theorem s168_28 {l0 : Nat} {l1 : Int} {l2 : Int} : WP m168 28 [.inr (.inl l0), .inl l1, .inl l2] [.inr (.inl 130)] σ Q = WP m168 31 [.inr (.inl l0), .inl l1, .inl l2] [.inl (σ 130 18)] σ Q := (w_getI (c := 10) (n := 18) d168_28 (by decide +kernel) (by decide +kernel)).trans (g_and (isO_dec (by decide +kernel)))
theorem d168_31 : adec m168 31 = some (.ifCond .ne (55), 3) := by decide +kernel
theorem s168_31 {l0 : Nat} {l1 : Int} {l2 : Int} {x0 : Int} : WP m168 31 [.inr (.inl l0), .inl l1, .inl l2] [.inl x0] σ Q = (if x0 = 0 then WP m168 34 [.inr (.inl l0), .inl l1, .inl l2] [] σ Q else WP m168 86 [.inr (.inl l0), .inl l1, .inl l2] [] σ Q) := w_ifne d168_31 (by decide)
theorem d168_34 : adec m168 34 = some (.aload_n 0, 1) := by decide +kernel
theorem s168_34 {l0 : Nat} {l1 : Int} {l2 : Int} : WP m168 34 [.inr (.inl l0), .inl l1, .inl l2] [] σ Q = WP m168 35 [.inr (.inl l0), .inl l1, .inl l2] [.inr (.inl l0)] σ Q := w_ld d168_34 rfl
theorem d168_35 : adec m168 35 = some (.invokevirtual 239, 3) := by decide +kernel
theorem s168_35 {l0 : Nat} {l1 : Int} {l2 : Int} : WP m168 35 [.inr (.inl l0), .inl l1, .inl l2] [.inr (.inl 130)] σ Q = CA m167 [.inr (.inl 130)] σ (fun v σ2 => WP m168 38 [.inr (.inl l0), .inl l1, .inl l2] (v ++ []) σ2 Q) := (w_cV (k := 167) d168_35 (by decide +kernel) m167_at rfl rfl ⟨Nat.le_of_ble_eq_true rfl, Nat.le_of_ble_eq_true rfl, Nat.le_of_ble_eq_true rfl⟩ (by decide)).trans (g_and (isO_dec (by decide +kernel)))
theorem d168_38 : adec m168 38 = some (.iinc 2 (1), 3) := by decide +kernel
theorem s168_38 {l0 : Nat} {l1 : Int} {l2 : Int} : WP m168 38 [.inr (.inl l0), .inl l1, .inl l2] [] σ Q = (inI (l2 + (1)) ∧ WP m168 41 [.inr (.inl l0), .inl l1, .inl (l2 + (1))] [] σ Q) := w_iinc d168_38 rfl rfl
theorem d168_41 : adec m168 41 = some (.aload_n 0, 1) := by decide +kernel
theorem s168_41 {l0 : Nat} {l1 : Int} {l2 : Int} : WP m168 41 [.inr (.inl l0), .inl l1, .inl l2] [] σ Q = WP m168 42 [.inr (.inl l0), .inl l1, .inl l2] [.inr (.inl l0)] σ Q := w_ld d168_41 rfl
theorem d168_42 : adec m168 42 = some (.aload_n 0, 1) := by decide +kernel
theorem s168_42 {l0 : Nat} {l1 : Int} {l2 : Int} {x0 : Nat} : WP m168 42 [.inr (.inl l0), .inl l1, .inl l2] [.inr (.inl x0)] σ Q = WP m168 43 [.inr (.inl l0), .inl l1, .inl l2] [.inr (.inl l0), .inr (.inl x0)] σ Q := w_ld d168_42 rfl
theorem d168_43 : adec m168 43 = some (.getfield 104, 3) := by decide +kernel
theorem s168_43 {l0 : Nat} {l1 : Int} {l2 : Int} {x0 : Nat} : WP m168 43 [.inr (.inl l0), .inl l1, .inl l2] [.inr (.inl 130), .inr (.inl x0)] σ Q = WP m168 46 [.inr (.inl l0), .inl l1, .inl l2] [.inl (σ 130 7), .inr (.inl x0)] σ Q := (w_getI (c := 10) (n := 7) d168_43 (by decide +kernel) (by decide +kernel)).trans (g_and (isO_dec (by decide +kernel)))
theorem d168_46 : adec m168 46 = some (.sipush (300), 3) := by decide +kernel
theorem s168_46 {l0 : Nat} {l1 : Int} {l2 : Int} {x0 : Nat} {x1 : Int} : WP m168 46 [.inr (.inl l0), .inl l1, .inl l2] [.inl x1, .inr (.inl x0)] σ Q = WP m168 49 [.inr (.inl l0), .inl l1, .inl l2] [.inl (300), .inl x1, .inr (.inl x0)] σ Q := w_sipush d168_46 (by decide)
theorem d168_49 : adec m168 49 = some (.if_icmp .le (7), 3) := by decide +kernel
theorem s168_49 {l0 : Nat} {l1 : Int} {l2 : Int} {x0 : Nat} {x1 : Int} {x2 : Int} : WP m168 49 [.inr (.inl l0), .inl l1, .inl l2] [.inl x2, .inl x1, .inr (.inl x0)] σ Q = (if x1 ≤ x2 then WP m168 56 [.inr (.inl l0), .inl l1, .inl l2] [.inr (.inl x0)] σ Q else WP m168 52 [.inr (.inl l0), .inl l1, .inl l2] [.inr (.inl x0)] σ Q) := w_icle d168_49 (by decide)
theorem d168_52 : adec m168 52 = some (.iconst (1), 1) := by decide +kernel
theorem s168_52 {l0 : Nat} {l1 : Int} {l2 : Int} {x0 : Nat} : WP m168 52 [.inr (.inl l0), .inl l1, .inl l2] [.inr (.inl x0)] σ Q = WP m168 53 [.inr (.inl l0), .inl l1, .inl l2] [.inl (1), .inr (.inl x0)] σ Q := w_iconst d168_52 (by decide)
theorem d168_53 : adec m168 53 = some (.goto (4), 3) := by decide +kernel
theorem s168_53 {l0 : Nat} {l1 : Int} {l2 : Int} {x0 : Nat} {x1 : Int} : WP m168 53 [.inr (.inl l0), .inl l1, .inl l2] [.inl x1, .inr (.inl x0)] σ Q = WP m168 57 [.inr (.inl l0), .inl l1, .inl l2] [.inl x1, .inr (.inl x0)] σ Q := w_goto d168_53 (by decide)
theorem d168_56 : adec m168 56 = some (.iconst (0), 1) := by decide +kernel
theorem s168_56 {l0 : Nat} {l1 : Int} {l2 : Int} {x0 : Nat} : WP m168 56 [.inr (.inl l0), .inl l1, .inl l2] [.inr (.inl x0)] σ Q = WP m168 57 [.inr (.inl l0), .inl l1, .inl l2] [.inl (0), .inr (.inl x0)] σ Q := w_iconst d168_56 (by decide)
theorem d168_57 : adec m168 57 = some (.putfield 229, 3) := by decide +kernel
theorem s168_57 {l0 : Nat} {l1 : Int} {l2 : Int} {x1 : Int} : WP m168 57 [.inr (.inl l0), .inl l1, .inl l2] [.inl x1, .inr (.inl 130)] σ Q = ((x1 = 0 ∨ x1 = 1) ∧ WP m168 60 [.inr (.inl l0), .inl l1, .inl l2] [] (aup σ 130 18 x1) Q) := (w_putZ (c := 10) (n := 18) d168_57 (by decide +kernel) (by decide +kernel) (by decide +kernel)).trans (g_and2 (isO_dec (by decide +kernel)))
theorem d168_60 : adec m168 60 = some (.aload_n 0, 1) := by decide +kernel
theorem s168_60 {l0 : Nat} {l1 : Int} {l2 : Int} : WP m168 60 [.inr (.inl l0), .inl l1, .inl l2] [] σ Q = WP m168 61 [.inr (.inl l0), .inl l1, .inl l2] [.inr (.inl l0)] σ Q := w_ld d168_60 rfl
theorem d168_61 : adec m168 61 = some (.aload_n 0, 1) := by decide +kernel
theorem s168_61 {l0 : Nat} {l1 : Int} {l2 : Int} {x0 : Nat} : WP m168 61 [.inr (.inl l0), .inl l1, .inl l2] [.inr (.inl x0)] σ Q = WP m168 62 [.inr (.inl l0), .inl l1, .inl l2] [.inr (.inl l0), .inr (.inl x0)] σ Q := w_ld d168_61 rfl
theorem d168_62 : adec m168 62 = some (.getfield 229, 3) := by decide +kernel
theorem s168_62 {l0 : Nat} {l1 : Int} {l2 : Int} {x0 : Nat} : WP m168 62 [.inr (.inl l0), .inl l1, .inl l2] [.inr (.inl 130), .inr (.inl x0)] σ Q = WP m168 65 [.inr (.inl l0), .inl l1, .inl l2] [.inl (σ 130 18), .inr (.inl x0)] σ Q := (w_getI (c := 10) (n := 18) d168_62 (by decide +kernel) (by decide +kernel)).trans (g_and (isO_dec (by decide +kernel)))
theorem d168_65 : adec m168 65 = some (.ifCond .ne (14), 3) := by decide +kernel
theorem s168_65 {l0 : Nat} {l1 : Int} {l2 : Int} {x0 : Nat} {x1 : Int} : WP m168 65 [.inr (.inl l0), .inl l1, .inl l2] [.inl x1, .inr (.inl x0)] σ Q = (if x1 = 0 then WP m168 68 [.inr (.inl l0), .inl l1, .inl l2] [.inr (.inl x0)] σ Q else WP m168 79 [.inr (.inl l0), .inl l1, .inl l2] [.inr (.inl x0)] σ Q) := w_ifne d168_65 (by decide)
theorem d168_68 : adec m168 68 = some (.aload_n 0, 1) := by decide +kernel
theorem s168_68 {l0 : Nat} {l1 : Int} {l2 : Int} {x0 : Nat} : WP m168 68 [.inr (.inl l0), .inl l1, .inl l2] [.inr (.inl x0)] σ Q = WP m168 69 [.inr (.inl l0), .inl l1, .inl l2] [.inr (.inl l0), .inr (.inl x0)] σ Q := w_ld d168_68 rfl
theorem d168_69 : adec m168 69 = some (.invokevirtual 233, 3) := by decide +kernel
theorem s168_69 {l0 : Nat} {l1 : Int} {l2 : Int} {x0 : Nat} : WP m168 69 [.inr (.inl l0), .inl l1, .inl l2] [.inr (.inl 130), .inr (.inl x0)] σ Q = CA m166 [.inr (.inl 130)] σ (fun v σ2 => WP m168 72 [.inr (.inl l0), .inl l1, .inl l2] (v ++ [.inr (.inl x0)]) σ2 Q) := (w_cV (k := 166) d168_69 (by decide +kernel) m166_at rfl rfl ⟨Nat.le_of_ble_eq_true rfl, Nat.le_of_ble_eq_true rfl, Nat.le_of_ble_eq_true rfl⟩ (by decide)).trans (g_and (isO_dec (by decide +kernel)))
theorem d168_72 : adec m168 72 = some (.ifCond .eq (7), 3) := by decide +kernel
theorem s168_72 {l0 : Nat} {l1 : Int} {l2 : Int} {x0 : Nat} {x1 : Int} : WP m168 72 [.inr (.inl l0), .inl l1, .inl l2] [.inl x1, .inr (.inl x0)] σ Q = (if x1 = 0 then WP m168 79 [.inr (.inl l0), .inl l1, .inl l2] [.inr (.inl x0)] σ Q else WP m168 75 [.inr (.inl l0), .inl l1, .inl l2] [.inr (.inl x0)] σ Q) := w_ifeq d168_72 (by decide)
theorem d168_75 : adec m168 75 = some (.iconst (1), 1) := by decide +kernel
theorem s168_75 {l0 : Nat} {l1 : Int} {l2 : Int} {x0 : Nat} : WP m168 75 [.inr (.inl l0), .inl l1, .inl l2] [.inr (.inl x0)] σ Q = WP m168 76 [.inr (.inl l0), .inl l1, .inl l2] [.inl (1), .inr (.inl x0)] σ Q := w_iconst d168_75 (by decide)
theorem d168_76 : adec m168 76 = some (.goto (4), 3) := by decide +kernel
theorem s168_76 {l0 : Nat} {l1 : Int} {l2 : Int} {x0 : Nat} {x1 : Int} : WP m168 76 [.inr (.inl l0), .inl l1, .inl l2] [.inl x1, .inr (.inl x0)] σ Q = WP m168 80 [.inr (.inl l0), .inl l1, .inl l2] [.inl x1, .inr (.inl x0)] σ Q := w_goto d168_76 (by decide)
theorem d168_79 : adec m168 79 = some (.iconst (0), 1) := by decide +kernel
theorem s168_79 {l0 : Nat} {l1 : Int} {l2 : Int} {x0 : Nat} : WP m168 79 [.inr (.inl l0), .inl l1, .inl l2] [.inr (.inl x0)] σ Q = WP m168 80 [.inr (.inl l0), .inl l1, .inl l2] [.inl (0), .inr (.inl x0)] σ Q := w_iconst d168_79 (by decide)
theorem d168_80 : adec m168 80 = some (.putfield 236, 3) := by decide +kernel
theorem s168_80 {l0 : Nat} {l1 : Int} {l2 : Int} {x1 : Int} : WP m168 80 [.inr (.inl l0), .inl l1, .inl l2] [.inl x1, .inr (.inl 130)] σ Q = ((x1 = 0 ∨ x1 = 1) ∧ WP m168 83 [.inr (.inl l0), .inl l1, .inl l2] [] (aup σ 130 19 x1) Q) := (w_putZ (c := 10) (n := 19) d168_80 (by decide +kernel) (by decide +kernel) (by decide +kernel)).trans (g_and2 (isO_dec (by decide +kernel)))
theorem d168_83 : adec m168 83 = some (.goto (-68), 3) := by decide +kernel
theorem s168_83 {l0 : Nat} {l1 : Int} {l2 : Int} : WP m168 83 [.inr (.inl l0), .inl l1, .inl l2] [] σ Q = WP m168 15 [.inr (.inl l0), .inl l1, .inl l2] [] σ Q := w_goto d168_83 (by decide)
theorem d168_86 : adec m168 86 = some (.iload_n 2, 1) := by decide +kernel
theorem s168_86 {l0 : Nat} {l1 : Int} {l2 : Int} : WP m168 86 [.inr (.inl l0), .inl l1, .inl l2] [] σ Q = WP m168 87 [.inr (.inl l0), .inl l1, .inl l2] [.inl l2] σ Q := w_ld d168_86 rfl
theorem d168_87 : adec m168 87 = some (.ireturn, 1) := by decide +kernel
theorem s168_87 {l0 : Nat} {l1 : Int} {l2 : Int} {x0 : Int} : WP m168 87 [.inr (.inl l0), .inl l1, .inl l2] [.inl x0] σ Q = Q [.inl x0] σ := w_ri d168_87 rfl
theorem e168 {p0 : Nat} {p1 : Int} : CA m168 [.inr (.inl p0), .inl p1] σ Q = WP m168 0 [.inr (.inl p0), .inl p1, vU] [] σ Q := rfl
-- BinderPressModel.thing(III)I
theorem d169_0 : adec m169 0 = some (.aload_n 0, 1) := by decide +kernel
theorem s169_0 {l0 : Nat} {l1 : Int} {l2 : Int} {l3 : Int} : WP m169 0 [.inr (.inl l0), .inl l1, .inl l2, .inl l3] [] σ Q = WP m169 1 [.inr (.inl l0), .inl l1, .inl l2, .inl l3] [.inr (.inl l0)] σ Q := w_ld d169_0 rfl
theorem d169_1 : adec m169 1 = some (.getfield 42, 3) := by decide +kernel
theorem s169_1 {l0 : Nat} {l1 : Int} {l2 : Int} {l3 : Int} : WP m169 1 [.inr (.inl l0), .inl l1, .inl l2, .inl l3] [.inr (.inl 130)] σ Q = WP m169 4 [.inr (.inl l0), .inl l1, .inl l2, .inl l3] [.inr (.inl 140)] σ Q := (w_getR (c := 10) (n := 20) d169_1 (by decide +kernel) (by decide +kernel)).trans (g_and ⟨isO_dec (by decide +kernel), by decide +kernel⟩)
theorem d169_4 : adec m169 4 = some (.aload_n 0, 1) := by decide +kernel
theorem s169_4 {l0 : Nat} {l1 : Int} {l2 : Int} {l3 : Int} {x0 : Nat} : WP m169 4 [.inr (.inl l0), .inl l1, .inl l2, .inl l3] [.inr (.inl x0)] σ Q = WP m169 5 [.inr (.inl l0), .inl l1, .inl l2, .inl l3] [.inr (.inl l0), .inr (.inl x0)] σ Q := w_ld d169_4 rfl
theorem d169_5 : adec m169 5 = some (.getfield 242, 3) := by decide +kernel
theorem s169_5 {l0 : Nat} {l1 : Int} {l2 : Int} {l3 : Int} {x0 : Nat} : WP m169 5 [.inr (.inl l0), .inl l1, .inl l2, .inl l3] [.inr (.inl 130), .inr (.inl x0)] σ Q = WP m169 8 [.inr (.inl l0), .inl l1, .inl l2, .inl l3] [.inl (σ 130 23), .inr (.inl x0)] σ Q := (w_getI (c := 10) (n := 23) d169_5 (by decide +kernel) (by decide +kernel)).trans (g_and (isO_dec (by decide +kernel)))
theorem d169_8 : adec m169 8 = some (.iload_n 1, 1) := by decide +kernel
theorem s169_8 {l0 : Nat} {l1 : Int} {l2 : Int} {l3 : Int} {x0 : Nat} {x1 : Int} : WP m169 8 [.inr (.inl l0), .inl l1, .inl l2, .inl l3] [.inl x1, .inr (.inl x0)] σ Q = WP m169 9 [.inr (.inl l0), .inl l1, .inl l2, .inl l3] [.inl l1, .inl x1, .inr (.inl x0)] σ Q := w_ld d169_8 rfl
theorem d169_9 : adec m169 9 = some (.iastore, 1) := by decide +kernel
theorem s169_9 {l0 : Nat} {l1 : Int} {l2 : Int} {l3 : Int} {x0 : Nat} {x1 : Int} {x2 : Int} : WP m169 9 [.inr (.inl l0), .inl l1, .inl l2, .inl l3] [.inl x2, .inl x1, .inr (.inl x0)] σ Q = ((kdS x0 = 20 ∧ 0 ≤ x1 ∧ x1 < ln x0) ∧ WP m169 10 [.inr (.inl l0), .inl l1, .inl l2, .inl l3] [] (aup σ x0 x1.toNat x2) Q) := w_iast d169_9
theorem d169_10 : adec m169 10 = some (.aload_n 0, 1) := by decide +kernel
theorem s169_10 {l0 : Nat} {l1 : Int} {l2 : Int} {l3 : Int} : WP m169 10 [.inr (.inl l0), .inl l1, .inl l2, .inl l3] [] σ Q = WP m169 11 [.inr (.inl l0), .inl l1, .inl l2, .inl l3] [.inr (.inl l0)] σ Q := w_ld d169_10 rfl
theorem d169_11 : adec m169 11 = some (.getfield 45, 3) := by decide +kernel
theorem s169_11 {l0 : Nat} {l1 : Int} {l2 : Int} {l3 : Int} : WP m169 11 [.inr (.inl l0), .inl l1, .inl l2, .inl l3] [.inr (.inl 130)] σ Q = WP m169 14 [.inr (.inl l0), .inl l1, .inl l2, .inl l3] [.inr (.inl 141)] σ Q := (w_getR (c := 10) (n := 21) d169_11 (by decide +kernel) (by decide +kernel)).trans (g_and ⟨isO_dec (by decide +kernel), by decide +kernel⟩)
theorem d169_14 : adec m169 14 = some (.aload_n 0, 1) := by decide +kernel
theorem s169_14 {l0 : Nat} {l1 : Int} {l2 : Int} {l3 : Int} {x0 : Nat} : WP m169 14 [.inr (.inl l0), .inl l1, .inl l2, .inl l3] [.inr (.inl x0)] σ Q = WP m169 15 [.inr (.inl l0), .inl l1, .inl l2, .inl l3] [.inr (.inl l0), .inr (.inl x0)] σ Q := w_ld d169_14 rfl
theorem d169_15 : adec m169 15 = some (.getfield 242, 3) := by decide +kernel
theorem s169_15 {l0 : Nat} {l1 : Int} {l2 : Int} {l3 : Int} {x0 : Nat} : WP m169 15 [.inr (.inl l0), .inl l1, .inl l2, .inl l3] [.inr (.inl 130), .inr (.inl x0)] σ Q = WP m169 18 [.inr (.inl l0), .inl l1, .inl l2, .inl l3] [.inl (σ 130 23), .inr (.inl x0)] σ Q := (w_getI (c := 10) (n := 23) d169_15 (by decide +kernel) (by decide +kernel)).trans (g_and (isO_dec (by decide +kernel)))
theorem d169_18 : adec m169 18 = some (.iload_n 2, 1) := by decide +kernel
theorem s169_18 {l0 : Nat} {l1 : Int} {l2 : Int} {l3 : Int} {x0 : Nat} {x1 : Int} : WP m169 18 [.inr (.inl l0), .inl l1, .inl l2, .inl l3] [.inl x1, .inr (.inl x0)] σ Q = WP m169 19 [.inr (.inl l0), .inl l1, .inl l2, .inl l3] [.inl l2, .inl x1, .inr (.inl x0)] σ Q := w_ld d169_18 rfl
theorem d169_19 : adec m169 19 = some (.iastore, 1) := by decide +kernel
theorem s169_19 {l0 : Nat} {l1 : Int} {l2 : Int} {l3 : Int} {x0 : Nat} {x1 : Int} {x2 : Int} : WP m169 19 [.inr (.inl l0), .inl l1, .inl l2, .inl l3] [.inl x2, .inl x1, .inr (.inl x0)] σ Q = ((kdS x0 = 20 ∧ 0 ≤ x1 ∧ x1 < ln x0) ∧ WP m169 20 [.inr (.inl l0), .inl l1, .inl l2, .inl l3] [] (aup σ x0 x1.toNat x2) Q) := w_iast d169_19
theorem d169_20 : adec m169 20 = some (.aload_n 0, 1) := by decide +kernel
theorem s169_20 {l0 : Nat} {l1 : Int} {l2 : Int} {l3 : Int} : WP m169 20 [.inr (.inl l0), .inl l1, .inl l2, .inl l3] [] σ Q = WP m169 21 [.inr (.inl l0), .inl l1, .inl l2, .inl l3] [.inr (.inl l0)] σ Q := w_ld d169_20 rfl
theorem d169_21 : adec m169 21 = some (.getfield 48, 3) := by decide +kernel
theorem s169_21 {l0 : Nat} {l1 : Int} {l2 : Int} {l3 : Int} : WP m169 21 [.inr (.inl l0), .inl l1, .inl l2, .inl l3] [.inr (.inl 130)] σ Q = WP m169 24 [.inr (.inl l0), .inl l1, .inl l2, .inl l3] [.inr (.inl 142)] σ Q := (w_getR (c := 10) (n := 22) d169_21 (by decide +kernel) (by decide +kernel)).trans (g_and ⟨isO_dec (by decide +kernel), by decide +kernel⟩)
theorem d169_24 : adec m169 24 = some (.aload_n 0, 1) := by decide +kernel
theorem s169_24 {l0 : Nat} {l1 : Int} {l2 : Int} {l3 : Int} {x0 : Nat} : WP m169 24 [.inr (.inl l0), .inl l1, .inl l2, .inl l3] [.inr (.inl x0)] σ Q = WP m169 25 [.inr (.inl l0), .inl l1, .inl l2, .inl l3] [.inr (.inl l0), .inr (.inl x0)] σ Q := w_ld d169_24 rfl
theorem d169_25 : adec m169 25 = some (.getfield 242, 3) := by decide +kernel
theorem s169_25 {l0 : Nat} {l1 : Int} {l2 : Int} {l3 : Int} {x0 : Nat} : WP m169 25 [.inr (.inl l0), .inl l1, .inl l2, .inl l3] [.inr (.inl 130), .inr (.inl x0)] σ Q = WP m169 28 [.inr (.inl l0), .inl l1, .inl l2, .inl l3] [.inl (σ 130 23), .inr (.inl x0)] σ Q := (w_getI (c := 10) (n := 23) d169_25 (by decide +kernel) (by decide +kernel)).trans (g_and (isO_dec (by decide +kernel)))
theorem d169_28 : adec m169 28 = some (.iload_n 3, 1) := by decide +kernel
theorem s169_28 {l0 : Nat} {l1 : Int} {l2 : Int} {l3 : Int} {x0 : Nat} {x1 : Int} : WP m169 28 [.inr (.inl l0), .inl l1, .inl l2, .inl l3] [.inl x1, .inr (.inl x0)] σ Q = WP m169 29 [.inr (.inl l0), .inl l1, .inl l2, .inl l3] [.inl l3, .inl x1, .inr (.inl x0)] σ Q := w_ld d169_28 rfl
theorem d169_29 : adec m169 29 = some (.iastore, 1) := by decide +kernel
theorem s169_29 {l0 : Nat} {l1 : Int} {l2 : Int} {l3 : Int} {x0 : Nat} {x1 : Int} {x2 : Int} : WP m169 29 [.inr (.inl l0), .inl l1, .inl l2, .inl l3] [.inl x2, .inl x1, .inr (.inl x0)] σ Q = ((kdS x0 = 20 ∧ 0 ≤ x1 ∧ x1 < ln x0) ∧ WP m169 30 [.inr (.inl l0), .inl l1, .inl l2, .inl l3] [] (aup σ x0 x1.toNat x2) Q) := w_iast d169_29
theorem d169_30 : adec m169 30 = some (.aload_n 0, 1) := by decide +kernel
theorem s169_30 {l0 : Nat} {l1 : Int} {l2 : Int} {l3 : Int} : WP m169 30 [.inr (.inl l0), .inl l1, .inl l2, .inl l3] [] σ Q = WP m169 31 [.inr (.inl l0), .inl l1, .inl l2, .inl l3] [.inr (.inl l0)] σ Q := w_ld d169_30 rfl
theorem d169_31 : adec m169 31 = some (.dup, 1) := by decide +kernel
theorem s169_31 {l0 : Nat} {l1 : Int} {l2 : Int} {l3 : Int} {x0 : Nat} : WP m169 31 [.inr (.inl l0), .inl l1, .inl l2, .inl l3] [.inr (.inl x0)] σ Q = WP m169 32 [.inr (.inl l0), .inl l1, .inl l2, .inl l3] [.inr (.inl x0), .inr (.inl x0)] σ Q := w_ld d169_31 rfl
theorem d169_32 : adec m169 32 = some (.getfield 242, 3) := by decide +kernel
theorem s169_32 {l0 : Nat} {l1 : Int} {l2 : Int} {l3 : Int} {x0 : Nat} : WP m169 32 [.inr (.inl l0), .inl l1, .inl l2, .inl l3] [.inr (.inl 130), .inr (.inl x0)] σ Q = WP m169 35 [.inr (.inl l0), .inl l1, .inl l2, .inl l3] [.inl (σ 130 23), .inr (.inl x0)] σ Q := (w_getI (c := 10) (n := 23) d169_32 (by decide +kernel) (by decide +kernel)).trans (g_and (isO_dec (by decide +kernel)))
theorem d169_35 : adec m169 35 = some (.iconst (1), 1) := by decide +kernel
theorem s169_35 {l0 : Nat} {l1 : Int} {l2 : Int} {l3 : Int} {x0 : Nat} {x1 : Int} : WP m169 35 [.inr (.inl l0), .inl l1, .inl l2, .inl l3] [.inl x1, .inr (.inl x0)] σ Q = WP m169 36 [.inr (.inl l0), .inl l1, .inl l2, .inl l3] [.inl (1), .inl x1, .inr (.inl x0)] σ Q := w_iconst d169_35 (by decide)
theorem d169_36 : adec m169 36 = some (.iadd, 1) := by decide +kernel
theorem s169_36 {l0 : Nat} {l1 : Int} {l2 : Int} {l3 : Int} {x0 : Nat} {x1 : Int} {x2 : Int} : WP m169 36 [.inr (.inl l0), .inl l1, .inl l2, .inl l3] [.inl x2, .inl x1, .inr (.inl x0)] σ Q = (inI (x1 + x2) ∧ WP m169 37 [.inr (.inl l0), .inl l1, .inl l2, .inl l3] [.inl (x1 + x2), .inr (.inl x0)] σ Q) := w_iadd d169_36
theorem d169_37 : adec m169 37 = some (.putfield 242, 3) := by decide +kernel
theorem s169_37 {l0 : Nat} {l1 : Int} {l2 : Int} {l3 : Int} {x1 : Int} : WP m169 37 [.inr (.inl l0), .inl l1, .inl l2, .inl l3] [.inl x1, .inr (.inl 130)] σ Q = WP m169 40 [.inr (.inl l0), .inl l1, .inl l2, .inl l3] [] (aup σ 130 23 x1) Q := (w_putI (c := 10) (n := 23) d169_37 (by decide +kernel) (by decide +kernel) (by decide +kernel)).trans (g_and (isO_dec (by decide +kernel)))
theorem d169_40 : adec m169 40 = some (.aload_n 0, 1) := by decide +kernel
theorem s169_40 {l0 : Nat} {l1 : Int} {l2 : Int} {l3 : Int} : WP m169 40 [.inr (.inl l0), .inl l1, .inl l2, .inl l3] [] σ Q = WP m169 41 [.inr (.inl l0), .inl l1, .inl l2, .inl l3] [.inr (.inl l0)] σ Q := w_ld d169_40 rfl
theorem d169_41 : adec m169 41 = some (.getfield 242, 3) := by decide +kernel
theorem s169_41 {l0 : Nat} {l1 : Int} {l2 : Int} {l3 : Int} : WP m169 41 [.inr (.inl l0), .inl l1, .inl l2, .inl l3] [.inr (.inl 130)] σ Q = WP m169 44 [.inr (.inl l0), .inl l1, .inl l2, .inl l3] [.inl (σ 130 23)] σ Q := (w_getI (c := 10) (n := 23) d169_41 (by decide +kernel) (by decide +kernel)).trans (g_and (isO_dec (by decide +kernel)))
theorem d169_44 : adec m169 44 = some (.iconst (1), 1) := by decide +kernel
theorem s169_44 {l0 : Nat} {l1 : Int} {l2 : Int} {l3 : Int} {x0 : Int} : WP m169 44 [.inr (.inl l0), .inl l1, .inl l2, .inl l3] [.inl x0] σ Q = WP m169 45 [.inr (.inl l0), .inl l1, .inl l2, .inl l3] [.inl (1), .inl x0] σ Q := w_iconst d169_44 (by decide)
theorem d169_45 : adec m169 45 = some (.isub, 1) := by decide +kernel
theorem s169_45 {l0 : Nat} {l1 : Int} {l2 : Int} {l3 : Int} {x0 : Int} {x1 : Int} : WP m169 45 [.inr (.inl l0), .inl l1, .inl l2, .inl l3] [.inl x1, .inl x0] σ Q = (inI (x0 - x1) ∧ WP m169 46 [.inr (.inl l0), .inl l1, .inl l2, .inl l3] [.inl (x0 - x1)] σ Q) := w_isub d169_45
theorem d169_46 : adec m169 46 = some (.ireturn, 1) := by decide +kernel
theorem s169_46 {l0 : Nat} {l1 : Int} {l2 : Int} {l3 : Int} {x0 : Int} : WP m169 46 [.inr (.inl l0), .inl l1, .inl l2, .inl l3] [.inl x0] σ Q = Q [.inl x0] σ := w_ri d169_46 rfl
theorem e169 {p0 : Nat} {p1 : Int} {p2 : Int} {p3 : Int} : CA m169 [.inr (.inl p0), .inl p1, .inl p2, .inl p3] σ Q = WP m169 0 [.inr (.inl p0), .inl p1, .inl p2, .inl p3] [] σ Q := rfl
-- BinderPressModel.real(I)I
theorem d170_0 : adec m170 0 = some (.iload_n 1, 1) := by decide +kernel
theorem s170_0 {l0 : Nat} {l1 : Int} {l2 : AV} : WP m170 0 [.inr (.inl l0), .inl l1, l2] [] σ Q = WP m170 1 [.inr (.inl l0), .inl l1, l2] [.inl l1] σ Q := w_ld d170_0 rfl
theorem d170_1 : adec m170 1 = some (.istore_n 2, 1) := by decide +kernel
theorem s170_1 {l0 : Nat} {l1 : Int} {l2 : AV} {x0 : Int} : WP m170 1 [.inr (.inl l0), .inl l1, l2] [.inl x0] σ Q = WP m170 2 [.inr (.inl l0), .inl l1, .inl x0] [] σ Q := w_st1 (j := 2) d170_1 rfl (Nat.le_of_ble_eq_true rfl) rfl
theorem d170_2 : adec m170 2 = some (.aload_n 0, 1) := by decide +kernel
theorem s170_2 {l0 : Nat} {l1 : Int} {l2 : Int} : WP m170 2 [.inr (.inl l0), .inl l1, .inl l2] [] σ Q = WP m170 3 [.inr (.inl l0), .inl l1, .inl l2] [.inr (.inl l0)] σ Q := w_ld d170_2 rfl
theorem d170_3 : adec m170 3 = some (.getfield 42, 3) := by decide +kernel
theorem s170_3 {l0 : Nat} {l1 : Int} {l2 : Int} : WP m170 3 [.inr (.inl l0), .inl l1, .inl l2] [.inr (.inl 130)] σ Q = WP m170 6 [.inr (.inl l0), .inl l1, .inl l2] [.inr (.inl 140)] σ Q := (w_getR (c := 10) (n := 20) d170_3 (by decide +kernel) (by decide +kernel)).trans (g_and ⟨isO_dec (by decide +kernel), by decide +kernel⟩)
theorem d170_6 : adec m170 6 = some (.iload_n 2, 1) := by decide +kernel
theorem s170_6 {l0 : Nat} {l1 : Int} {l2 : Int} {x0 : Nat} : WP m170 6 [.inr (.inl l0), .inl l1, .inl l2] [.inr (.inl x0)] σ Q = WP m170 7 [.inr (.inl l0), .inl l1, .inl l2] [.inl l2, .inr (.inl x0)] σ Q := w_ld d170_6 rfl
theorem d170_7 : adec m170 7 = some (.iaload, 1) := by decide +kernel
theorem s170_7 {l0 : Nat} {l1 : Int} {l2 : Int} {x0 : Nat} {x1 : Int} : WP m170 7 [.inr (.inl l0), .inl l1, .inl l2] [.inl x1, .inr (.inl x0)] σ Q = ((kdS x0 = 20 ∧ 0 ≤ x1 ∧ x1 < ln x0) ∧ WP m170 8 [.inr (.inl l0), .inl l1, .inl l2] [.inl (σ x0 x1.toNat)] σ Q) := w_iald d170_7
theorem d170_8 : adec m170 8 = some (.bipush (-7), 2) := by decide +kernel
theorem s170_8 {l0 : Nat} {l1 : Int} {l2 : Int} {x0 : Int} : WP m170 8 [.inr (.inl l0), .inl l1, .inl l2] [.inl x0] σ Q = WP m170 10 [.inr (.inl l0), .inl l1, .inl l2] [.inl (-7), .inl x0] σ Q := w_bipush d170_8 (by decide)
theorem d170_10 : adec m170 10 = some (.if_icmp .ne (13), 3) := by decide +kernel
theorem s170_10 {l0 : Nat} {l1 : Int} {l2 : Int} {x0 : Int} {x1 : Int} : WP m170 10 [.inr (.inl l0), .inl l1, .inl l2] [.inl x1, .inl x0] σ Q = (if x0 = x1 then WP m170 13 [.inr (.inl l0), .inl l1, .inl l2] [] σ Q else WP m170 23 [.inr (.inl l0), .inl l1, .inl l2] [] σ Q) := w_icne d170_10 (by decide)
theorem d170_13 : adec m170 13 = some (.aload_n 0, 1) := by decide +kernel
theorem s170_13 {l0 : Nat} {l1 : Int} {l2 : Int} : WP m170 13 [.inr (.inl l0), .inl l1, .inl l2] [] σ Q = WP m170 14 [.inr (.inl l0), .inl l1, .inl l2] [.inr (.inl l0)] σ Q := w_ld d170_13 rfl
theorem d170_14 : adec m170 14 = some (.getfield 45, 3) := by decide +kernel
theorem s170_14 {l0 : Nat} {l1 : Int} {l2 : Int} : WP m170 14 [.inr (.inl l0), .inl l1, .inl l2] [.inr (.inl 130)] σ Q = WP m170 17 [.inr (.inl l0), .inl l1, .inl l2] [.inr (.inl 141)] σ Q := (w_getR (c := 10) (n := 21) d170_14 (by decide +kernel) (by decide +kernel)).trans (g_and ⟨isO_dec (by decide +kernel), by decide +kernel⟩)
theorem d170_17 : adec m170 17 = some (.iload_n 2, 1) := by decide +kernel
theorem s170_17 {l0 : Nat} {l1 : Int} {l2 : Int} {x0 : Nat} : WP m170 17 [.inr (.inl l0), .inl l1, .inl l2] [.inr (.inl x0)] σ Q = WP m170 18 [.inr (.inl l0), .inl l1, .inl l2] [.inl l2, .inr (.inl x0)] σ Q := w_ld d170_17 rfl
theorem d170_18 : adec m170 18 = some (.iaload, 1) := by decide +kernel
theorem s170_18 {l0 : Nat} {l1 : Int} {l2 : Int} {x0 : Nat} {x1 : Int} : WP m170 18 [.inr (.inl l0), .inl l1, .inl l2] [.inl x1, .inr (.inl x0)] σ Q = ((kdS x0 = 20 ∧ 0 ≤ x1 ∧ x1 < ln x0) ∧ WP m170 19 [.inr (.inl l0), .inl l1, .inl l2] [.inl (σ x0 x1.toNat)] σ Q) := w_iald d170_18
theorem d170_19 : adec m170 19 = some (.istore_n 2, 1) := by decide +kernel
theorem s170_19 {l0 : Nat} {l1 : Int} {l2 : Int} {x0 : Int} : WP m170 19 [.inr (.inl l0), .inl l1, .inl l2] [.inl x0] σ Q = WP m170 20 [.inr (.inl l0), .inl l1, .inl x0] [] σ Q := w_st1 (j := 2) d170_19 rfl (Nat.le_of_ble_eq_true rfl) rfl
theorem d170_20 : adec m170 20 = some (.goto (-18), 3) := by decide +kernel
theorem s170_20 {l0 : Nat} {l1 : Int} {l2 : Int} : WP m170 20 [.inr (.inl l0), .inl l1, .inl l2] [] σ Q = WP m170 2 [.inr (.inl l0), .inl l1, .inl l2] [] σ Q := w_goto d170_20 (by decide)
theorem d170_23 : adec m170 23 = some (.iload_n 2, 1) := by decide +kernel
theorem s170_23 {l0 : Nat} {l1 : Int} {l2 : Int} : WP m170 23 [.inr (.inl l0), .inl l1, .inl l2] [] σ Q = WP m170 24 [.inr (.inl l0), .inl l1, .inl l2] [.inl l2] σ Q := w_ld d170_23 rfl
theorem d170_24 : adec m170 24 = some (.ireturn, 1) := by decide +kernel
theorem s170_24 {l0 : Nat} {l1 : Int} {l2 : Int} {x0 : Int} : WP m170 24 [.inr (.inl l0), .inl l1, .inl l2] [.inl x0] σ Q = Q [.inl x0] σ := w_ri d170_24 rfl
theorem e170 {p0 : Nat} {p1 : Int} : CA m170 [.inr (.inl p0), .inl p1] σ Q = WP m170 0 [.inr (.inl p0), .inl p1, vU] [] σ Q := rfl
-- BinderPressModel.layThings()I
theorem d171_0 : adec m171 0 = some (.aload_n 0, 1) := by decide +kernel
theorem s171_0 {l0 : Nat} {l1 : AV} {l2 : AV} {l3 : AV} : WP m171 0 [.inr (.inl l0), l1, l2, l3] [] σ Q = WP m171 1 [.inr (.inl l0), l1, l2, l3] [.inr (.inl l0)] σ Q := w_ld d171_0 rfl
theorem d171_1 : adec m171 1 = some (.iconst (0), 1) := by decide +kernel
theorem s171_1 {l0 : Nat} {l1 : AV} {l2 : AV} {l3 : AV} {x0 : Nat} : WP m171 1 [.inr (.inl l0), l1, l2, l3] [.inr (.inl x0)] σ Q = WP m171 2 [.inr (.inl l0), l1, l2, l3] [.inl (0), .inr (.inl x0)] σ Q := w_iconst d171_1 (by decide)
theorem d171_2 : adec m171 2 = some (.putfield 242, 3) := by decide +kernel
theorem s171_2 {l0 : Nat} {l1 : AV} {l2 : AV} {l3 : AV} {x1 : Int} : WP m171 2 [.inr (.inl l0), l1, l2, l3] [.inl x1, .inr (.inl 130)] σ Q = WP m171 5 [.inr (.inl l0), l1, l2, l3] [] (aup σ 130 23 x1) Q := (w_putI (c := 10) (n := 23) d171_2 (by decide +kernel) (by decide +kernel) (by decide +kernel)).trans (g_and (isO_dec (by decide +kernel)))
theorem d171_5 : adec m171 5 = some (.aload_n 0, 1) := by decide +kernel
theorem s171_5 {l0 : Nat} {l1 : AV} {l2 : AV} {l3 : AV} : WP m171 5 [.inr (.inl l0), l1, l2, l3] [] σ Q = WP m171 6 [.inr (.inl l0), l1, l2, l3] [.inr (.inl l0)] σ Q := w_ld d171_5 rfl
theorem d171_6 : adec m171 6 = some (.iconst (0), 1) := by decide +kernel
theorem s171_6 {l0 : Nat} {l1 : AV} {l2 : AV} {l3 : AV} {x0 : Nat} : WP m171 6 [.inr (.inl l0), l1, l2, l3] [.inr (.inl x0)] σ Q = WP m171 7 [.inr (.inl l0), l1, l2, l3] [.inl (0), .inr (.inl x0)] σ Q := w_iconst d171_6 (by decide)
theorem d171_7 : adec m171 7 = some (.putfield 94, 3) := by decide +kernel
theorem s171_7 {l0 : Nat} {l1 : AV} {l2 : AV} {l3 : AV} {x1 : Int} : WP m171 7 [.inr (.inl l0), l1, l2, l3] [.inl x1, .inr (.inl 130)] σ Q = WP m171 10 [.inr (.inl l0), l1, l2, l3] [] (aup σ 130 11 x1) Q := (w_putI (c := 10) (n := 11) d171_7 (by decide +kernel) (by decide +kernel) (by decide +kernel)).trans (g_and (isO_dec (by decide +kernel)))
theorem d171_10 : adec m171 10 = some (.aload_n 0, 1) := by decide +kernel
theorem s171_10 {l0 : Nat} {l1 : AV} {l2 : AV} {l3 : AV} : WP m171 10 [.inr (.inl l0), l1, l2, l3] [] σ Q = WP m171 11 [.inr (.inl l0), l1, l2, l3] [.inr (.inl l0)] σ Q := w_ld d171_10 rfl
theorem d171_11 : adec m171 11 = some (.getfield 104, 3) := by decide +kernel
theorem s171_11 {l0 : Nat} {l1 : AV} {l2 : AV} {l3 : AV} : WP m171 11 [.inr (.inl l0), l1, l2, l3] [.inr (.inl 130)] σ Q = WP m171 14 [.inr (.inl l0), l1, l2, l3] [.inl (σ 130 7)] σ Q := (w_getI (c := 10) (n := 7) d171_11 (by decide +kernel) (by decide +kernel)).trans (g_and (isO_dec (by decide +kernel)))
theorem d171_14 : adec m171 14 = some (.iconst (1), 1) := by decide +kernel
theorem s171_14 {l0 : Nat} {l1 : AV} {l2 : AV} {l3 : AV} {x0 : Int} : WP m171 14 [.inr (.inl l0), l1, l2, l3] [.inl x0] σ Q = WP m171 15 [.inr (.inl l0), l1, l2, l3] [.inl (1), .inl x0] σ Q := w_iconst d171_14 (by decide)
theorem d171_15 : adec m171 15 = some (.isub, 1) := by decide +kernel
theorem s171_15 {l0 : Nat} {l1 : AV} {l2 : AV} {l3 : AV} {x0 : Int} {x1 : Int} : WP m171 15 [.inr (.inl l0), l1, l2, l3] [.inl x1, .inl x0] σ Q = (inI (x0 - x1) ∧ WP m171 16 [.inr (.inl l0), l1, l2, l3] [.inl (x0 - x1)] σ Q) := w_isub d171_15
theorem d171_16 : adec m171 16 = some (.istore_n 1, 1) := by decide +kernel
theorem s171_16 {l0 : Nat} {l1 : AV} {l2 : AV} {l3 : AV} {x0 : Int} : WP m171 16 [.inr (.inl l0), l1, l2, l3] [.inl x0] σ Q = WP m171 17 [.inr (.inl l0), .inl x0, l2, l3] [] σ Q := w_st1 (j := 1) d171_16 rfl (Nat.le_of_ble_eq_true rfl) rfl
theorem d171_17 : adec m171 17 = some (.iload_n 1, 1) := by decide +kernel
theorem s171_17 {l0 : Nat} {l1 : Int} {l2 : AV} {l3 : AV} : WP m171 17 [.inr (.inl l0), .inl l1, l2, l3] [] σ Q = WP m171 18 [.inr (.inl l0), .inl l1, l2, l3] [.inl l1] σ Q := w_ld d171_17 rfl
theorem d171_18 : adec m171 18 = some (.ifCond .lt (61), 3) := by decide +kernel
theorem s171_18 {l0 : Nat} {l1 : Int} {l2 : AV} {l3 : AV} {x0 : Int} : WP m171 18 [.inr (.inl l0), .inl l1, l2, l3] [.inl x0] σ Q = (if x0 < 0 then WP m171 79 [.inr (.inl l0), .inl l1, l2, l3] [] σ Q else WP m171 21 [.inr (.inl l0), .inl l1, l2, l3] [] σ Q) := w_iflt d171_18 (by decide)
theorem d171_21 : adec m171 21 = some (.aload_n 0, 1) := by decide +kernel
theorem s171_21 {l0 : Nat} {l1 : Int} {l2 : AV} {l3 : AV} : WP m171 21 [.inr (.inl l0), .inl l1, l2, l3] [] σ Q = WP m171 22 [.inr (.inl l0), .inl l1, l2, l3] [.inr (.inl l0)] σ Q := w_ld d171_21 rfl
theorem d171_22 : adec m171 22 = some (.getfield 24, 3) := by decide +kernel
theorem s171_22 {l0 : Nat} {l1 : Int} {l2 : AV} {l3 : AV} : WP m171 22 [.inr (.inl l0), .inl l1, l2, l3] [.inr (.inl 130)] σ Q = WP m171 25 [.inr (.inl l0), .inl l1, l2, l3] [.inr (.inl 134)] σ Q := (w_getR (c := 10) (n := 6) d171_22 (by decide +kernel) (by decide +kernel)).trans (g_and ⟨isO_dec (by decide +kernel), by decide +kernel⟩)
theorem d171_25 : adec m171 25 = some (.iload_n 1, 1) := by decide +kernel
theorem s171_25 {l0 : Nat} {l1 : Int} {l2 : AV} {l3 : AV} {x0 : Nat} : WP m171 25 [.inr (.inl l0), .inl l1, l2, l3] [.inr (.inl x0)] σ Q = WP m171 26 [.inr (.inl l0), .inl l1, l2, l3] [.inl l1, .inr (.inl x0)] σ Q := w_ld d171_25 rfl
theorem d171_26 : adec m171 26 = some (.iaload, 1) := by decide +kernel
theorem s171_26 {l0 : Nat} {l1 : Int} {l2 : AV} {l3 : AV} {x0 : Nat} {x1 : Int} : WP m171 26 [.inr (.inl l0), .inl l1, l2, l3] [.inl x1, .inr (.inl x0)] σ Q = ((kdS x0 = 20 ∧ 0 ≤ x1 ∧ x1 < ln x0) ∧ WP m171 27 [.inr (.inl l0), .inl l1, l2, l3] [.inl (σ x0 x1.toNat)] σ Q) := w_iald d171_26
theorem d171_27 : adec m171 27 = some (.ifCond .ne (10), 3) := by decide +kernel
theorem s171_27 {l0 : Nat} {l1 : Int} {l2 : AV} {l3 : AV} {x0 : Int} : WP m171 27 [.inr (.inl l0), .inl l1, l2, l3] [.inl x0] σ Q = (if x0 = 0 then WP m171 30 [.inr (.inl l0), .inl l1, l2, l3] [] σ Q else WP m171 37 [.inr (.inl l0), .inl l1, l2, l3] [] σ Q) := w_ifne d171_27 (by decide)
theorem d171_30 : adec m171 30 = some (.aload_n 0, 1) := by decide +kernel
theorem s171_30 {l0 : Nat} {l1 : Int} {l2 : AV} {l3 : AV} : WP m171 30 [.inr (.inl l0), .inl l1, l2, l3] [] σ Q = WP m171 31 [.inr (.inl l0), .inl l1, l2, l3] [.inr (.inl l0)] σ Q := w_ld d171_30 rfl
theorem d171_31 : adec m171 31 = some (.invokevirtual 175, 3) := by decide +kernel
theorem s171_31 {l0 : Nat} {l1 : Int} {l2 : AV} {l3 : AV} : WP m171 31 [.inr (.inl l0), .inl l1, l2, l3] [.inr (.inl 130)] σ Q = CA m133 [.inr (.inl 130)] σ (fun v σ2 => WP m171 34 [.inr (.inl l0), .inl l1, l2, l3] (v ++ []) σ2 Q) := (w_cV (k := 133) d171_31 (by decide +kernel) m133_at rfl rfl ⟨Nat.le_of_ble_eq_true rfl, Nat.le_of_ble_eq_true rfl, Nat.le_of_ble_eq_true rfl⟩ (by decide)).trans (g_and (isO_dec (by decide +kernel)))
theorem d171_34 : adec m171 34 = some (.goto (4), 3) := by decide +kernel
theorem s171_34 {l0 : Nat} {l1 : Int} {l2 : AV} {l3 : AV} {x0 : Int} : WP m171 34 [.inr (.inl l0), .inl l1, l2, l3] [.inl x0] σ Q = WP m171 38 [.inr (.inl l0), .inl l1, l2, l3] [.inl x0] σ Q := w_goto d171_34 (by decide)
theorem d171_37 : adec m171 37 = some (.iconst (0), 1) := by decide +kernel
theorem s171_37 {l0 : Nat} {l1 : Int} {l2 : AV} {l3 : AV} : WP m171 37 [.inr (.inl l0), .inl l1, l2, l3] [] σ Q = WP m171 38 [.inr (.inl l0), .inl l1, l2, l3] [.inl (0)] σ Q := w_iconst d171_37 (by decide)
theorem d171_38 : adec m171 38 = some (.istore_n 2, 1) := by decide +kernel
theorem s171_38 {l0 : Nat} {l1 : Int} {l2 : AV} {l3 : AV} {x0 : Int} : WP m171 38 [.inr (.inl l0), .inl l1, l2, l3] [.inl x0] σ Q = WP m171 39 [.inr (.inl l0), .inl l1, .inl x0, l3] [] σ Q := w_st1 (j := 2) d171_38 rfl (Nat.le_of_ble_eq_true rfl) rfl
theorem d171_39 : adec m171 39 = some (.aload_n 0, 1) := by decide +kernel
theorem s171_39 {l0 : Nat} {l1 : Int} {l2 : Int} {l3 : AV} : WP m171 39 [.inr (.inl l0), .inl l1, .inl l2, l3] [] σ Q = WP m171 40 [.inr (.inl l0), .inl l1, .inl l2, l3] [.inr (.inl l0)] σ Q := w_ld d171_39 rfl
theorem d171_40 : adec m171 40 = some (.getfield 24, 3) := by decide +kernel
theorem s171_40 {l0 : Nat} {l1 : Int} {l2 : Int} {l3 : AV} : WP m171 40 [.inr (.inl l0), .inl l1, .inl l2, l3] [.inr (.inl 130)] σ Q = WP m171 43 [.inr (.inl l0), .inl l1, .inl l2, l3] [.inr (.inl 134)] σ Q := (w_getR (c := 10) (n := 6) d171_40 (by decide +kernel) (by decide +kernel)).trans (g_and ⟨isO_dec (by decide +kernel), by decide +kernel⟩)
theorem d171_43 : adec m171 43 = some (.iload_n 1, 1) := by decide +kernel
theorem s171_43 {l0 : Nat} {l1 : Int} {l2 : Int} {l3 : AV} {x0 : Nat} : WP m171 43 [.inr (.inl l0), .inl l1, .inl l2, l3] [.inr (.inl x0)] σ Q = WP m171 44 [.inr (.inl l0), .inl l1, .inl l2, l3] [.inl l1, .inr (.inl x0)] σ Q := w_ld d171_43 rfl
theorem d171_44 : adec m171 44 = some (.iaload, 1) := by decide +kernel
theorem s171_44 {l0 : Nat} {l1 : Int} {l2 : Int} {l3 : AV} {x0 : Nat} {x1 : Int} : WP m171 44 [.inr (.inl l0), .inl l1, .inl l2, l3] [.inl x1, .inr (.inl x0)] σ Q = ((kdS x0 = 20 ∧ 0 ≤ x1 ∧ x1 < ln x0) ∧ WP m171 45 [.inr (.inl l0), .inl l1, .inl l2, l3] [.inl (σ x0 x1.toNat)] σ Q) := w_iald d171_44
theorem d171_45 : adec m171 45 = some (.ifCond .ne (10), 3) := by decide +kernel
theorem s171_45 {l0 : Nat} {l1 : Int} {l2 : Int} {l3 : AV} {x0 : Int} : WP m171 45 [.inr (.inl l0), .inl l1, .inl l2, l3] [.inl x0] σ Q = (if x0 = 0 then WP m171 48 [.inr (.inl l0), .inl l1, .inl l2, l3] [] σ Q else WP m171 55 [.inr (.inl l0), .inl l1, .inl l2, l3] [] σ Q) := w_ifne d171_45 (by decide)
theorem d171_48 : adec m171 48 = some (.aload_n 0, 1) := by decide +kernel
theorem s171_48 {l0 : Nat} {l1 : Int} {l2 : Int} {l3 : AV} : WP m171 48 [.inr (.inl l0), .inl l1, .inl l2, l3] [] σ Q = WP m171 49 [.inr (.inl l0), .inl l1, .inl l2, l3] [.inr (.inl l0)] σ Q := w_ld d171_48 rfl
theorem d171_49 : adec m171 49 = some (.invokevirtual 175, 3) := by decide +kernel
theorem s171_49 {l0 : Nat} {l1 : Int} {l2 : Int} {l3 : AV} : WP m171 49 [.inr (.inl l0), .inl l1, .inl l2, l3] [.inr (.inl 130)] σ Q = CA m133 [.inr (.inl 130)] σ (fun v σ2 => WP m171 52 [.inr (.inl l0), .inl l1, .inl l2, l3] (v ++ []) σ2 Q) := (w_cV (k := 133) d171_49 (by decide +kernel) m133_at rfl rfl ⟨Nat.le_of_ble_eq_true rfl, Nat.le_of_ble_eq_true rfl, Nat.le_of_ble_eq_true rfl⟩ (by decide)).trans (g_and (isO_dec (by decide +kernel)))
theorem d171_52 : adec m171 52 = some (.goto (4), 3) := by decide +kernel
theorem s171_52 {l0 : Nat} {l1 : Int} {l2 : Int} {l3 : AV} {x0 : Int} : WP m171 52 [.inr (.inl l0), .inl l1, .inl l2, l3] [.inl x0] σ Q = WP m171 56 [.inr (.inl l0), .inl l1, .inl l2, l3] [.inl x0] σ Q := w_goto d171_52 (by decide)
theorem d171_55 : adec m171 55 = some (.iconst (0), 1) := by decide +kernel
theorem s171_55 {l0 : Nat} {l1 : Int} {l2 : Int} {l3 : AV} : WP m171 55 [.inr (.inl l0), .inl l1, .inl l2, l3] [] σ Q = WP m171 56 [.inr (.inl l0), .inl l1, .inl l2, l3] [.inl (0)] σ Q := w_iconst d171_55 (by decide)
theorem d171_56 : adec m171 56 = some (.istore_n 3, 1) := by decide +kernel
theorem s171_56 {l0 : Nat} {l1 : Int} {l2 : Int} {l3 : AV} {x0 : Int} : WP m171 56 [.inr (.inl l0), .inl l1, .inl l2, l3] [.inl x0] σ Q = WP m171 57 [.inr (.inl l0), .inl l1, .inl l2, .inl x0] [] σ Q := w_st1 (j := 3) d171_56 rfl (Nat.le_of_ble_eq_true rfl) rfl
theorem d171_57 : adec m171 57 = some (.aload_n 0, 1) := by decide +kernel
theorem s171_57 {l0 : Nat} {l1 : Int} {l2 : Int} {l3 : Int} : WP m171 57 [.inr (.inl l0), .inl l1, .inl l2, .inl l3] [] σ Q = WP m171 58 [.inr (.inl l0), .inl l1, .inl l2, .inl l3] [.inr (.inl l0)] σ Q := w_ld d171_57 rfl
theorem d171_58 : adec m171 58 = some (.aload_n 0, 1) := by decide +kernel
theorem s171_58 {l0 : Nat} {l1 : Int} {l2 : Int} {l3 : Int} {x0 : Nat} : WP m171 58 [.inr (.inl l0), .inl l1, .inl l2, .inl l3] [.inr (.inl x0)] σ Q = WP m171 59 [.inr (.inl l0), .inl l1, .inl l2, .inl l3] [.inr (.inl l0), .inr (.inl x0)] σ Q := w_ld d171_58 rfl
theorem d171_59 : adec m171 59 = some (.aload_n 0, 1) := by decide +kernel
theorem s171_59 {l0 : Nat} {l1 : Int} {l2 : Int} {l3 : Int} {x0 : Nat} {x1 : Nat} : WP m171 59 [.inr (.inl l0), .inl l1, .inl l2, .inl l3] [.inr (.inl x1), .inr (.inl x0)] σ Q = WP m171 60 [.inr (.inl l0), .inl l1, .inl l2, .inl l3] [.inr (.inl l0), .inr (.inl x1), .inr (.inl x0)] σ Q := w_ld d171_59 rfl
theorem d171_60 : adec m171 60 = some (.getfield 24, 3) := by decide +kernel
theorem s171_60 {l0 : Nat} {l1 : Int} {l2 : Int} {l3 : Int} {x0 : Nat} {x1 : Nat} : WP m171 60 [.inr (.inl l0), .inl l1, .inl l2, .inl l3] [.inr (.inl 130), .inr (.inl x1), .inr (.inl x0)] σ Q = WP m171 63 [.inr (.inl l0), .inl l1, .inl l2, .inl l3] [.inr (.inl 134), .inr (.inl x1), .inr (.inl x0)] σ Q := (w_getR (c := 10) (n := 6) d171_60 (by decide +kernel) (by decide +kernel)).trans (g_and ⟨isO_dec (by decide +kernel), by decide +kernel⟩)
theorem d171_63 : adec m171 63 = some (.iload_n 1, 1) := by decide +kernel
theorem s171_63 {l0 : Nat} {l1 : Int} {l2 : Int} {l3 : Int} {x0 : Nat} {x1 : Nat} {x2 : Nat} : WP m171 63 [.inr (.inl l0), .inl l1, .inl l2, .inl l3] [.inr (.inl x2), .inr (.inl x1), .inr (.inl x0)] σ Q = WP m171 64 [.inr (.inl l0), .inl l1, .inl l2, .inl l3] [.inl l1, .inr (.inl x2), .inr (.inl x1), .inr (.inl x0)] σ Q := w_ld d171_63 rfl
theorem d171_64 : adec m171 64 = some (.iaload, 1) := by decide +kernel
theorem s171_64 {l0 : Nat} {l1 : Int} {l2 : Int} {l3 : Int} {x0 : Nat} {x1 : Nat} {x2 : Nat} {x3 : Int} : WP m171 64 [.inr (.inl l0), .inl l1, .inl l2, .inl l3] [.inl x3, .inr (.inl x2), .inr (.inl x1), .inr (.inl x0)] σ Q = ((kdS x2 = 20 ∧ 0 ≤ x3 ∧ x3 < ln x2) ∧ WP m171 65 [.inr (.inl l0), .inl l1, .inl l2, .inl l3] [.inl (σ x2 x3.toNat), .inr (.inl x1), .inr (.inl x0)] σ Q) := w_iald d171_64
theorem d171_65 : adec m171 65 = some (.iload_n 2, 1) := by decide +kernel
theorem s171_65 {l0 : Nat} {l1 : Int} {l2 : Int} {l3 : Int} {x0 : Nat} {x1 : Nat} {x2 : Int} : WP m171 65 [.inr (.inl l0), .inl l1, .inl l2, .inl l3] [.inl x2, .inr (.inl x1), .inr (.inl x0)] σ Q = WP m171 66 [.inr (.inl l0), .inl l1, .inl l2, .inl l3] [.inl l2, .inl x2, .inr (.inl x1), .inr (.inl x0)] σ Q := w_ld d171_65 rfl
theorem d171_66 : adec m171 66 = some (.iload_n 3, 1) := by decide +kernel
theorem s171_66 {l0 : Nat} {l1 : Int} {l2 : Int} {l3 : Int} {x0 : Nat} {x1 : Nat} {x2 : Int} {x3 : Int} : WP m171 66 [.inr (.inl l0), .inl l1, .inl l2, .inl l3] [.inl x3, .inl x2, .inr (.inl x1), .inr (.inl x0)] σ Q = WP m171 67 [.inr (.inl l0), .inl l1, .inl l2, .inl l3] [.inl l3, .inl x3, .inl x2, .inr (.inl x1), .inr (.inl x0)] σ Q := w_ld d171_66 rfl
theorem d171_67 : adec m171 67 = some (.invokevirtual 245, 3) := by decide +kernel
theorem s171_67 {l0 : Nat} {l1 : Int} {l2 : Int} {l3 : Int} {x0 : Nat} {x2 : Int} {x3 : Int} {x4 : Int} : WP m171 67 [.inr (.inl l0), .inl l1, .inl l2, .inl l3] [.inl x4, .inl x3, .inl x2, .inr (.inl 130), .inr (.inl x0)] σ Q = CA m169 [.inr (.inl 130), .inl x2, .inl x3, .inl x4] σ (fun v σ2 => WP m171 70 [.inr (.inl l0), .inl l1, .inl l2, .inl l3] (v ++ [.inr (.inl x0)]) σ2 Q) := (w_cV (k := 169) d171_67 (by decide +kernel) m169_at rfl rfl ⟨Nat.le_of_ble_eq_true rfl, Nat.le_of_ble_eq_true rfl, Nat.le_of_ble_eq_true rfl⟩ (by decide)).trans (g_and (isO_dec (by decide +kernel)))
theorem d171_70 : adec m171 70 = some (.invokevirtual 172, 3) := by decide +kernel
theorem s171_70 {l0 : Nat} {l1 : Int} {l2 : Int} {l3 : Int} {x1 : Int} : WP m171 70 [.inr (.inl l0), .inl l1, .inl l2, .inl l3] [.inl x1, .inr (.inl 130)] σ Q = CA m132 [.inr (.inl 130), .inl x1] σ (fun v σ2 => WP m171 73 [.inr (.inl l0), .inl l1, .inl l2, .inl l3] (v ++ []) σ2 Q) := (w_cV (k := 132) d171_70 (by decide +kernel) m132_at rfl rfl ⟨Nat.le_of_ble_eq_true rfl, Nat.le_of_ble_eq_true rfl, Nat.le_of_ble_eq_true rfl⟩ (by decide)).trans (g_and (isO_dec (by decide +kernel)))
theorem d171_73 : adec m171 73 = some (.iinc 1 (-1), 3) := by decide +kernel
theorem s171_73 {l0 : Nat} {l1 : Int} {l2 : Int} {l3 : Int} : WP m171 73 [.inr (.inl l0), .inl l1, .inl l2, .inl l3] [] σ Q = (inI (l1 + (-1)) ∧ WP m171 76 [.inr (.inl l0), .inl (l1 + (-1)), .inl l2, .inl l3] [] σ Q) := w_iinc d171_73 rfl rfl
theorem d171_76 : adec m171 76 = some (.goto (-59), 3) := by decide +kernel
theorem s171_76 {l0 : Nat} {l1 : Int} {l2 : Int} {l3 : Int} : WP m171 76 [.inr (.inl l0), .inl l1, .inl l2, .inl l3] [] σ Q = WP m171 17 [.inr (.inl l0), .inl l1, .inl l2, .inl l3] [] σ Q := w_goto d171_76 (by decide)
theorem d171_79 : adec m171 79 = some (.aload_n 0, 1) := by decide +kernel
theorem s171_79 {l0 : Nat} {l1 : Int} {l2 : AV} {l3 : AV} : WP m171 79 [.inr (.inl l0), .inl l1, l2, l3] [] σ Q = WP m171 80 [.inr (.inl l0), .inl l1, l2, l3] [.inr (.inl l0)] σ Q := w_ld d171_79 rfl
theorem d171_80 : adec m171 80 = some (.invokevirtual 175, 3) := by decide +kernel
theorem s171_80 {l0 : Nat} {l1 : Int} {l2 : AV} {l3 : AV} : WP m171 80 [.inr (.inl l0), .inl l1, l2, l3] [.inr (.inl 130)] σ Q = CA m133 [.inr (.inl 130)] σ (fun v σ2 => WP m171 83 [.inr (.inl l0), .inl l1, l2, l3] (v ++ []) σ2 Q) := (w_cV (k := 133) d171_80 (by decide +kernel) m133_at rfl rfl ⟨Nat.le_of_ble_eq_true rfl, Nat.le_of_ble_eq_true rfl, Nat.le_of_ble_eq_true rfl⟩ (by decide)).trans (g_and (isO_dec (by decide +kernel)))
theorem d171_83 : adec m171 83 = some (.ireturn, 1) := by decide +kernel
theorem s171_83 {l0 : Nat} {l1 : Int} {l2 : AV} {l3 : AV} {x0 : Int} : WP m171 83 [.inr (.inl l0), .inl l1, l2, l3] [.inl x0] σ Q = Q [.inl x0] σ := w_ri d171_83 rfl
theorem e171 {p0 : Nat} : CA m171 [.inr (.inl p0)] σ Q = WP m171 0 [.inr (.inl p0), vU, vU, vU] [] σ Q := rfl
-- BinderPressModel.writeOut(I)V
theorem d172_0 : adec m172 0 = some (.aload_n 0, 1) := by decide +kernel
theorem s172_0 {l0 : Nat} {l1 : Int} {l2 : AV} : WP m172 0 [.inr (.inl l0), .inl l1, l2] [] σ Q = WP m172 1 [.inr (.inl l0), .inl l1, l2] [.inr (.inl l0)] σ Q := w_ld d172_0 rfl
theorem d172_1 : adec m172 1 = some (.iconst (0), 1) := by decide +kernel
theorem s172_1 {l0 : Nat} {l1 : Int} {l2 : AV} {x0 : Nat} : WP m172 1 [.inr (.inl l0), .inl l1, l2] [.inr (.inl x0)] σ Q = WP m172 2 [.inr (.inl l0), .inl l1, l2] [.inl (0), .inr (.inl x0)] σ Q := w_iconst d172_1 (by decide)
theorem d172_2 : adec m172 2 = some (.putfield 97, 3) := by decide +kernel
theorem s172_2 {l0 : Nat} {l1 : Int} {l2 : AV} {x1 : Int} : WP m172 2 [.inr (.inl l0), .inl l1, l2] [.inl x1, .inr (.inl 130)] σ Q = WP m172 5 [.inr (.inl l0), .inl l1, l2] [] (aup σ 130 9 x1) Q := (w_putI (c := 10) (n := 9) d172_2 (by decide +kernel) (by decide +kernel) (by decide +kernel)).trans (g_and (isO_dec (by decide +kernel)))
theorem d172_5 : adec m172 5 = some (.aload_n 0, 1) := by decide +kernel
theorem s172_5 {l0 : Nat} {l1 : Int} {l2 : AV} : WP m172 5 [.inr (.inl l0), .inl l1, l2] [] σ Q = WP m172 6 [.inr (.inl l0), .inl l1, l2] [.inr (.inl l0)] σ Q := w_ld d172_5 rfl
theorem d172_6 : adec m172 6 = some (.iconst (0), 1) := by decide +kernel
theorem s172_6 {l0 : Nat} {l1 : Int} {l2 : AV} {x0 : Nat} : WP m172 6 [.inr (.inl l0), .inl l1, l2] [.inr (.inl x0)] σ Q = WP m172 7 [.inr (.inl l0), .inl l1, l2] [.inl (0), .inr (.inl x0)] σ Q := w_iconst d172_6 (by decide)
theorem d172_7 : adec m172 7 = some (.putfield 94, 3) := by decide +kernel
theorem s172_7 {l0 : Nat} {l1 : Int} {l2 : AV} {x1 : Int} : WP m172 7 [.inr (.inl l0), .inl l1, l2] [.inl x1, .inr (.inl 130)] σ Q = WP m172 10 [.inr (.inl l0), .inl l1, l2] [] (aup σ 130 11 x1) Q := (w_putI (c := 10) (n := 11) d172_7 (by decide +kernel) (by decide +kernel) (by decide +kernel)).trans (g_and (isO_dec (by decide +kernel)))
theorem d172_10 : adec m172 10 = some (.aload_n 0, 1) := by decide +kernel
theorem s172_10 {l0 : Nat} {l1 : Int} {l2 : AV} : WP m172 10 [.inr (.inl l0), .inl l1, l2] [] σ Q = WP m172 11 [.inr (.inl l0), .inl l1, l2] [.inr (.inl l0)] σ Q := w_ld d172_10 rfl
theorem d172_11 : adec m172 11 = some (.iload_n 1, 1) := by decide +kernel
theorem s172_11 {l0 : Nat} {l1 : Int} {l2 : AV} {x0 : Nat} : WP m172 11 [.inr (.inl l0), .inl l1, l2] [.inr (.inl x0)] σ Q = WP m172 12 [.inr (.inl l0), .inl l1, l2] [.inl l1, .inr (.inl x0)] σ Q := w_ld d172_11 rfl
theorem d172_12 : adec m172 12 = some (.invokevirtual 172, 3) := by decide +kernel
theorem s172_12 {l0 : Nat} {l1 : Int} {l2 : AV} {x1 : Int} : WP m172 12 [.inr (.inl l0), .inl l1, l2] [.inl x1, .inr (.inl 130)] σ Q = CA m132 [.inr (.inl 130), .inl x1] σ (fun v σ2 => WP m172 15 [.inr (.inl l0), .inl l1, l2] (v ++ []) σ2 Q) := (w_cV (k := 132) d172_12 (by decide +kernel) m132_at rfl rfl ⟨Nat.le_of_ble_eq_true rfl, Nat.le_of_ble_eq_true rfl, Nat.le_of_ble_eq_true rfl⟩ (by decide)).trans (g_and (isO_dec (by decide +kernel)))
theorem d172_15 : adec m172 15 = some (.aload_n 0, 1) := by decide +kernel
theorem s172_15 {l0 : Nat} {l1 : Int} {l2 : AV} : WP m172 15 [.inr (.inl l0), .inl l1, l2] [] σ Q = WP m172 16 [.inr (.inl l0), .inl l1, l2] [.inr (.inl l0)] σ Q := w_ld d172_15 rfl
theorem d172_16 : adec m172 16 = some (.getfield 94, 3) := by decide +kernel
theorem s172_16 {l0 : Nat} {l1 : Int} {l2 : AV} : WP m172 16 [.inr (.inl l0), .inl l1, l2] [.inr (.inl 130)] σ Q = WP m172 19 [.inr (.inl l0), .inl l1, l2] [.inl (σ 130 11)] σ Q := (w_getI (c := 10) (n := 11) d172_16 (by decide +kernel) (by decide +kernel)).trans (g_and (isO_dec (by decide +kernel)))
theorem d172_19 : adec m172 19 = some (.ifCond .le (64), 3) := by decide +kernel
theorem s172_19 {l0 : Nat} {l1 : Int} {l2 : AV} {x0 : Int} : WP m172 19 [.inr (.inl l0), .inl l1, l2] [.inl x0] σ Q = (if x0 ≤ 0 then WP m172 83 [.inr (.inl l0), .inl l1, l2] [] σ Q else WP m172 22 [.inr (.inl l0), .inl l1, l2] [] σ Q) := w_ifle d172_19 (by decide)
theorem d172_22 : adec m172 22 = some (.aload_n 0, 1) := by decide +kernel
theorem s172_22 {l0 : Nat} {l1 : Int} {l2 : AV} : WP m172 22 [.inr (.inl l0), .inl l1, l2] [] σ Q = WP m172 23 [.inr (.inl l0), .inl l1, l2] [.inr (.inl l0)] σ Q := w_ld d172_22 rfl
theorem d172_23 : adec m172 23 = some (.getfield 97, 3) := by decide +kernel
theorem s172_23 {l0 : Nat} {l1 : Int} {l2 : AV} : WP m172 23 [.inr (.inl l0), .inl l1, l2] [.inr (.inl 130)] σ Q = WP m172 26 [.inr (.inl l0), .inl l1, l2] [.inl (σ 130 9)] σ Q := (w_getI (c := 10) (n := 9) d172_23 (by decide +kernel) (by decide +kernel)).trans (g_and (isO_dec (by decide +kernel)))
theorem d172_26 : adec m172 26 = some (.sipush (300), 3) := by decide +kernel
theorem s172_26 {l0 : Nat} {l1 : Int} {l2 : AV} {x0 : Int} : WP m172 26 [.inr (.inl l0), .inl l1, l2] [.inl x0] σ Q = WP m172 29 [.inr (.inl l0), .inl l1, l2] [.inl (300), .inl x0] σ Q := w_sipush d172_26 (by decide)
theorem d172_29 : adec m172 29 = some (.if_icmp .gt (54), 3) := by decide +kernel
theorem s172_29 {l0 : Nat} {l1 : Int} {l2 : AV} {x0 : Int} {x1 : Int} : WP m172 29 [.inr (.inl l0), .inl l1, l2] [.inl x1, .inl x0] σ Q = (if x1 < x0 then WP m172 83 [.inr (.inl l0), .inl l1, l2] [] σ Q else WP m172 32 [.inr (.inl l0), .inl l1, l2] [] σ Q) := w_icgt d172_29 (by decide)
theorem d172_32 : adec m172 32 = some (.aload_n 0, 1) := by decide +kernel
theorem s172_32 {l0 : Nat} {l1 : Int} {l2 : AV} : WP m172 32 [.inr (.inl l0), .inl l1, l2] [] σ Q = WP m172 33 [.inr (.inl l0), .inl l1, l2] [.inr (.inl l0)] σ Q := w_ld d172_32 rfl
theorem d172_33 : adec m172 33 = some (.aload_n 0, 1) := by decide +kernel
theorem s172_33 {l0 : Nat} {l1 : Int} {l2 : AV} {x0 : Nat} : WP m172 33 [.inr (.inl l0), .inl l1, l2] [.inr (.inl x0)] σ Q = WP m172 34 [.inr (.inl l0), .inl l1, l2] [.inr (.inl l0), .inr (.inl x0)] σ Q := w_ld d172_33 rfl
theorem d172_34 : adec m172 34 = some (.invokevirtual 175, 3) := by decide +kernel
theorem s172_34 {l0 : Nat} {l1 : Int} {l2 : AV} {x0 : Nat} : WP m172 34 [.inr (.inl l0), .inl l1, l2] [.inr (.inl 130), .inr (.inl x0)] σ Q = CA m133 [.inr (.inl 130)] σ (fun v σ2 => WP m172 37 [.inr (.inl l0), .inl l1, l2] (v ++ [.inr (.inl x0)]) σ2 Q) := (w_cV (k := 133) d172_34 (by decide +kernel) m133_at rfl rfl ⟨Nat.le_of_ble_eq_true rfl, Nat.le_of_ble_eq_true rfl, Nat.le_of_ble_eq_true rfl⟩ (by decide)).trans (g_and (isO_dec (by decide +kernel)))
theorem d172_37 : adec m172 37 = some (.invokevirtual 249, 3) := by decide +kernel
theorem s172_37 {l0 : Nat} {l1 : Int} {l2 : AV} {x1 : Int} : WP m172 37 [.inr (.inl l0), .inl l1, l2] [.inl x1, .inr (.inl 130)] σ Q = CA m170 [.inr (.inl 130), .inl x1] σ (fun v σ2 => WP m172 40 [.inr (.inl l0), .inl l1, l2] (v ++ []) σ2 Q) := (w_cV (k := 170) d172_37 (by decide +kernel) m170_at rfl rfl ⟨Nat.le_of_ble_eq_true rfl, Nat.le_of_ble_eq_true rfl, Nat.le_of_ble_eq_true rfl⟩ (by decide)).trans (g_and (isO_dec (by decide +kernel)))
theorem d172_40 : adec m172 40 = some (.istore_n 2, 1) := by decide +kernel
theorem s172_40 {l0 : Nat} {l1 : Int} {l2 : AV} {x0 : Int} : WP m172 40 [.inr (.inl l0), .inl l1, l2] [.inl x0] σ Q = WP m172 41 [.inr (.inl l0), .inl l1, .inl x0] [] σ Q := w_st1 (j := 2) d172_40 rfl (Nat.le_of_ble_eq_true rfl) rfl
theorem d172_41 : adec m172 41 = some (.aload_n 0, 1) := by decide +kernel
theorem s172_41 {l0 : Nat} {l1 : Int} {l2 : Int} : WP m172 41 [.inr (.inl l0), .inl l1, .inl l2] [] σ Q = WP m172 42 [.inr (.inl l0), .inl l1, .inl l2] [.inr (.inl l0)] σ Q := w_ld d172_41 rfl
theorem d172_42 : adec m172 42 = some (.aload_n 0, 1) := by decide +kernel
theorem s172_42 {l0 : Nat} {l1 : Int} {l2 : Int} {x0 : Nat} : WP m172 42 [.inr (.inl l0), .inl l1, .inl l2] [.inr (.inl x0)] σ Q = WP m172 43 [.inr (.inl l0), .inl l1, .inl l2] [.inr (.inl l0), .inr (.inl x0)] σ Q := w_ld d172_42 rfl
theorem d172_43 : adec m172 43 = some (.getfield 42, 3) := by decide +kernel
theorem s172_43 {l0 : Nat} {l1 : Int} {l2 : Int} {x0 : Nat} : WP m172 43 [.inr (.inl l0), .inl l1, .inl l2] [.inr (.inl 130), .inr (.inl x0)] σ Q = WP m172 46 [.inr (.inl l0), .inl l1, .inl l2] [.inr (.inl 140), .inr (.inl x0)] σ Q := (w_getR (c := 10) (n := 20) d172_43 (by decide +kernel) (by decide +kernel)).trans (g_and ⟨isO_dec (by decide +kernel), by decide +kernel⟩)
theorem d172_46 : adec m172 46 = some (.iload_n 2, 1) := by decide +kernel
theorem s172_46 {l0 : Nat} {l1 : Int} {l2 : Int} {x0 : Nat} {x1 : Nat} : WP m172 46 [.inr (.inl l0), .inl l1, .inl l2] [.inr (.inl x1), .inr (.inl x0)] σ Q = WP m172 47 [.inr (.inl l0), .inl l1, .inl l2] [.inl l2, .inr (.inl x1), .inr (.inl x0)] σ Q := w_ld d172_46 rfl
theorem d172_47 : adec m172 47 = some (.iaload, 1) := by decide +kernel
theorem s172_47 {l0 : Nat} {l1 : Int} {l2 : Int} {x0 : Nat} {x1 : Nat} {x2 : Int} : WP m172 47 [.inr (.inl l0), .inl l1, .inl l2] [.inl x2, .inr (.inl x1), .inr (.inl x0)] σ Q = ((kdS x1 = 20 ∧ 0 ≤ x2 ∧ x2 < ln x1) ∧ WP m172 48 [.inr (.inl l0), .inl l1, .inl l2] [.inl (σ x1 x2.toNat), .inr (.inl x0)] σ Q) := w_iald d172_47
theorem d172_48 : adec m172 48 = some (.invokevirtual 168, 3) := by decide +kernel
theorem s172_48 {l0 : Nat} {l1 : Int} {l2 : Int} {x1 : Int} : WP m172 48 [.inr (.inl l0), .inl l1, .inl l2] [.inl x1, .inr (.inl 130)] σ Q = CA m134 [.inr (.inl 130), .inl x1] σ (fun v σ2 => WP m172 51 [.inr (.inl l0), .inl l1, .inl l2] (v ++ []) σ2 Q) := (w_cV (k := 134) d172_48 (by decide +kernel) m134_at rfl rfl ⟨Nat.le_of_ble_eq_true rfl, Nat.le_of_ble_eq_true rfl, Nat.le_of_ble_eq_true rfl⟩ (by decide)).trans (g_and (isO_dec (by decide +kernel)))
theorem d172_51 : adec m172 51 = some (.aload_n 0, 1) := by decide +kernel
theorem s172_51 {l0 : Nat} {l1 : Int} {l2 : Int} : WP m172 51 [.inr (.inl l0), .inl l1, .inl l2] [] σ Q = WP m172 52 [.inr (.inl l0), .inl l1, .inl l2] [.inr (.inl l0)] σ Q := w_ld d172_51 rfl
theorem d172_52 : adec m172 52 = some (.getfield 42, 3) := by decide +kernel
theorem s172_52 {l0 : Nat} {l1 : Int} {l2 : Int} : WP m172 52 [.inr (.inl l0), .inl l1, .inl l2] [.inr (.inl 130)] σ Q = WP m172 55 [.inr (.inl l0), .inl l1, .inl l2] [.inr (.inl 140)] σ Q := (w_getR (c := 10) (n := 20) d172_52 (by decide +kernel) (by decide +kernel)).trans (g_and ⟨isO_dec (by decide +kernel), by decide +kernel⟩)
theorem d172_55 : adec m172 55 = some (.iload_n 2, 1) := by decide +kernel
theorem s172_55 {l0 : Nat} {l1 : Int} {l2 : Int} {x0 : Nat} : WP m172 55 [.inr (.inl l0), .inl l1, .inl l2] [.inr (.inl x0)] σ Q = WP m172 56 [.inr (.inl l0), .inl l1, .inl l2] [.inl l2, .inr (.inl x0)] σ Q := w_ld d172_55 rfl
theorem d172_56 : adec m172 56 = some (.iaload, 1) := by decide +kernel
theorem s172_56 {l0 : Nat} {l1 : Int} {l2 : Int} {x0 : Nat} {x1 : Int} : WP m172 56 [.inr (.inl l0), .inl l1, .inl l2] [.inl x1, .inr (.inl x0)] σ Q = ((kdS x0 = 20 ∧ 0 ≤ x1 ∧ x1 < ln x0) ∧ WP m172 57 [.inr (.inl l0), .inl l1, .inl l2] [.inl (σ x0 x1.toNat)] σ Q) := w_iald d172_56
theorem d172_57 : adec m172 57 = some (.ifCond .ne (23), 3) := by decide +kernel
theorem s172_57 {l0 : Nat} {l1 : Int} {l2 : Int} {x0 : Int} : WP m172 57 [.inr (.inl l0), .inl l1, .inl l2] [.inl x0] σ Q = (if x0 = 0 then WP m172 60 [.inr (.inl l0), .inl l1, .inl l2] [] σ Q else WP m172 80 [.inr (.inl l0), .inl l1, .inl l2] [] σ Q) := w_ifne d172_57 (by decide)
theorem d172_60 : adec m172 60 = some (.aload_n 0, 1) := by decide +kernel
theorem s172_60 {l0 : Nat} {l1 : Int} {l2 : Int} : WP m172 60 [.inr (.inl l0), .inl l1, .inl l2] [] σ Q = WP m172 61 [.inr (.inl l0), .inl l1, .inl l2] [.inr (.inl l0)] σ Q := w_ld d172_60 rfl
theorem d172_61 : adec m172 61 = some (.aload_n 0, 1) := by decide +kernel
theorem s172_61 {l0 : Nat} {l1 : Int} {l2 : Int} {x0 : Nat} : WP m172 61 [.inr (.inl l0), .inl l1, .inl l2] [.inr (.inl x0)] σ Q = WP m172 62 [.inr (.inl l0), .inl l1, .inl l2] [.inr (.inl l0), .inr (.inl x0)] σ Q := w_ld d172_61 rfl
theorem d172_62 : adec m172 62 = some (.getfield 48, 3) := by decide +kernel
theorem s172_62 {l0 : Nat} {l1 : Int} {l2 : Int} {x0 : Nat} : WP m172 62 [.inr (.inl l0), .inl l1, .inl l2] [.inr (.inl 130), .inr (.inl x0)] σ Q = WP m172 65 [.inr (.inl l0), .inl l1, .inl l2] [.inr (.inl 142), .inr (.inl x0)] σ Q := (w_getR (c := 10) (n := 22) d172_62 (by decide +kernel) (by decide +kernel)).trans (g_and ⟨isO_dec (by decide +kernel), by decide +kernel⟩)
theorem d172_65 : adec m172 65 = some (.iload_n 2, 1) := by decide +kernel
theorem s172_65 {l0 : Nat} {l1 : Int} {l2 : Int} {x0 : Nat} {x1 : Nat} : WP m172 65 [.inr (.inl l0), .inl l1, .inl l2] [.inr (.inl x1), .inr (.inl x0)] σ Q = WP m172 66 [.inr (.inl l0), .inl l1, .inl l2] [.inl l2, .inr (.inl x1), .inr (.inl x0)] σ Q := w_ld d172_65 rfl
theorem d172_66 : adec m172 66 = some (.iaload, 1) := by decide +kernel
theorem s172_66 {l0 : Nat} {l1 : Int} {l2 : Int} {x0 : Nat} {x1 : Nat} {x2 : Int} : WP m172 66 [.inr (.inl l0), .inl l1, .inl l2] [.inl x2, .inr (.inl x1), .inr (.inl x0)] σ Q = ((kdS x1 = 20 ∧ 0 ≤ x2 ∧ x2 < ln x1) ∧ WP m172 67 [.inr (.inl l0), .inl l1, .inl l2] [.inl (σ x1 x2.toNat), .inr (.inl x0)] σ Q) := w_iald d172_66
theorem d172_67 : adec m172 67 = some (.invokevirtual 172, 3) := by decide +kernel
theorem s172_67 {l0 : Nat} {l1 : Int} {l2 : Int} {x1 : Int} : WP m172 67 [.inr (.inl l0), .inl l1, .inl l2] [.inl x1, .inr (.inl 130)] σ Q = CA m132 [.inr (.inl 130), .inl x1] σ (fun v σ2 => WP m172 70 [.inr (.inl l0), .inl l1, .inl l2] (v ++ []) σ2 Q) := (w_cV (k := 132) d172_67 (by decide +kernel) m132_at rfl rfl ⟨Nat.le_of_ble_eq_true rfl, Nat.le_of_ble_eq_true rfl, Nat.le_of_ble_eq_true rfl⟩ (by decide)).trans (g_and (isO_dec (by decide +kernel)))
theorem d172_70 : adec m172 70 = some (.aload_n 0, 1) := by decide +kernel
theorem s172_70 {l0 : Nat} {l1 : Int} {l2 : Int} : WP m172 70 [.inr (.inl l0), .inl l1, .inl l2] [] σ Q = WP m172 71 [.inr (.inl l0), .inl l1, .inl l2] [.inr (.inl l0)] σ Q := w_ld d172_70 rfl
theorem d172_71 : adec m172 71 = some (.aload_n 0, 1) := by decide +kernel
theorem s172_71 {l0 : Nat} {l1 : Int} {l2 : Int} {x0 : Nat} : WP m172 71 [.inr (.inl l0), .inl l1, .inl l2] [.inr (.inl x0)] σ Q = WP m172 72 [.inr (.inl l0), .inl l1, .inl l2] [.inr (.inl l0), .inr (.inl x0)] σ Q := w_ld d172_71 rfl
theorem d172_72 : adec m172 72 = some (.getfield 45, 3) := by decide +kernel
theorem s172_72 {l0 : Nat} {l1 : Int} {l2 : Int} {x0 : Nat} : WP m172 72 [.inr (.inl l0), .inl l1, .inl l2] [.inr (.inl 130), .inr (.inl x0)] σ Q = WP m172 75 [.inr (.inl l0), .inl l1, .inl l2] [.inr (.inl 141), .inr (.inl x0)] σ Q := (w_getR (c := 10) (n := 21) d172_72 (by decide +kernel) (by decide +kernel)).trans (g_and ⟨isO_dec (by decide +kernel), by decide +kernel⟩)
theorem d172_75 : adec m172 75 = some (.iload_n 2, 1) := by decide +kernel
theorem s172_75 {l0 : Nat} {l1 : Int} {l2 : Int} {x0 : Nat} {x1 : Nat} : WP m172 75 [.inr (.inl l0), .inl l1, .inl l2] [.inr (.inl x1), .inr (.inl x0)] σ Q = WP m172 76 [.inr (.inl l0), .inl l1, .inl l2] [.inl l2, .inr (.inl x1), .inr (.inl x0)] σ Q := w_ld d172_75 rfl
theorem d172_76 : adec m172 76 = some (.iaload, 1) := by decide +kernel
theorem s172_76 {l0 : Nat} {l1 : Int} {l2 : Int} {x0 : Nat} {x1 : Nat} {x2 : Int} : WP m172 76 [.inr (.inl l0), .inl l1, .inl l2] [.inl x2, .inr (.inl x1), .inr (.inl x0)] σ Q = ((kdS x1 = 20 ∧ 0 ≤ x2 ∧ x2 < ln x1) ∧ WP m172 77 [.inr (.inl l0), .inl l1, .inl l2] [.inl (σ x1 x2.toNat), .inr (.inl x0)] σ Q) := w_iald d172_76
theorem d172_77 : adec m172 77 = some (.invokevirtual 172, 3) := by decide +kernel
theorem s172_77 {l0 : Nat} {l1 : Int} {l2 : Int} {x1 : Int} : WP m172 77 [.inr (.inl l0), .inl l1, .inl l2] [.inl x1, .inr (.inl 130)] σ Q = CA m132 [.inr (.inl 130), .inl x1] σ (fun v σ2 => WP m172 80 [.inr (.inl l0), .inl l1, .inl l2] (v ++ []) σ2 Q) := (w_cV (k := 132) d172_77 (by decide +kernel) m132_at rfl rfl ⟨Nat.le_of_ble_eq_true rfl, Nat.le_of_ble_eq_true rfl, Nat.le_of_ble_eq_true rfl⟩ (by decide)).trans (g_and (isO_dec (by decide +kernel)))
theorem d172_80 : adec m172 80 = some (.goto (-65), 3) := by decide +kernel
theorem s172_80 {l0 : Nat} {l1 : Int} {l2 : Int} : WP m172 80 [.inr (.inl l0), .inl l1, .inl l2] [] σ Q = WP m172 15 [.inr (.inl l0), .inl l1, .inl l2] [] σ Q := w_goto d172_80 (by decide)
theorem d172_83 : adec m172 83 = some (.aload_n 0, 1) := by decide +kernel
theorem s172_83 {l0 : Nat} {l1 : Int} {l2 : AV} : WP m172 83 [.inr (.inl l0), .inl l1, l2] [] σ Q = WP m172 84 [.inr (.inl l0), .inl l1, l2] [.inr (.inl l0)] σ Q := w_ld d172_83 rfl
theorem d172_84 : adec m172 84 = some (.aload_n 0, 1) := by decide +kernel
theorem s172_84 {l0 : Nat} {l1 : Int} {l2 : AV} {x0 : Nat} : WP m172 84 [.inr (.inl l0), .inl l1, l2] [.inr (.inl x0)] σ Q = WP m172 85 [.inr (.inl l0), .inl l1, l2] [.inr (.inl l0), .inr (.inl x0)] σ Q := w_ld d172_84 rfl
theorem d172_85 : adec m172 85 = some (.getfield 97, 3) := by decide +kernel
theorem s172_85 {l0 : Nat} {l1 : Int} {l2 : AV} {x0 : Nat} : WP m172 85 [.inr (.inl l0), .inl l1, l2] [.inr (.inl 130), .inr (.inl x0)] σ Q = WP m172 88 [.inr (.inl l0), .inl l1, l2] [.inl (σ 130 9), .inr (.inl x0)] σ Q := (w_getI (c := 10) (n := 9) d172_85 (by decide +kernel) (by decide +kernel)).trans (g_and (isO_dec (by decide +kernel)))
theorem d172_88 : adec m172 88 = some (.sipush (300), 3) := by decide +kernel
theorem s172_88 {l0 : Nat} {l1 : Int} {l2 : AV} {x0 : Nat} {x1 : Int} : WP m172 88 [.inr (.inl l0), .inl l1, l2] [.inl x1, .inr (.inl x0)] σ Q = WP m172 91 [.inr (.inl l0), .inl l1, l2] [.inl (300), .inl x1, .inr (.inl x0)] σ Q := w_sipush d172_88 (by decide)
theorem d172_91 : adec m172 91 = some (.if_icmp .le (7), 3) := by decide +kernel
theorem s172_91 {l0 : Nat} {l1 : Int} {l2 : AV} {x0 : Nat} {x1 : Int} {x2 : Int} : WP m172 91 [.inr (.inl l0), .inl l1, l2] [.inl x2, .inl x1, .inr (.inl x0)] σ Q = (if x1 ≤ x2 then WP m172 98 [.inr (.inl l0), .inl l1, l2] [.inr (.inl x0)] σ Q else WP m172 94 [.inr (.inl l0), .inl l1, l2] [.inr (.inl x0)] σ Q) := w_icle d172_91 (by decide)
theorem d172_94 : adec m172 94 = some (.iconst (1), 1) := by decide +kernel
theorem s172_94 {l0 : Nat} {l1 : Int} {l2 : AV} {x0 : Nat} : WP m172 94 [.inr (.inl l0), .inl l1, l2] [.inr (.inl x0)] σ Q = WP m172 95 [.inr (.inl l0), .inl l1, l2] [.inl (1), .inr (.inl x0)] σ Q := w_iconst d172_94 (by decide)
theorem d172_95 : adec m172 95 = some (.goto (4), 3) := by decide +kernel
theorem s172_95 {l0 : Nat} {l1 : Int} {l2 : AV} {x0 : Nat} {x1 : Int} : WP m172 95 [.inr (.inl l0), .inl l1, l2] [.inl x1, .inr (.inl x0)] σ Q = WP m172 99 [.inr (.inl l0), .inl l1, l2] [.inl x1, .inr (.inl x0)] σ Q := w_goto d172_95 (by decide)
theorem d172_98 : adec m172 98 = some (.iconst (0), 1) := by decide +kernel
theorem s172_98 {l0 : Nat} {l1 : Int} {l2 : AV} {x0 : Nat} : WP m172 98 [.inr (.inl l0), .inl l1, l2] [.inr (.inl x0)] σ Q = WP m172 99 [.inr (.inl l0), .inl l1, l2] [.inl (0), .inr (.inl x0)] σ Q := w_iconst d172_98 (by decide)
theorem d172_99 : adec m172 99 = some (.putfield 229, 3) := by decide +kernel
theorem s172_99 {l0 : Nat} {l1 : Int} {l2 : AV} {x1 : Int} : WP m172 99 [.inr (.inl l0), .inl l1, l2] [.inl x1, .inr (.inl 130)] σ Q = ((x1 = 0 ∨ x1 = 1) ∧ WP m172 102 [.inr (.inl l0), .inl l1, l2] [] (aup σ 130 18 x1) Q) := (w_putZ (c := 10) (n := 18) d172_99 (by decide +kernel) (by decide +kernel) (by decide +kernel)).trans (g_and2 (isO_dec (by decide +kernel)))
theorem d172_102 : adec m172 102 = some (.aload_n 0, 1) := by decide +kernel
theorem s172_102 {l0 : Nat} {l1 : Int} {l2 : AV} : WP m172 102 [.inr (.inl l0), .inl l1, l2] [] σ Q = WP m172 103 [.inr (.inl l0), .inl l1, l2] [.inr (.inl l0)] σ Q := w_ld d172_102 rfl
theorem d172_103 : adec m172 103 = some (.invokevirtual 192, 3) := by decide +kernel
theorem s172_103 {l0 : Nat} {l1 : Int} {l2 : AV} : WP m172 103 [.inr (.inl l0), .inl l1, l2] [.inr (.inl 130)] σ Q = CA m139 [.inr (.inl 130)] σ (fun v σ2 => WP m172 106 [.inr (.inl l0), .inl l1, l2] (v ++ []) σ2 Q) := (w_cV (k := 139) d172_103 (by decide +kernel) m139_at rfl rfl ⟨Nat.le_of_ble_eq_true rfl, Nat.le_of_ble_eq_true rfl, Nat.le_of_ble_eq_true rfl⟩ (by decide)).trans (g_and (isO_dec (by decide +kernel)))
theorem d172_106 : adec m172 106 = some (.return_, 1) := by decide +kernel
theorem s172_106 {l0 : Nat} {l1 : Int} {l2 : AV} : WP m172 106 [.inr (.inl l0), .inl l1, l2] [] σ Q = Q [] σ := w_rv d172_106 rfl
theorem e172 {p0 : Nat} {p1 : Int} : CA m172 [.inr (.inl p0), .inl p1] σ Q = WP m172 0 [.inr (.inl p0), .inl p1, vU] [] σ Q := rfl
-- BinderPressModel.doesShared(I)Z
theorem d173_0 : adec m173 0 = some (.aload_n 0, 1) := by decide +kernel
theorem s173_0 {l0 : Nat} {l1 : Int} {l2 : AV} {l3 : AV} {l4 : AV} {l5 : AV} : WP m173 0 [.inr (.inl l0), .inl l1, l2, l3, l4, l5] [] σ Q = WP m173 1 [.inr (.inl l0), .inl l1, l2, l3, l4, l5] [.inr (.inl l0)] σ Q := w_ld d173_0 rfl
theorem d173_1 : adec m173 1 = some (.iconst (0), 1) := by decide +kernel
theorem s173_1 {l0 : Nat} {l1 : Int} {l2 : AV} {l3 : AV} {l4 : AV} {l5 : AV} {x0 : Nat} : WP m173 1 [.inr (.inl l0), .inl l1, l2, l3, l4, l5] [.inr (.inl x0)] σ Q = WP m173 2 [.inr (.inl l0), .inl l1, l2, l3, l4, l5] [.inl (0), .inr (.inl x0)] σ Q := w_iconst d173_1 (by decide)
theorem d173_2 : adec m173 2 = some (.putfield 94, 3) := by decide +kernel
theorem s173_2 {l0 : Nat} {l1 : Int} {l2 : AV} {l3 : AV} {l4 : AV} {l5 : AV} {x1 : Int} : WP m173 2 [.inr (.inl l0), .inl l1, l2, l3, l4, l5] [.inl x1, .inr (.inl 130)] σ Q = WP m173 5 [.inr (.inl l0), .inl l1, l2, l3, l4, l5] [] (aup σ 130 11 x1) Q := (w_putI (c := 10) (n := 11) d173_2 (by decide +kernel) (by decide +kernel) (by decide +kernel)).trans (g_and (isO_dec (by decide +kernel)))
theorem d173_5 : adec m173 5 = some (.aload_n 0, 1) := by decide +kernel
theorem s173_5 {l0 : Nat} {l1 : Int} {l2 : AV} {l3 : AV} {l4 : AV} {l5 : AV} : WP m173 5 [.inr (.inl l0), .inl l1, l2, l3, l4, l5] [] σ Q = WP m173 6 [.inr (.inl l0), .inl l1, l2, l3, l4, l5] [.inr (.inl l0)] σ Q := w_ld d173_5 rfl
theorem d173_6 : adec m173 6 = some (.iload_n 1, 1) := by decide +kernel
theorem s173_6 {l0 : Nat} {l1 : Int} {l2 : AV} {l3 : AV} {l4 : AV} {l5 : AV} {x0 : Nat} : WP m173 6 [.inr (.inl l0), .inl l1, l2, l3, l4, l5] [.inr (.inl x0)] σ Q = WP m173 7 [.inr (.inl l0), .inl l1, l2, l3, l4, l5] [.inl l1, .inr (.inl x0)] σ Q := w_ld d173_6 rfl
theorem d173_7 : adec m173 7 = some (.invokevirtual 172, 3) := by decide +kernel
theorem s173_7 {l0 : Nat} {l1 : Int} {l2 : AV} {l3 : AV} {l4 : AV} {l5 : AV} {x1 : Int} : WP m173 7 [.inr (.inl l0), .inl l1, l2, l3, l4, l5] [.inl x1, .inr (.inl 130)] σ Q = CA m132 [.inr (.inl 130), .inl x1] σ (fun v σ2 => WP m173 10 [.inr (.inl l0), .inl l1, l2, l3, l4, l5] (v ++ []) σ2 Q) := (w_cV (k := 132) d173_7 (by decide +kernel) m132_at rfl rfl ⟨Nat.le_of_ble_eq_true rfl, Nat.le_of_ble_eq_true rfl, Nat.le_of_ble_eq_true rfl⟩ (by decide)).trans (g_and (isO_dec (by decide +kernel)))
theorem d173_10 : adec m173 10 = some (.aload_n 0, 1) := by decide +kernel
theorem s173_10 {l0 : Nat} {l1 : Int} {l2 : AV} {l3 : AV} {l4 : AV} {l5 : AV} : WP m173 10 [.inr (.inl l0), .inl l1, l2, l3, l4, l5] [] σ Q = WP m173 11 [.inr (.inl l0), .inl l1, l2, l3, l4, l5] [.inr (.inl l0)] σ Q := w_ld d173_10 rfl
theorem d173_11 : adec m173 11 = some (.getfield 94, 3) := by decide +kernel
theorem s173_11 {l0 : Nat} {l1 : Int} {l2 : AV} {l3 : AV} {l4 : AV} {l5 : AV} : WP m173 11 [.inr (.inl l0), .inl l1, l2, l3, l4, l5] [.inr (.inl 130)] σ Q = WP m173 14 [.inr (.inl l0), .inl l1, l2, l3, l4, l5] [.inl (σ 130 11)] σ Q := (w_getI (c := 10) (n := 11) d173_11 (by decide +kernel) (by decide +kernel)).trans (g_and (isO_dec (by decide +kernel)))
theorem d173_14 : adec m173 14 = some (.ifCond .le (120), 3) := by decide +kernel
theorem s173_14 {l0 : Nat} {l1 : Int} {l2 : AV} {l3 : AV} {l4 : AV} {l5 : AV} {x0 : Int} : WP m173 14 [.inr (.inl l0), .inl l1, l2, l3, l4, l5] [.inl x0] σ Q = (if x0 ≤ 0 then WP m173 134 [.inr (.inl l0), .inl l1, l2, l3, l4, l5] [] σ Q else WP m173 17 [.inr (.inl l0), .inl l1, l2, l3, l4, l5] [] σ Q) := w_ifle d173_14 (by decide)
theorem d173_17 : adec m173 17 = some (.aload_n 0, 1) := by decide +kernel
theorem s173_17 {l0 : Nat} {l1 : Int} {l2 : AV} {l3 : AV} {l4 : AV} {l5 : AV} : WP m173 17 [.inr (.inl l0), .inl l1, l2, l3, l4, l5] [] σ Q = WP m173 18 [.inr (.inl l0), .inl l1, l2, l3, l4, l5] [.inr (.inl l0)] σ Q := w_ld d173_17 rfl
theorem d173_18 : adec m173 18 = some (.aload_n 0, 1) := by decide +kernel
theorem s173_18 {l0 : Nat} {l1 : Int} {l2 : AV} {l3 : AV} {l4 : AV} {l5 : AV} {x0 : Nat} : WP m173 18 [.inr (.inl l0), .inl l1, l2, l3, l4, l5] [.inr (.inl x0)] σ Q = WP m173 19 [.inr (.inl l0), .inl l1, l2, l3, l4, l5] [.inr (.inl l0), .inr (.inl x0)] σ Q := w_ld d173_18 rfl
theorem d173_19 : adec m173 19 = some (.invokevirtual 175, 3) := by decide +kernel
theorem s173_19 {l0 : Nat} {l1 : Int} {l2 : AV} {l3 : AV} {l4 : AV} {l5 : AV} {x0 : Nat} : WP m173 19 [.inr (.inl l0), .inl l1, l2, l3, l4, l5] [.inr (.inl 130), .inr (.inl x0)] σ Q = CA m133 [.inr (.inl 130)] σ (fun v σ2 => WP m173 22 [.inr (.inl l0), .inl l1, l2, l3, l4, l5] (v ++ [.inr (.inl x0)]) σ2 Q) := (w_cV (k := 133) d173_19 (by decide +kernel) m133_at rfl rfl ⟨Nat.le_of_ble_eq_true rfl, Nat.le_of_ble_eq_true rfl, Nat.le_of_ble_eq_true rfl⟩ (by decide)).trans (g_and (isO_dec (by decide +kernel)))
theorem d173_22 : adec m173 22 = some (.invokevirtual 249, 3) := by decide +kernel
theorem s173_22 {l0 : Nat} {l1 : Int} {l2 : AV} {l3 : AV} {l4 : AV} {l5 : AV} {x1 : Int} : WP m173 22 [.inr (.inl l0), .inl l1, l2, l3, l4, l5] [.inl x1, .inr (.inl 130)] σ Q = CA m170 [.inr (.inl 130), .inl x1] σ (fun v σ2 => WP m173 25 [.inr (.inl l0), .inl l1, l2, l3, l4, l5] (v ++ []) σ2 Q) := (w_cV (k := 170) d173_22 (by decide +kernel) m170_at rfl rfl ⟨Nat.le_of_ble_eq_true rfl, Nat.le_of_ble_eq_true rfl, Nat.le_of_ble_eq_true rfl⟩ (by decide)).trans (g_and (isO_dec (by decide +kernel)))
theorem d173_25 : adec m173 25 = some (.istore_n 2, 1) := by decide +kernel
theorem s173_25 {l0 : Nat} {l1 : Int} {l2 : AV} {l3 : AV} {l4 : AV} {l5 : AV} {x0 : Int} : WP m173 25 [.inr (.inl l0), .inl l1, l2, l3, l4, l5] [.inl x0] σ Q = WP m173 26 [.inr (.inl l0), .inl l1, .inl x0, l3, l4, l5] [] σ Q := w_st1 (j := 2) d173_25 rfl (Nat.le_of_ble_eq_true rfl) rfl
theorem d173_26 : adec m173 26 = some (.iconst (0), 1) := by decide +kernel
theorem s173_26 {l0 : Nat} {l1 : Int} {l2 : Int} {l3 : AV} {l4 : AV} {l5 : AV} : WP m173 26 [.inr (.inl l0), .inl l1, .inl l2, l3, l4, l5] [] σ Q = WP m173 27 [.inr (.inl l0), .inl l1, .inl l2, l3, l4, l5] [.inl (0)] σ Q := w_iconst d173_26 (by decide)
theorem d173_27 : adec m173 27 = some (.istore_n 3, 1) := by decide +kernel
theorem s173_27 {l0 : Nat} {l1 : Int} {l2 : Int} {l3 : AV} {l4 : AV} {l5 : AV} {x0 : Int} : WP m173 27 [.inr (.inl l0), .inl l1, .inl l2, l3, l4, l5] [.inl x0] σ Q = WP m173 28 [.inr (.inl l0), .inl l1, .inl l2, .inl x0, l4, l5] [] σ Q := w_st1 (j := 3) d173_27 rfl (Nat.le_of_ble_eq_true rfl) rfl
theorem d173_28 : adec m173 28 = some (.aload_n 0, 1) := by decide +kernel
theorem s173_28 {l0 : Nat} {l1 : Int} {l2 : Int} {l3 : Int} {l4 : AV} {l5 : AV} : WP m173 28 [.inr (.inl l0), .inl l1, .inl l2, .inl l3, l4, l5] [] σ Q = WP m173 29 [.inr (.inl l0), .inl l1, .inl l2, .inl l3, l4, l5] [.inr (.inl l0)] σ Q := w_ld d173_28 rfl
theorem d173_29 : adec m173 29 = some (.getfield 42, 3) := by decide +kernel
theorem s173_29 {l0 : Nat} {l1 : Int} {l2 : Int} {l3 : Int} {l4 : AV} {l5 : AV} : WP m173 29 [.inr (.inl l0), .inl l1, .inl l2, .inl l3, l4, l5] [.inr (.inl 130)] σ Q = WP m173 32 [.inr (.inl l0), .inl l1, .inl l2, .inl l3, l4, l5] [.inr (.inl 140)] σ Q := (w_getR (c := 10) (n := 20) d173_29 (by decide +kernel) (by decide +kernel)).trans (g_and ⟨isO_dec (by decide +kernel), by decide +kernel⟩)
theorem d173_32 : adec m173 32 = some (.iload_n 2, 1) := by decide +kernel
theorem s173_32 {l0 : Nat} {l1 : Int} {l2 : Int} {l3 : Int} {l4 : AV} {l5 : AV} {x0 : Nat} : WP m173 32 [.inr (.inl l0), .inl l1, .inl l2, .inl l3, l4, l5] [.inr (.inl x0)] σ Q = WP m173 33 [.inr (.inl l0), .inl l1, .inl l2, .inl l3, l4, l5] [.inl l2, .inr (.inl x0)] σ Q := w_ld d173_32 rfl
theorem d173_33 : adec m173 33 = some (.iaload, 1) := by decide +kernel
theorem s173_33 {l0 : Nat} {l1 : Int} {l2 : Int} {l3 : Int} {l4 : AV} {l5 : AV} {x0 : Nat} {x1 : Int} : WP m173 33 [.inr (.inl l0), .inl l1, .inl l2, .inl l3, l4, l5] [.inl x1, .inr (.inl x0)] σ Q = ((kdS x0 = 20 ∧ 0 ≤ x1 ∧ x1 < ln x0) ∧ WP m173 34 [.inr (.inl l0), .inl l1, .inl l2, .inl l3, l4, l5] [.inl (σ x0 x1.toNat)] σ Q) := w_iald d173_33
theorem d173_34 : adec m173 34 = some (.ifCond .ne (27), 3) := by decide +kernel
theorem s173_34 {l0 : Nat} {l1 : Int} {l2 : Int} {l3 : Int} {l4 : AV} {l5 : AV} {x0 : Int} : WP m173 34 [.inr (.inl l0), .inl l1, .inl l2, .inl l3, l4, l5] [.inl x0] σ Q = (if x0 = 0 then WP m173 37 [.inr (.inl l0), .inl l1, .inl l2, .inl l3, l4, l5] [] σ Q else WP m173 61 [.inr (.inl l0), .inl l1, .inl l2, .inl l3, l4, l5] [] σ Q) := w_ifne d173_34 (by decide)
theorem d173_37 : adec m173 37 = some (.aload_n 0, 1) := by decide +kernel
theorem s173_37 {l0 : Nat} {l1 : Int} {l2 : Int} {l3 : Int} {l4 : AV} {l5 : AV} : WP m173 37 [.inr (.inl l0), .inl l1, .inl l2, .inl l3, l4, l5] [] σ Q = WP m173 38 [.inr (.inl l0), .inl l1, .inl l2, .inl l3, l4, l5] [.inr (.inl l0)] σ Q := w_ld d173_37 rfl
theorem d173_38 : adec m173 38 = some (.getfield 51, 3) := by decide +kernel
theorem s173_38 {l0 : Nat} {l1 : Int} {l2 : Int} {l3 : Int} {l4 : AV} {l5 : AV} : WP m173 38 [.inr (.inl l0), .inl l1, .inl l2, .inl l3, l4, l5] [.inr (.inl 130)] σ Q = WP m173 41 [.inr (.inl l0), .inl l1, .inl l2, .inl l3, l4, l5] [.inr (.inl 143)] σ Q := (w_getR (c := 10) (n := 24) d173_38 (by decide +kernel) (by decide +kernel)).trans (g_and ⟨isO_dec (by decide +kernel), by decide +kernel⟩)
theorem d173_41 : adec m173 41 = some (.iload_n 3, 1) := by decide +kernel
theorem s173_41 {l0 : Nat} {l1 : Int} {l2 : Int} {l3 : Int} {l4 : AV} {l5 : AV} {x0 : Nat} : WP m173 41 [.inr (.inl l0), .inl l1, .inl l2, .inl l3, l4, l5] [.inr (.inl x0)] σ Q = WP m173 42 [.inr (.inl l0), .inl l1, .inl l2, .inl l3, l4, l5] [.inl l3, .inr (.inl x0)] σ Q := w_ld d173_41 rfl
theorem d173_42 : adec m173 42 = some (.iload_n 2, 1) := by decide +kernel
theorem s173_42 {l0 : Nat} {l1 : Int} {l2 : Int} {l3 : Int} {l4 : AV} {l5 : AV} {x0 : Nat} {x1 : Int} : WP m173 42 [.inr (.inl l0), .inl l1, .inl l2, .inl l3, l4, l5] [.inl x1, .inr (.inl x0)] σ Q = WP m173 43 [.inr (.inl l0), .inl l1, .inl l2, .inl l3, l4, l5] [.inl l2, .inl x1, .inr (.inl x0)] σ Q := w_ld d173_42 rfl
theorem d173_43 : adec m173 43 = some (.iastore, 1) := by decide +kernel
theorem s173_43 {l0 : Nat} {l1 : Int} {l2 : Int} {l3 : Int} {l4 : AV} {l5 : AV} {x0 : Nat} {x1 : Int} {x2 : Int} : WP m173 43 [.inr (.inl l0), .inl l1, .inl l2, .inl l3, l4, l5] [.inl x2, .inl x1, .inr (.inl x0)] σ Q = ((kdS x0 = 20 ∧ 0 ≤ x1 ∧ x1 < ln x0) ∧ WP m173 44 [.inr (.inl l0), .inl l1, .inl l2, .inl l3, l4, l5] [] (aup σ x0 x1.toNat x2) Q) := w_iast d173_43
theorem d173_44 : adec m173 44 = some (.iinc 3 (1), 3) := by decide +kernel
theorem s173_44 {l0 : Nat} {l1 : Int} {l2 : Int} {l3 : Int} {l4 : AV} {l5 : AV} : WP m173 44 [.inr (.inl l0), .inl l1, .inl l2, .inl l3, l4, l5] [] σ Q = (inI (l3 + (1)) ∧ WP m173 47 [.inr (.inl l0), .inl l1, .inl l2, .inl (l3 + (1)), l4, l5] [] σ Q) := w_iinc d173_44 rfl rfl
theorem d173_47 : adec m173 47 = some (.aload_n 0, 1) := by decide +kernel
theorem s173_47 {l0 : Nat} {l1 : Int} {l2 : Int} {l3 : Int} {l4 : AV} {l5 : AV} : WP m173 47 [.inr (.inl l0), .inl l1, .inl l2, .inl l3, l4, l5] [] σ Q = WP m173 48 [.inr (.inl l0), .inl l1, .inl l2, .inl l3, l4, l5] [.inr (.inl l0)] σ Q := w_ld d173_47 rfl
theorem d173_48 : adec m173 48 = some (.aload_n 0, 1) := by decide +kernel
theorem s173_48 {l0 : Nat} {l1 : Int} {l2 : Int} {l3 : Int} {l4 : AV} {l5 : AV} {x0 : Nat} : WP m173 48 [.inr (.inl l0), .inl l1, .inl l2, .inl l3, l4, l5] [.inr (.inl x0)] σ Q = WP m173 49 [.inr (.inl l0), .inl l1, .inl l2, .inl l3, l4, l5] [.inr (.inl l0), .inr (.inl x0)] σ Q := w_ld d173_48 rfl
theorem d173_49 : adec m173 49 = some (.getfield 45, 3) := by decide +kernel
theorem s173_49 {l0 : Nat} {l1 : Int} {l2 : Int} {l3 : Int} {l4 : AV} {l5 : AV} {x0 : Nat} : WP m173 49 [.inr (.inl l0), .inl l1, .inl l2, .inl l3, l4, l5] [.inr (.inl 130), .inr (.inl x0)] σ Q = WP m173 52 [.inr (.inl l0), .inl l1, .inl l2, .inl l3, l4, l5] [.inr (.inl 141), .inr (.inl x0)] σ Q := (w_getR (c := 10) (n := 21) d173_49 (by decide +kernel) (by decide +kernel)).trans (g_and ⟨isO_dec (by decide +kernel), by decide +kernel⟩)
theorem d173_52 : adec m173 52 = some (.iload_n 2, 1) := by decide +kernel
theorem s173_52 {l0 : Nat} {l1 : Int} {l2 : Int} {l3 : Int} {l4 : AV} {l5 : AV} {x0 : Nat} {x1 : Nat} : WP m173 52 [.inr (.inl l0), .inl l1, .inl l2, .inl l3, l4, l5] [.inr (.inl x1), .inr (.inl x0)] σ Q = WP m173 53 [.inr (.inl l0), .inl l1, .inl l2, .inl l3, l4, l5] [.inl l2, .inr (.inl x1), .inr (.inl x0)] σ Q := w_ld d173_52 rfl
theorem d173_53 : adec m173 53 = some (.iaload, 1) := by decide +kernel
theorem s173_53 {l0 : Nat} {l1 : Int} {l2 : Int} {l3 : Int} {l4 : AV} {l5 : AV} {x0 : Nat} {x1 : Nat} {x2 : Int} : WP m173 53 [.inr (.inl l0), .inl l1, .inl l2, .inl l3, l4, l5] [.inl x2, .inr (.inl x1), .inr (.inl x0)] σ Q = ((kdS x1 = 20 ∧ 0 ≤ x2 ∧ x2 < ln x1) ∧ WP m173 54 [.inr (.inl l0), .inl l1, .inl l2, .inl l3, l4, l5] [.inl (σ x1 x2.toNat), .inr (.inl x0)] σ Q) := w_iald d173_53
theorem d173_54 : adec m173 54 = some (.invokevirtual 249, 3) := by decide +kernel
theorem s173_54 {l0 : Nat} {l1 : Int} {l2 : Int} {l3 : Int} {l4 : AV} {l5 : AV} {x1 : Int} : WP m173 54 [.inr (.inl l0), .inl l1, .inl l2, .inl l3, l4, l5] [.inl x1, .inr (.inl 130)] σ Q = CA m170 [.inr (.inl 130), .inl x1] σ (fun v σ2 => WP m173 57 [.inr (.inl l0), .inl l1, .inl l2, .inl l3, l4, l5] (v ++ []) σ2 Q) := (w_cV (k := 170) d173_54 (by decide +kernel) m170_at rfl rfl ⟨Nat.le_of_ble_eq_true rfl, Nat.le_of_ble_eq_true rfl, Nat.le_of_ble_eq_true rfl⟩ (by decide)).trans (g_and (isO_dec (by decide +kernel)))
theorem d173_57 : adec m173 57 = some (.istore_n 2, 1) := by decide +kernel
theorem s173_57 {l0 : Nat} {l1 : Int} {l2 : Int} {l3 : Int} {l4 : AV} {l5 : AV} {x0 : Int} : WP m173 57 [.inr (.inl l0), .inl l1, .inl l2, .inl l3, l4, l5] [.inl x0] σ Q = WP m173 58 [.inr (.inl l0), .inl l1, .inl x0, .inl l3, l4, l5] [] σ Q := w_st1 (j := 2) d173_57 rfl (Nat.le_of_ble_eq_true rfl) rfl
theorem d173_58 : adec m173 58 = some (.goto (-30), 3) := by decide +kernel
theorem s173_58 {l0 : Nat} {l1 : Int} {l2 : Int} {l3 : Int} {l4 : AV} {l5 : AV} : WP m173 58 [.inr (.inl l0), .inl l1, .inl l2, .inl l3, l4, l5] [] σ Q = WP m173 28 [.inr (.inl l0), .inl l1, .inl l2, .inl l3, l4, l5] [] σ Q := w_goto d173_58 (by decide)
theorem d173_61 : adec m173 61 = some (.aload_n 0, 1) := by decide +kernel
theorem s173_61 {l0 : Nat} {l1 : Int} {l2 : Int} {l3 : Int} {l4 : AV} {l5 : AV} : WP m173 61 [.inr (.inl l0), .inl l1, .inl l2, .inl l3, l4, l5] [] σ Q = WP m173 62 [.inr (.inl l0), .inl l1, .inl l2, .inl l3, l4, l5] [.inr (.inl l0)] σ Q := w_ld d173_61 rfl
theorem d173_62 : adec m173 62 = some (.getfield 42, 3) := by decide +kernel
theorem s173_62 {l0 : Nat} {l1 : Int} {l2 : Int} {l3 : Int} {l4 : AV} {l5 : AV} : WP m173 62 [.inr (.inl l0), .inl l1, .inl l2, .inl l3, l4, l5] [.inr (.inl 130)] σ Q = WP m173 65 [.inr (.inl l0), .inl l1, .inl l2, .inl l3, l4, l5] [.inr (.inl 140)] σ Q := (w_getR (c := 10) (n := 20) d173_62 (by decide +kernel) (by decide +kernel)).trans (g_and ⟨isO_dec (by decide +kernel), by decide +kernel⟩)
theorem d173_65 : adec m173 65 = some (.iload_n 2, 1) := by decide +kernel
theorem s173_65 {l0 : Nat} {l1 : Int} {l2 : Int} {l3 : Int} {l4 : AV} {l5 : AV} {x0 : Nat} : WP m173 65 [.inr (.inl l0), .inl l1, .inl l2, .inl l3, l4, l5] [.inr (.inl x0)] σ Q = WP m173 66 [.inr (.inl l0), .inl l1, .inl l2, .inl l3, l4, l5] [.inl l2, .inr (.inl x0)] σ Q := w_ld d173_65 rfl
theorem d173_66 : adec m173 66 = some (.iaload, 1) := by decide +kernel
theorem s173_66 {l0 : Nat} {l1 : Int} {l2 : Int} {l3 : Int} {l4 : AV} {l5 : AV} {x0 : Nat} {x1 : Int} : WP m173 66 [.inr (.inl l0), .inl l1, .inl l2, .inl l3, l4, l5] [.inl x1, .inr (.inl x0)] σ Q = ((kdS x0 = 20 ∧ 0 ≤ x1 ∧ x1 < ln x0) ∧ WP m173 67 [.inr (.inl l0), .inl l1, .inl l2, .inl l3, l4, l5] [.inl (σ x0 x1.toNat)] σ Q) := w_iald d173_66
theorem d173_67 : adec m173 67 = some (.invokestatic 223, 3) := by decide +kernel
theorem s173_67 {l0 : Nat} {l1 : Int} {l2 : Int} {l3 : Int} {l4 : AV} {l5 : AV} {x0 : Int} : WP m173 67 [.inr (.inl l0), .inl l1, .inl l2, .inl l3, l4, l5] [.inl x0] σ Q = CA m165 [.inl x0] σ (fun v σ2 => WP m173 70 [.inr (.inl l0), .inl l1, .inl l2, .inl l3, l4, l5] (v ++ []) σ2 Q) := w_cS (k := 165) d173_67 (by decide +kernel) (md := 1) (by decide +kernel) m165_at rfl rfl ⟨Nat.le_of_ble_eq_true rfl, Nat.le_of_ble_eq_true rfl, Nat.le_of_ble_eq_true rfl⟩ (by decide)
theorem d173_70 : adec m173 70 = some (.istore 4, 2) := by decide +kernel
theorem s173_70 {l0 : Nat} {l1 : Int} {l2 : Int} {l3 : Int} {l4 : AV} {l5 : AV} {x0 : Int} : WP m173 70 [.inr (.inl l0), .inl l1, .inl l2, .inl l3, l4, l5] [.inl x0] σ Q = WP m173 72 [.inr (.inl l0), .inl l1, .inl l2, .inl l3, .inl x0, l5] [] σ Q := w_st1 (j := 4) d173_70 rfl (Nat.le_of_ble_eq_true rfl) rfl
theorem d173_72 : adec m173 72 = some (.iload 4, 2) := by decide +kernel
theorem s173_72 {l0 : Nat} {l1 : Int} {l2 : Int} {l3 : Int} {l4 : Int} {l5 : AV} : WP m173 72 [.inr (.inl l0), .inl l1, .inl l2, .inl l3, .inl l4, l5] [] σ Q = WP m173 74 [.inr (.inl l0), .inl l1, .inl l2, .inl l3, .inl l4, l5] [.inl l4] σ Q := w_ld d173_72 rfl
theorem d173_74 : adec m173 74 = some (.iload_n 3, 1) := by decide +kernel
theorem s173_74 {l0 : Nat} {l1 : Int} {l2 : Int} {l3 : Int} {l4 : Int} {l5 : AV} {x0 : Int} : WP m173 74 [.inr (.inl l0), .inl l1, .inl l2, .inl l3, .inl l4, l5] [.inl x0] σ Q = WP m173 75 [.inr (.inl l0), .inl l1, .inl l2, .inl l3, .inl l4, l5] [.inl l3, .inl x0] σ Q := w_ld d173_74 rfl
theorem d173_75 : adec m173 75 = some (.if_icmp .gt (25), 3) := by decide +kernel
theorem s173_75 {l0 : Nat} {l1 : Int} {l2 : Int} {l3 : Int} {l4 : Int} {l5 : AV} {x0 : Int} {x1 : Int} : WP m173 75 [.inr (.inl l0), .inl l1, .inl l2, .inl l3, .inl l4, l5] [.inl x1, .inl x0] σ Q = (if x1 < x0 then WP m173 100 [.inr (.inl l0), .inl l1, .inl l2, .inl l3, .inl l4, l5] [] σ Q else WP m173 78 [.inr (.inl l0), .inl l1, .inl l2, .inl l3, .inl l4, l5] [] σ Q) := w_icgt d173_75 (by decide)
theorem d173_78 : adec m173 78 = some (.aload_n 0, 1) := by decide +kernel
theorem s173_78 {l0 : Nat} {l1 : Int} {l2 : Int} {l3 : Int} {l4 : Int} {l5 : AV} : WP m173 78 [.inr (.inl l0), .inl l1, .inl l2, .inl l3, .inl l4, l5] [] σ Q = WP m173 79 [.inr (.inl l0), .inl l1, .inl l2, .inl l3, .inl l4, l5] [.inr (.inl l0)] σ Q := w_ld d173_78 rfl
theorem d173_79 : adec m173 79 = some (.aload_n 0, 1) := by decide +kernel
theorem s173_79 {l0 : Nat} {l1 : Int} {l2 : Int} {l3 : Int} {l4 : Int} {l5 : AV} {x0 : Nat} : WP m173 79 [.inr (.inl l0), .inl l1, .inl l2, .inl l3, .inl l4, l5] [.inr (.inl x0)] σ Q = WP m173 80 [.inr (.inl l0), .inl l1, .inl l2, .inl l3, .inl l4, l5] [.inr (.inl l0), .inr (.inl x0)] σ Q := w_ld d173_79 rfl
theorem d173_80 : adec m173 80 = some (.getfield 51, 3) := by decide +kernel
theorem s173_80 {l0 : Nat} {l1 : Int} {l2 : Int} {l3 : Int} {l4 : Int} {l5 : AV} {x0 : Nat} : WP m173 80 [.inr (.inl l0), .inl l1, .inl l2, .inl l3, .inl l4, l5] [.inr (.inl 130), .inr (.inl x0)] σ Q = WP m173 83 [.inr (.inl l0), .inl l1, .inl l2, .inl l3, .inl l4, l5] [.inr (.inl 143), .inr (.inl x0)] σ Q := (w_getR (c := 10) (n := 24) d173_80 (by decide +kernel) (by decide +kernel)).trans (g_and ⟨isO_dec (by decide +kernel), by decide +kernel⟩)
theorem d173_83 : adec m173 83 = some (.iload_n 3, 1) := by decide +kernel
theorem s173_83 {l0 : Nat} {l1 : Int} {l2 : Int} {l3 : Int} {l4 : Int} {l5 : AV} {x0 : Nat} {x1 : Nat} : WP m173 83 [.inr (.inl l0), .inl l1, .inl l2, .inl l3, .inl l4, l5] [.inr (.inl x1), .inr (.inl x0)] σ Q = WP m173 84 [.inr (.inl l0), .inl l1, .inl l2, .inl l3, .inl l4, l5] [.inl l3, .inr (.inl x1), .inr (.inl x0)] σ Q := w_ld d173_83 rfl
theorem d173_84 : adec m173 84 = some (.iload 4, 2) := by decide +kernel
theorem s173_84 {l0 : Nat} {l1 : Int} {l2 : Int} {l3 : Int} {l4 : Int} {l5 : AV} {x0 : Nat} {x1 : Nat} {x2 : Int} : WP m173 84 [.inr (.inl l0), .inl l1, .inl l2, .inl l3, .inl l4, l5] [.inl x2, .inr (.inl x1), .inr (.inl x0)] σ Q = WP m173 86 [.inr (.inl l0), .inl l1, .inl l2, .inl l3, .inl l4, l5] [.inl l4, .inl x2, .inr (.inl x1), .inr (.inl x0)] σ Q := w_ld d173_84 rfl
theorem d173_86 : adec m173 86 = some (.isub, 1) := by decide +kernel
theorem s173_86 {l0 : Nat} {l1 : Int} {l2 : Int} {l3 : Int} {l4 : Int} {l5 : AV} {x0 : Nat} {x1 : Nat} {x2 : Int} {x3 : Int} : WP m173 86 [.inr (.inl l0), .inl l1, .inl l2, .inl l3, .inl l4, l5] [.inl x3, .inl x2, .inr (.inl x1), .inr (.inl x0)] σ Q = (inI (x2 - x3) ∧ WP m173 87 [.inr (.inl l0), .inl l1, .inl l2, .inl l3, .inl l4, l5] [.inl (x2 - x3), .inr (.inl x1), .inr (.inl x0)] σ Q) := w_isub d173_86
theorem d173_87 : adec m173 87 = some (.iaload, 1) := by decide +kernel
theorem s173_87 {l0 : Nat} {l1 : Int} {l2 : Int} {l3 : Int} {l4 : Int} {l5 : AV} {x0 : Nat} {x1 : Nat} {x2 : Int} : WP m173 87 [.inr (.inl l0), .inl l1, .inl l2, .inl l3, .inl l4, l5] [.inl x2, .inr (.inl x1), .inr (.inl x0)] σ Q = ((kdS x1 = 20 ∧ 0 ≤ x2 ∧ x2 < ln x1) ∧ WP m173 88 [.inr (.inl l0), .inl l1, .inl l2, .inl l3, .inl l4, l5] [.inl (σ x1 x2.toNat), .inr (.inl x0)] σ Q) := w_iald d173_87
theorem d173_88 : adec m173 88 = some (.aload_n 0, 1) := by decide +kernel
theorem s173_88 {l0 : Nat} {l1 : Int} {l2 : Int} {l3 : Int} {l4 : Int} {l5 : AV} {x0 : Nat} {x1 : Int} : WP m173 88 [.inr (.inl l0), .inl l1, .inl l2, .inl l3, .inl l4, l5] [.inl x1, .inr (.inl x0)] σ Q = WP m173 89 [.inr (.inl l0), .inl l1, .inl l2, .inl l3, .inl l4, l5] [.inr (.inl l0), .inl x1, .inr (.inl x0)] σ Q := w_ld d173_88 rfl
theorem d173_89 : adec m173 89 = some (.getfield 42, 3) := by decide +kernel
theorem s173_89 {l0 : Nat} {l1 : Int} {l2 : Int} {l3 : Int} {l4 : Int} {l5 : AV} {x0 : Nat} {x1 : Int} : WP m173 89 [.inr (.inl l0), .inl l1, .inl l2, .inl l3, .inl l4, l5] [.inr (.inl 130), .inl x1, .inr (.inl x0)] σ Q = WP m173 92 [.inr (.inl l0), .inl l1, .inl l2, .inl l3, .inl l4, l5] [.inr (.inl 140), .inl x1, .inr (.inl x0)] σ Q := (w_getR (c := 10) (n := 20) d173_89 (by decide +kernel) (by decide +kernel)).trans (g_and ⟨isO_dec (by decide +kernel), by decide +kernel⟩)
theorem d173_92 : adec m173 92 = some (.iload_n 2, 1) := by decide +kernel
theorem s173_92 {l0 : Nat} {l1 : Int} {l2 : Int} {l3 : Int} {l4 : Int} {l5 : AV} {x0 : Nat} {x1 : Int} {x2 : Nat} : WP m173 92 [.inr (.inl l0), .inl l1, .inl l2, .inl l3, .inl l4, l5] [.inr (.inl x2), .inl x1, .inr (.inl x0)] σ Q = WP m173 93 [.inr (.inl l0), .inl l1, .inl l2, .inl l3, .inl l4, l5] [.inl l2, .inr (.inl x2), .inl x1, .inr (.inl x0)] σ Q := w_ld d173_92 rfl
theorem d173_93 : adec m173 93 = some (.iaload, 1) := by decide +kernel
theorem s173_93 {l0 : Nat} {l1 : Int} {l2 : Int} {l3 : Int} {l4 : Int} {l5 : AV} {x0 : Nat} {x1 : Int} {x2 : Nat} {x3 : Int} : WP m173 93 [.inr (.inl l0), .inl l1, .inl l2, .inl l3, .inl l4, l5] [.inl x3, .inr (.inl x2), .inl x1, .inr (.inl x0)] σ Q = ((kdS x2 = 20 ∧ 0 ≤ x3 ∧ x3 < ln x2) ∧ WP m173 94 [.inr (.inl l0), .inl l1, .inl l2, .inl l3, .inl l4, l5] [.inl (σ x2 x3.toNat), .inl x1, .inr (.inl x0)] σ Q) := w_iald d173_93
theorem d173_94 : adec m173 94 = some (.iload_n 3, 1) := by decide +kernel
theorem s173_94 {l0 : Nat} {l1 : Int} {l2 : Int} {l3 : Int} {l4 : Int} {l5 : AV} {x0 : Nat} {x1 : Int} {x2 : Int} : WP m173 94 [.inr (.inl l0), .inl l1, .inl l2, .inl l3, .inl l4, l5] [.inl x2, .inl x1, .inr (.inl x0)] σ Q = WP m173 95 [.inr (.inl l0), .inl l1, .inl l2, .inl l3, .inl l4, l5] [.inl l3, .inl x2, .inl x1, .inr (.inl x0)] σ Q := w_ld d173_94 rfl
theorem d173_95 : adec m173 95 = some (.invokevirtual 252, 3) := by decide +kernel
theorem s173_95 {l0 : Nat} {l1 : Int} {l2 : Int} {l3 : Int} {l4 : Int} {l5 : AV} {x1 : Int} {x2 : Int} {x3 : Int} : WP m173 95 [.inr (.inl l0), .inl l1, .inl l2, .inl l3, .inl l4, l5] [.inl x3, .inl x2, .inl x1, .inr (.inl 130)] σ Q = CA m174 [.inr (.inl 130), .inl x1, .inl x2, .inl x3] σ (fun v σ2 => WP m173 98 [.inr (.inl l0), .inl l1, .inl l2, .inl l3, .inl l4, l5] (v ++ []) σ2 Q) := (w_cV (k := 174) d173_95 (by decide +kernel) m174_at rfl rfl ⟨Nat.le_of_ble_eq_true rfl, Nat.le_of_ble_eq_true rfl, Nat.le_of_ble_eq_true rfl⟩ (by decide)).trans (g_and (isO_dec (by decide +kernel)))
theorem d173_98 : adec m173 98 = some (.iconst (1), 1) := by decide +kernel
theorem s173_98 {l0 : Nat} {l1 : Int} {l2 : Int} {l3 : Int} {l4 : Int} {l5 : AV} : WP m173 98 [.inr (.inl l0), .inl l1, .inl l2, .inl l3, .inl l4, l5] [] σ Q = WP m173 99 [.inr (.inl l0), .inl l1, .inl l2, .inl l3, .inl l4, l5] [.inl (1)] σ Q := w_iconst d173_98 (by decide)
theorem d173_99 : adec m173 99 = some (.ireturn, 1) := by decide +kernel
theorem s173_99 {l0 : Nat} {l1 : Int} {l2 : Int} {l3 : Int} {l4 : Int} {l5 : AV} {x0 : Int} : WP m173 99 [.inr (.inl l0), .inl l1, .inl l2, .inl l3, .inl l4, l5] [.inl x0] σ Q = ((x0 = 0 ∨ x0 = 1) ∧ Q [.inl x0] σ) := w_rz d173_99 rfl
theorem d173_100 : adec m173 100 = some (.iconst (0), 1) := by decide +kernel
theorem s173_100 {l0 : Nat} {l1 : Int} {l2 : Int} {l3 : Int} {l4 : Int} {l5 : AV} : WP m173 100 [.inr (.inl l0), .inl l1, .inl l2, .inl l3, .inl l4, l5] [] σ Q = WP m173 101 [.inr (.inl l0), .inl l1, .inl l2, .inl l3, .inl l4, l5] [.inl (0)] σ Q := w_iconst d173_100 (by decide)
theorem d173_101 : adec m173 101 = some (.istore 5, 2) := by decide +kernel
theorem s173_101 {l0 : Nat} {l1 : Int} {l2 : Int} {l3 : Int} {l4 : Int} {l5 : AV} {x0 : Int} : WP m173 101 [.inr (.inl l0), .inl l1, .inl l2, .inl l3, .inl l4, l5] [.inl x0] σ Q = WP m173 103 [.inr (.inl l0), .inl l1, .inl l2, .inl l3, .inl l4, .inl x0] [] σ Q := w_st1 (j := 5) d173_101 rfl (Nat.le_of_ble_eq_true rfl) rfl
theorem d173_103 : adec m173 103 = some (.iload 5, 2) := by decide +kernel
theorem s173_103 {l0 : Nat} {l1 : Int} {l2 : Int} {l3 : Int} {l4 : Int} {l5 : Int} : WP m173 103 [.inr (.inl l0), .inl l1, .inl l2, .inl l3, .inl l4, .inl l5] [] σ Q = WP m173 105 [.inr (.inl l0), .inl l1, .inl l2, .inl l3, .inl l4, .inl l5] [.inl l5] σ Q := w_ld d173_103 rfl
theorem d173_105 : adec m173 105 = some (.iload_n 3, 1) := by decide +kernel
theorem s173_105 {l0 : Nat} {l1 : Int} {l2 : Int} {l3 : Int} {l4 : Int} {l5 : Int} {x0 : Int} : WP m173 105 [.inr (.inl l0), .inl l1, .inl l2, .inl l3, .inl l4, .inl l5] [.inl x0] σ Q = WP m173 106 [.inr (.inl l0), .inl l1, .inl l2, .inl l3, .inl l4, .inl l5] [.inl l3, .inl x0] σ Q := w_ld d173_105 rfl
theorem d173_106 : adec m173 106 = some (.if_icmp .ge (25), 3) := by decide +kernel
theorem s173_106 {l0 : Nat} {l1 : Int} {l2 : Int} {l3 : Int} {l4 : Int} {l5 : Int} {x0 : Int} {x1 : Int} : WP m173 106 [.inr (.inl l0), .inl l1, .inl l2, .inl l3, .inl l4, .inl l5] [.inl x1, .inl x0] σ Q = (if x1 ≤ x0 then WP m173 131 [.inr (.inl l0), .inl l1, .inl l2, .inl l3, .inl l4, .inl l5] [] σ Q else WP m173 109 [.inr (.inl l0), .inl l1, .inl l2, .inl l3, .inl l4, .inl l5] [] σ Q) := w_icge d173_106 (by decide)
theorem d173_109 : adec m173 109 = some (.aload_n 0, 1) := by decide +kernel
theorem s173_109 {l0 : Nat} {l1 : Int} {l2 : Int} {l3 : Int} {l4 : Int} {l5 : Int} : WP m173 109 [.inr (.inl l0), .inl l1, .inl l2, .inl l3, .inl l4, .inl l5] [] σ Q = WP m173 110 [.inr (.inl l0), .inl l1, .inl l2, .inl l3, .inl l4, .inl l5] [.inr (.inl l0)] σ Q := w_ld d173_109 rfl
theorem d173_110 : adec m173 110 = some (.aload_n 0, 1) := by decide +kernel
theorem s173_110 {l0 : Nat} {l1 : Int} {l2 : Int} {l3 : Int} {l4 : Int} {l5 : Int} {x0 : Nat} : WP m173 110 [.inr (.inl l0), .inl l1, .inl l2, .inl l3, .inl l4, .inl l5] [.inr (.inl x0)] σ Q = WP m173 111 [.inr (.inl l0), .inl l1, .inl l2, .inl l3, .inl l4, .inl l5] [.inr (.inl l0), .inr (.inl x0)] σ Q := w_ld d173_110 rfl
theorem d173_111 : adec m173 111 = some (.getfield 48, 3) := by decide +kernel
theorem s173_111 {l0 : Nat} {l1 : Int} {l2 : Int} {l3 : Int} {l4 : Int} {l5 : Int} {x0 : Nat} : WP m173 111 [.inr (.inl l0), .inl l1, .inl l2, .inl l3, .inl l4, .inl l5] [.inr (.inl 130), .inr (.inl x0)] σ Q = WP m173 114 [.inr (.inl l0), .inl l1, .inl l2, .inl l3, .inl l4, .inl l5] [.inr (.inl 142), .inr (.inl x0)] σ Q := (w_getR (c := 10) (n := 22) d173_111 (by decide +kernel) (by decide +kernel)).trans (g_and ⟨isO_dec (by decide +kernel), by decide +kernel⟩)
theorem d173_114 : adec m173 114 = some (.aload_n 0, 1) := by decide +kernel
theorem s173_114 {l0 : Nat} {l1 : Int} {l2 : Int} {l3 : Int} {l4 : Int} {l5 : Int} {x0 : Nat} {x1 : Nat} : WP m173 114 [.inr (.inl l0), .inl l1, .inl l2, .inl l3, .inl l4, .inl l5] [.inr (.inl x1), .inr (.inl x0)] σ Q = WP m173 115 [.inr (.inl l0), .inl l1, .inl l2, .inl l3, .inl l4, .inl l5] [.inr (.inl l0), .inr (.inl x1), .inr (.inl x0)] σ Q := w_ld d173_114 rfl
theorem d173_115 : adec m173 115 = some (.getfield 51, 3) := by decide +kernel
theorem s173_115 {l0 : Nat} {l1 : Int} {l2 : Int} {l3 : Int} {l4 : Int} {l5 : Int} {x0 : Nat} {x1 : Nat} : WP m173 115 [.inr (.inl l0), .inl l1, .inl l2, .inl l3, .inl l4, .inl l5] [.inr (.inl 130), .inr (.inl x1), .inr (.inl x0)] σ Q = WP m173 118 [.inr (.inl l0), .inl l1, .inl l2, .inl l3, .inl l4, .inl l5] [.inr (.inl 143), .inr (.inl x1), .inr (.inl x0)] σ Q := (w_getR (c := 10) (n := 24) d173_115 (by decide +kernel) (by decide +kernel)).trans (g_and ⟨isO_dec (by decide +kernel), by decide +kernel⟩)
theorem d173_118 : adec m173 118 = some (.iload 5, 2) := by decide +kernel
theorem s173_118 {l0 : Nat} {l1 : Int} {l2 : Int} {l3 : Int} {l4 : Int} {l5 : Int} {x0 : Nat} {x1 : Nat} {x2 : Nat} : WP m173 118 [.inr (.inl l0), .inl l1, .inl l2, .inl l3, .inl l4, .inl l5] [.inr (.inl x2), .inr (.inl x1), .inr (.inl x0)] σ Q = WP m173 120 [.inr (.inl l0), .inl l1, .inl l2, .inl l3, .inl l4, .inl l5] [.inl l5, .inr (.inl x2), .inr (.inl x1), .inr (.inl x0)] σ Q := w_ld d173_118 rfl
theorem d173_120 : adec m173 120 = some (.iaload, 1) := by decide +kernel
theorem s173_120 {l0 : Nat} {l1 : Int} {l2 : Int} {l3 : Int} {l4 : Int} {l5 : Int} {x0 : Nat} {x1 : Nat} {x2 : Nat} {x3 : Int} : WP m173 120 [.inr (.inl l0), .inl l1, .inl l2, .inl l3, .inl l4, .inl l5] [.inl x3, .inr (.inl x2), .inr (.inl x1), .inr (.inl x0)] σ Q = ((kdS x2 = 20 ∧ 0 ≤ x3 ∧ x3 < ln x2) ∧ WP m173 121 [.inr (.inl l0), .inl l1, .inl l2, .inl l3, .inl l4, .inl l5] [.inl (σ x2 x3.toNat), .inr (.inl x1), .inr (.inl x0)] σ Q) := w_iald d173_120
theorem d173_121 : adec m173 121 = some (.iaload, 1) := by decide +kernel
theorem s173_121 {l0 : Nat} {l1 : Int} {l2 : Int} {l3 : Int} {l4 : Int} {l5 : Int} {x0 : Nat} {x1 : Nat} {x2 : Int} : WP m173 121 [.inr (.inl l0), .inl l1, .inl l2, .inl l3, .inl l4, .inl l5] [.inl x2, .inr (.inl x1), .inr (.inl x0)] σ Q = ((kdS x1 = 20 ∧ 0 ≤ x2 ∧ x2 < ln x1) ∧ WP m173 122 [.inr (.inl l0), .inl l1, .inl l2, .inl l3, .inl l4, .inl l5] [.inl (σ x1 x2.toNat), .inr (.inl x0)] σ Q) := w_iald d173_121
theorem d173_122 : adec m173 122 = some (.invokevirtual 172, 3) := by decide +kernel
theorem s173_122 {l0 : Nat} {l1 : Int} {l2 : Int} {l3 : Int} {l4 : Int} {l5 : Int} {x1 : Int} : WP m173 122 [.inr (.inl l0), .inl l1, .inl l2, .inl l3, .inl l4, .inl l5] [.inl x1, .inr (.inl 130)] σ Q = CA m132 [.inr (.inl 130), .inl x1] σ (fun v σ2 => WP m173 125 [.inr (.inl l0), .inl l1, .inl l2, .inl l3, .inl l4, .inl l5] (v ++ []) σ2 Q) := (w_cV (k := 132) d173_122 (by decide +kernel) m132_at rfl rfl ⟨Nat.le_of_ble_eq_true rfl, Nat.le_of_ble_eq_true rfl, Nat.le_of_ble_eq_true rfl⟩ (by decide)).trans (g_and (isO_dec (by decide +kernel)))
theorem d173_125 : adec m173 125 = some (.iinc 5 (1), 3) := by decide +kernel
theorem s173_125 {l0 : Nat} {l1 : Int} {l2 : Int} {l3 : Int} {l4 : Int} {l5 : Int} : WP m173 125 [.inr (.inl l0), .inl l1, .inl l2, .inl l3, .inl l4, .inl l5] [] σ Q = (inI (l5 + (1)) ∧ WP m173 128 [.inr (.inl l0), .inl l1, .inl l2, .inl l3, .inl l4, .inl (l5 + (1))] [] σ Q) := w_iinc d173_125 rfl rfl
theorem d173_128 : adec m173 128 = some (.goto (-25), 3) := by decide +kernel
theorem s173_128 {l0 : Nat} {l1 : Int} {l2 : Int} {l3 : Int} {l4 : Int} {l5 : Int} : WP m173 128 [.inr (.inl l0), .inl l1, .inl l2, .inl l3, .inl l4, .inl l5] [] σ Q = WP m173 103 [.inr (.inl l0), .inl l1, .inl l2, .inl l3, .inl l4, .inl l5] [] σ Q := w_goto d173_128 (by decide)
theorem d173_131 : adec m173 131 = some (.goto (-121), 3) := by decide +kernel
theorem s173_131 {l0 : Nat} {l1 : Int} {l2 : Int} {l3 : Int} {l4 : Int} {l5 : Int} : WP m173 131 [.inr (.inl l0), .inl l1, .inl l2, .inl l3, .inl l4, .inl l5] [] σ Q = WP m173 10 [.inr (.inl l0), .inl l1, .inl l2, .inl l3, .inl l4, .inl l5] [] σ Q := w_goto d173_131 (by decide)
theorem d173_134 : adec m173 134 = some (.iconst (0), 1) := by decide +kernel
theorem s173_134 {l0 : Nat} {l1 : Int} {l2 : AV} {l3 : AV} {l4 : AV} {l5 : AV} : WP m173 134 [.inr (.inl l0), .inl l1, l2, l3, l4, l5] [] σ Q = WP m173 135 [.inr (.inl l0), .inl l1, l2, l3, l4, l5] [.inl (0)] σ Q := w_iconst d173_134 (by decide)
theorem d173_135 : adec m173 135 = some (.ireturn, 1) := by decide +kernel
theorem s173_135 {l0 : Nat} {l1 : Int} {l2 : AV} {l3 : AV} {l4 : AV} {l5 : AV} {x0 : Int} : WP m173 135 [.inr (.inl l0), .inl l1, l2, l3, l4, l5] [.inl x0] σ Q = ((x0 = 0 ∨ x0 = 1) ∧ Q [.inl x0] σ) := w_rz d173_135 rfl
theorem e173 {p0 : Nat} {p1 : Int} : CA m173 [.inr (.inl p0), .inl p1] σ Q = WP m173 0 [.inr (.inl p0), .inl p1, vU, vU, vU, vU] [] σ Q := rfl
-- BinderPressModel.changes(III)V
theorem d174_0 : adec m174 0 = some (.aload_n 0, 1) := by decide +kernel
theorem s174_0 {l0 : Nat} {l1 : Int} {l2 : Int} {l3 : Int} {l4 : AV} {l5 : AV} {l6 : AV} : WP m174 0 [.inr (.inl l0), .inl l1, .inl l2, .inl l3, l4, l5, l6] [] σ Q = WP m174 1 [.inr (.inl l0), .inl l1, .inl l2, .inl l3, l4, l5, l6] [.inr (.inl l0)] σ Q := w_ld d174_0 rfl
theorem d174_1 : adec m174 1 = some (.getfield 48, 3) := by decide +kernel
theorem s174_1 {l0 : Nat} {l1 : Int} {l2 : Int} {l3 : Int} {l4 : AV} {l5 : AV} {l6 : AV} : WP m174 1 [.inr (.inl l0), .inl l1, .inl l2, .inl l3, l4, l5, l6] [.inr (.inl 130)] σ Q = WP m174 4 [.inr (.inl l0), .inl l1, .inl l2, .inl l3, l4, l5, l6] [.inr (.inl 142)] σ Q := (w_getR (c := 10) (n := 22) d174_1 (by decide +kernel) (by decide +kernel)).trans (g_and ⟨isO_dec (by decide +kernel), by decide +kernel⟩)
theorem d174_4 : adec m174 4 = some (.aload_n 0, 1) := by decide +kernel
theorem s174_4 {l0 : Nat} {l1 : Int} {l2 : Int} {l3 : Int} {l4 : AV} {l5 : AV} {l6 : AV} {x0 : Nat} : WP m174 4 [.inr (.inl l0), .inl l1, .inl l2, .inl l3, l4, l5, l6] [.inr (.inl x0)] σ Q = WP m174 5 [.inr (.inl l0), .inl l1, .inl l2, .inl l3, l4, l5, l6] [.inr (.inl l0), .inr (.inl x0)] σ Q := w_ld d174_4 rfl
theorem d174_5 : adec m174 5 = some (.getfield 51, 3) := by decide +kernel
theorem s174_5 {l0 : Nat} {l1 : Int} {l2 : Int} {l3 : Int} {l4 : AV} {l5 : AV} {l6 : AV} {x0 : Nat} : WP m174 5 [.inr (.inl l0), .inl l1, .inl l2, .inl l3, l4, l5, l6] [.inr (.inl 130), .inr (.inl x0)] σ Q = WP m174 8 [.inr (.inl l0), .inl l1, .inl l2, .inl l3, l4, l5, l6] [.inr (.inl 143), .inr (.inl x0)] σ Q := (w_getR (c := 10) (n := 24) d174_5 (by decide +kernel) (by decide +kernel)).trans (g_and ⟨isO_dec (by decide +kernel), by decide +kernel⟩)
theorem d174_8 : adec m174 8 = some (.iload_n 3, 1) := by decide +kernel
theorem s174_8 {l0 : Nat} {l1 : Int} {l2 : Int} {l3 : Int} {l4 : AV} {l5 : AV} {l6 : AV} {x0 : Nat} {x1 : Nat} : WP m174 8 [.inr (.inl l0), .inl l1, .inl l2, .inl l3, l4, l5, l6] [.inr (.inl x1), .inr (.inl x0)] σ Q = WP m174 9 [.inr (.inl l0), .inl l1, .inl l2, .inl l3, l4, l5, l6] [.inl l3, .inr (.inl x1), .inr (.inl x0)] σ Q := w_ld d174_8 rfl
theorem d174_9 : adec m174 9 = some (.iconst (1), 1) := by decide +kernel
theorem s174_9 {l0 : Nat} {l1 : Int} {l2 : Int} {l3 : Int} {l4 : AV} {l5 : AV} {l6 : AV} {x0 : Nat} {x1 : Nat} {x2 : Int} : WP m174 9 [.inr (.inl l0), .inl l1, .inl l2, .inl l3, l4, l5, l6] [.inl x2, .inr (.inl x1), .inr (.inl x0)] σ Q = WP m174 10 [.inr (.inl l0), .inl l1, .inl l2, .inl l3, l4, l5, l6] [.inl (1), .inl x2, .inr (.inl x1), .inr (.inl x0)] σ Q := w_iconst d174_9 (by decide)
theorem d174_10 : adec m174 10 = some (.isub, 1) := by decide +kernel
theorem s174_10 {l0 : Nat} {l1 : Int} {l2 : Int} {l3 : Int} {l4 : AV} {l5 : AV} {l6 : AV} {x0 : Nat} {x1 : Nat} {x2 : Int} {x3 : Int} : WP m174 10 [.inr (.inl l0), .inl l1, .inl l2, .inl l3, l4, l5, l6] [.inl x3, .inl x2, .inr (.inl x1), .inr (.inl x0)] σ Q = (inI (x2 - x3) ∧ WP m174 11 [.inr (.inl l0), .inl l1, .inl l2, .inl l3, l4, l5, l6] [.inl (x2 - x3), .inr (.inl x1), .inr (.inl x0)] σ Q) := w_isub d174_10
theorem d174_11 : adec m174 11 = some (.iaload, 1) := by decide +kernel
theorem s174_11 {l0 : Nat} {l1 : Int} {l2 : Int} {l3 : Int} {l4 : AV} {l5 : AV} {l6 : AV} {x0 : Nat} {x1 : Nat} {x2 : Int} : WP m174 11 [.inr (.inl l0), .inl l1, .inl l2, .inl l3, l4, l5, l6] [.inl x2, .inr (.inl x1), .inr (.inl x0)] σ Q = ((kdS x1 = 20 ∧ 0 ≤ x2 ∧ x2 < ln x1) ∧ WP m174 12 [.inr (.inl l0), .inl l1, .inl l2, .inl l3, l4, l5, l6] [.inl (σ x1 x2.toNat), .inr (.inl x0)] σ Q) := w_iald d174_11
theorem d174_12 : adec m174 12 = some (.iaload, 1) := by decide +kernel
theorem s174_12 {l0 : Nat} {l1 : Int} {l2 : Int} {l3 : Int} {l4 : AV} {l5 : AV} {l6 : AV} {x0 : Nat} {x1 : Int} : WP m174 12 [.inr (.inl l0), .inl l1, .inl l2, .inl l3, l4, l5, l6] [.inl x1, .inr (.inl x0)] σ Q = ((kdS x0 = 20 ∧ 0 ≤ x1 ∧ x1 < ln x0) ∧ WP m174 13 [.inr (.inl l0), .inl l1, .inl l2, .inl l3, l4, l5, l6] [.inl (σ x0 x1.toNat)] σ Q) := w_iald d174_12
theorem d174_13 : adec m174 13 = some (.istore 4, 2) := by decide +kernel
theorem s174_13 {l0 : Nat} {l1 : Int} {l2 : Int} {l3 : Int} {l4 : AV} {l5 : AV} {l6 : AV} {x0 : Int} : WP m174 13 [.inr (.inl l0), .inl l1, .inl l2, .inl l3, l4, l5, l6] [.inl x0] σ Q = WP m174 15 [.inr (.inl l0), .inl l1, .inl l2, .inl l3, .inl x0, l5, l6] [] σ Q := w_st1 (j := 4) d174_13 rfl (Nat.le_of_ble_eq_true rfl) rfl
theorem d174_15 : adec m174 15 = some (.iload_n 2, 1) := by decide +kernel
theorem s174_15 {l0 : Nat} {l1 : Int} {l2 : Int} {l3 : Int} {l4 : Int} {l5 : AV} {l6 : AV} : WP m174 15 [.inr (.inl l0), .inl l1, .inl l2, .inl l3, .inl l4, l5, l6] [] σ Q = WP m174 16 [.inr (.inl l0), .inl l1, .inl l2, .inl l3, .inl l4, l5, l6] [.inl l2] σ Q := w_ld d174_15 rfl
theorem d174_16 : adec m174 16 = some (.iconst (1), 1) := by decide +kernel
theorem s174_16 {l0 : Nat} {l1 : Int} {l2 : Int} {l3 : Int} {l4 : Int} {l5 : AV} {l6 : AV} {x0 : Int} : WP m174 16 [.inr (.inl l0), .inl l1, .inl l2, .inl l3, .inl l4, l5, l6] [.inl x0] σ Q = WP m174 17 [.inr (.inl l0), .inl l1, .inl l2, .inl l3, .inl l4, l5, l6] [.inl (1), .inl x0] σ Q := w_iconst d174_16 (by decide)
theorem d174_17 : adec m174 17 = some (.if_icmp .ne (7), 3) := by decide +kernel
theorem s174_17 {l0 : Nat} {l1 : Int} {l2 : Int} {l3 : Int} {l4 : Int} {l5 : AV} {l6 : AV} {x0 : Int} {x1 : Int} : WP m174 17 [.inr (.inl l0), .inl l1, .inl l2, .inl l3, .inl l4, l5, l6] [.inl x1, .inl x0] σ Q = (if x0 = x1 then WP m174 20 [.inr (.inl l0), .inl l1, .inl l2, .inl l3, .inl l4, l5, l6] [] σ Q else WP m174 24 [.inr (.inl l0), .inl l1, .inl l2, .inl l3, .inl l4, l5, l6] [] σ Q) := w_icne d174_17 (by decide)
theorem d174_20 : adec m174 20 = some (.iconst (0), 1) := by decide +kernel
theorem s174_20 {l0 : Nat} {l1 : Int} {l2 : Int} {l3 : Int} {l4 : Int} {l5 : AV} {l6 : AV} : WP m174 20 [.inr (.inl l0), .inl l1, .inl l2, .inl l3, .inl l4, l5, l6] [] σ Q = WP m174 21 [.inr (.inl l0), .inl l1, .inl l2, .inl l3, .inl l4, l5, l6] [.inl (0)] σ Q := w_iconst d174_20 (by decide)
theorem d174_21 : adec m174 21 = some (.goto (16), 3) := by decide +kernel
theorem s174_21 {l0 : Nat} {l1 : Int} {l2 : Int} {l3 : Int} {l4 : Int} {l5 : AV} {l6 : AV} {x0 : Int} : WP m174 21 [.inr (.inl l0), .inl l1, .inl l2, .inl l3, .inl l4, l5, l6] [.inl x0] σ Q = WP m174 37 [.inr (.inl l0), .inl l1, .inl l2, .inl l3, .inl l4, l5, l6] [.inl x0] σ Q := w_goto d174_21 (by decide)
theorem d174_24 : adec m174 24 = some (.aload_n 0, 1) := by decide +kernel
theorem s174_24 {l0 : Nat} {l1 : Int} {l2 : Int} {l3 : Int} {l4 : Int} {l5 : AV} {l6 : AV} : WP m174 24 [.inr (.inl l0), .inl l1, .inl l2, .inl l3, .inl l4, l5, l6] [] σ Q = WP m174 25 [.inr (.inl l0), .inl l1, .inl l2, .inl l3, .inl l4, l5, l6] [.inr (.inl l0)] σ Q := w_ld d174_24 rfl
theorem d174_25 : adec m174 25 = some (.getfield 48, 3) := by decide +kernel
theorem s174_25 {l0 : Nat} {l1 : Int} {l2 : Int} {l3 : Int} {l4 : Int} {l5 : AV} {l6 : AV} : WP m174 25 [.inr (.inl l0), .inl l1, .inl l2, .inl l3, .inl l4, l5, l6] [.inr (.inl 130)] σ Q = WP m174 28 [.inr (.inl l0), .inl l1, .inl l2, .inl l3, .inl l4, l5, l6] [.inr (.inl 142)] σ Q := (w_getR (c := 10) (n := 22) d174_25 (by decide +kernel) (by decide +kernel)).trans (g_and ⟨isO_dec (by decide +kernel), by decide +kernel⟩)
theorem d174_28 : adec m174 28 = some (.aload_n 0, 1) := by decide +kernel
theorem s174_28 {l0 : Nat} {l1 : Int} {l2 : Int} {l3 : Int} {l4 : Int} {l5 : AV} {l6 : AV} {x0 : Nat} : WP m174 28 [.inr (.inl l0), .inl l1, .inl l2, .inl l3, .inl l4, l5, l6] [.inr (.inl x0)] σ Q = WP m174 29 [.inr (.inl l0), .inl l1, .inl l2, .inl l3, .inl l4, l5, l6] [.inr (.inl l0), .inr (.inl x0)] σ Q := w_ld d174_28 rfl
theorem d174_29 : adec m174 29 = some (.getfield 51, 3) := by decide +kernel
theorem s174_29 {l0 : Nat} {l1 : Int} {l2 : Int} {l3 : Int} {l4 : Int} {l5 : AV} {l6 : AV} {x0 : Nat} : WP m174 29 [.inr (.inl l0), .inl l1, .inl l2, .inl l3, .inl l4, l5, l6] [.inr (.inl 130), .inr (.inl x0)] σ Q = WP m174 32 [.inr (.inl l0), .inl l1, .inl l2, .inl l3, .inl l4, l5, l6] [.inr (.inl 143), .inr (.inl x0)] σ Q := (w_getR (c := 10) (n := 24) d174_29 (by decide +kernel) (by decide +kernel)).trans (g_and ⟨isO_dec (by decide +kernel), by decide +kernel⟩)
theorem d174_32 : adec m174 32 = some (.iload_n 3, 1) := by decide +kernel
theorem s174_32 {l0 : Nat} {l1 : Int} {l2 : Int} {l3 : Int} {l4 : Int} {l5 : AV} {l6 : AV} {x0 : Nat} {x1 : Nat} : WP m174 32 [.inr (.inl l0), .inl l1, .inl l2, .inl l3, .inl l4, l5, l6] [.inr (.inl x1), .inr (.inl x0)] σ Q = WP m174 33 [.inr (.inl l0), .inl l1, .inl l2, .inl l3, .inl l4, l5, l6] [.inl l3, .inr (.inl x1), .inr (.inl x0)] σ Q := w_ld d174_32 rfl
theorem d174_33 : adec m174 33 = some (.iconst (2), 1) := by decide +kernel
theorem s174_33 {l0 : Nat} {l1 : Int} {l2 : Int} {l3 : Int} {l4 : Int} {l5 : AV} {l6 : AV} {x0 : Nat} {x1 : Nat} {x2 : Int} : WP m174 33 [.inr (.inl l0), .inl l1, .inl l2, .inl l3, .inl l4, l5, l6] [.inl x2, .inr (.inl x1), .inr (.inl x0)] σ Q = WP m174 34 [.inr (.inl l0), .inl l1, .inl l2, .inl l3, .inl l4, l5, l6] [.inl (2), .inl x2, .inr (.inl x1), .inr (.inl x0)] σ Q := w_iconst d174_33 (by decide)
theorem d174_34 : adec m174 34 = some (.isub, 1) := by decide +kernel
theorem s174_34 {l0 : Nat} {l1 : Int} {l2 : Int} {l3 : Int} {l4 : Int} {l5 : AV} {l6 : AV} {x0 : Nat} {x1 : Nat} {x2 : Int} {x3 : Int} : WP m174 34 [.inr (.inl l0), .inl l1, .inl l2, .inl l3, .inl l4, l5, l6] [.inl x3, .inl x2, .inr (.inl x1), .inr (.inl x0)] σ Q = (inI (x2 - x3) ∧ WP m174 35 [.inr (.inl l0), .inl l1, .inl l2, .inl l3, .inl l4, l5, l6] [.inl (x2 - x3), .inr (.inl x1), .inr (.inl x0)] σ Q) := w_isub d174_34
theorem d174_35 : adec m174 35 = some (.iaload, 1) := by decide +kernel
theorem s174_35 {l0 : Nat} {l1 : Int} {l2 : Int} {l3 : Int} {l4 : Int} {l5 : AV} {l6 : AV} {x0 : Nat} {x1 : Nat} {x2 : Int} : WP m174 35 [.inr (.inl l0), .inl l1, .inl l2, .inl l3, .inl l4, l5, l6] [.inl x2, .inr (.inl x1), .inr (.inl x0)] σ Q = ((kdS x1 = 20 ∧ 0 ≤ x2 ∧ x2 < ln x1) ∧ WP m174 36 [.inr (.inl l0), .inl l1, .inl l2, .inl l3, .inl l4, l5, l6] [.inl (σ x1 x2.toNat), .inr (.inl x0)] σ Q) := w_iald d174_35
theorem d174_36 : adec m174 36 = some (.iaload, 1) := by decide +kernel
theorem s174_36 {l0 : Nat} {l1 : Int} {l2 : Int} {l3 : Int} {l4 : Int} {l5 : AV} {l6 : AV} {x0 : Nat} {x1 : Int} : WP m174 36 [.inr (.inl l0), .inl l1, .inl l2, .inl l3, .inl l4, l5, l6] [.inl x1, .inr (.inl x0)] σ Q = ((kdS x0 = 20 ∧ 0 ≤ x1 ∧ x1 < ln x0) ∧ WP m174 37 [.inr (.inl l0), .inl l1, .inl l2, .inl l3, .inl l4, l5, l6] [.inl (σ x0 x1.toNat)] σ Q) := w_iald d174_36
theorem d174_37 : adec m174 37 = some (.istore 5, 2) := by decide +kernel
theorem s174_37 {l0 : Nat} {l1 : Int} {l2 : Int} {l3 : Int} {l4 : Int} {l5 : AV} {l6 : AV} {x0 : Int} : WP m174 37 [.inr (.inl l0), .inl l1, .inl l2, .inl l3, .inl l4, l5, l6] [.inl x0] σ Q = WP m174 39 [.inr (.inl l0), .inl l1, .inl l2, .inl l3, .inl l4, .inl x0, l6] [] σ Q := w_st1 (j := 5) d174_37 rfl (Nat.le_of_ble_eq_true rfl) rfl
theorem d174_39 : adec m174 39 = some (.iload_n 2, 1) := by decide +kernel
theorem s174_39 {l0 : Nat} {l1 : Int} {l2 : Int} {l3 : Int} {l4 : Int} {l5 : Int} {l6 : AV} : WP m174 39 [.inr (.inl l0), .inl l1, .inl l2, .inl l3, .inl l4, .inl l5, l6] [] σ Q = WP m174 40 [.inr (.inl l0), .inl l1, .inl l2, .inl l3, .inl l4, .inl l5, l6] [.inl l2] σ Q := w_ld d174_39 rfl
theorem d174_40 : adec m174 40 = some (.iconst (3), 1) := by decide +kernel
theorem s174_40 {l0 : Nat} {l1 : Int} {l2 : Int} {l3 : Int} {l4 : Int} {l5 : Int} {l6 : AV} {x0 : Int} : WP m174 40 [.inr (.inl l0), .inl l1, .inl l2, .inl l3, .inl l4, .inl l5, l6] [.inl x0] σ Q = WP m174 41 [.inr (.inl l0), .inl l1, .inl l2, .inl l3, .inl l4, .inl l5, l6] [.inl (3), .inl x0] σ Q := w_iconst d174_40 (by decide)
theorem d174_41 : adec m174 41 = some (.if_icmp .ge (7), 3) := by decide +kernel
theorem s174_41 {l0 : Nat} {l1 : Int} {l2 : Int} {l3 : Int} {l4 : Int} {l5 : Int} {l6 : AV} {x0 : Int} {x1 : Int} : WP m174 41 [.inr (.inl l0), .inl l1, .inl l2, .inl l3, .inl l4, .inl l5, l6] [.inl x1, .inl x0] σ Q = (if x1 ≤ x0 then WP m174 48 [.inr (.inl l0), .inl l1, .inl l2, .inl l3, .inl l4, .inl l5, l6] [] σ Q else WP m174 44 [.inr (.inl l0), .inl l1, .inl l2, .inl l3, .inl l4, .inl l5, l6] [] σ Q) := w_icge d174_41 (by decide)
theorem d174_44 : adec m174 44 = some (.iconst (0), 1) := by decide +kernel
theorem s174_44 {l0 : Nat} {l1 : Int} {l2 : Int} {l3 : Int} {l4 : Int} {l5 : Int} {l6 : AV} : WP m174 44 [.inr (.inl l0), .inl l1, .inl l2, .inl l3, .inl l4, .inl l5, l6] [] σ Q = WP m174 45 [.inr (.inl l0), .inl l1, .inl l2, .inl l3, .inl l4, .inl l5, l6] [.inl (0)] σ Q := w_iconst d174_44 (by decide)
theorem d174_45 : adec m174 45 = some (.goto (16), 3) := by decide +kernel
theorem s174_45 {l0 : Nat} {l1 : Int} {l2 : Int} {l3 : Int} {l4 : Int} {l5 : Int} {l6 : AV} {x0 : Int} : WP m174 45 [.inr (.inl l0), .inl l1, .inl l2, .inl l3, .inl l4, .inl l5, l6] [.inl x0] σ Q = WP m174 61 [.inr (.inl l0), .inl l1, .inl l2, .inl l3, .inl l4, .inl l5, l6] [.inl x0] σ Q := w_goto d174_45 (by decide)
theorem d174_48 : adec m174 48 = some (.aload_n 0, 1) := by decide +kernel
theorem s174_48 {l0 : Nat} {l1 : Int} {l2 : Int} {l3 : Int} {l4 : Int} {l5 : Int} {l6 : AV} : WP m174 48 [.inr (.inl l0), .inl l1, .inl l2, .inl l3, .inl l4, .inl l5, l6] [] σ Q = WP m174 49 [.inr (.inl l0), .inl l1, .inl l2, .inl l3, .inl l4, .inl l5, l6] [.inr (.inl l0)] σ Q := w_ld d174_48 rfl
theorem d174_49 : adec m174 49 = some (.getfield 48, 3) := by decide +kernel
theorem s174_49 {l0 : Nat} {l1 : Int} {l2 : Int} {l3 : Int} {l4 : Int} {l5 : Int} {l6 : AV} : WP m174 49 [.inr (.inl l0), .inl l1, .inl l2, .inl l3, .inl l4, .inl l5, l6] [.inr (.inl 130)] σ Q = WP m174 52 [.inr (.inl l0), .inl l1, .inl l2, .inl l3, .inl l4, .inl l5, l6] [.inr (.inl 142)] σ Q := (w_getR (c := 10) (n := 22) d174_49 (by decide +kernel) (by decide +kernel)).trans (g_and ⟨isO_dec (by decide +kernel), by decide +kernel⟩)
theorem d174_52 : adec m174 52 = some (.aload_n 0, 1) := by decide +kernel
theorem s174_52 {l0 : Nat} {l1 : Int} {l2 : Int} {l3 : Int} {l4 : Int} {l5 : Int} {l6 : AV} {x0 : Nat} : WP m174 52 [.inr (.inl l0), .inl l1, .inl l2, .inl l3, .inl l4, .inl l5, l6] [.inr (.inl x0)] σ Q = WP m174 53 [.inr (.inl l0), .inl l1, .inl l2, .inl l3, .inl l4, .inl l5, l6] [.inr (.inl l0), .inr (.inl x0)] σ Q := w_ld d174_52 rfl
theorem d174_53 : adec m174 53 = some (.getfield 51, 3) := by decide +kernel
theorem s174_53 {l0 : Nat} {l1 : Int} {l2 : Int} {l3 : Int} {l4 : Int} {l5 : Int} {l6 : AV} {x0 : Nat} : WP m174 53 [.inr (.inl l0), .inl l1, .inl l2, .inl l3, .inl l4, .inl l5, l6] [.inr (.inl 130), .inr (.inl x0)] σ Q = WP m174 56 [.inr (.inl l0), .inl l1, .inl l2, .inl l3, .inl l4, .inl l5, l6] [.inr (.inl 143), .inr (.inl x0)] σ Q := (w_getR (c := 10) (n := 24) d174_53 (by decide +kernel) (by decide +kernel)).trans (g_and ⟨isO_dec (by decide +kernel), by decide +kernel⟩)
theorem d174_56 : adec m174 56 = some (.iload_n 3, 1) := by decide +kernel
theorem s174_56 {l0 : Nat} {l1 : Int} {l2 : Int} {l3 : Int} {l4 : Int} {l5 : Int} {l6 : AV} {x0 : Nat} {x1 : Nat} : WP m174 56 [.inr (.inl l0), .inl l1, .inl l2, .inl l3, .inl l4, .inl l5, l6] [.inr (.inl x1), .inr (.inl x0)] σ Q = WP m174 57 [.inr (.inl l0), .inl l1, .inl l2, .inl l3, .inl l4, .inl l5, l6] [.inl l3, .inr (.inl x1), .inr (.inl x0)] σ Q := w_ld d174_56 rfl
theorem d174_57 : adec m174 57 = some (.iconst (3), 1) := by decide +kernel
theorem s174_57 {l0 : Nat} {l1 : Int} {l2 : Int} {l3 : Int} {l4 : Int} {l5 : Int} {l6 : AV} {x0 : Nat} {x1 : Nat} {x2 : Int} : WP m174 57 [.inr (.inl l0), .inl l1, .inl l2, .inl l3, .inl l4, .inl l5, l6] [.inl x2, .inr (.inl x1), .inr (.inl x0)] σ Q = WP m174 58 [.inr (.inl l0), .inl l1, .inl l2, .inl l3, .inl l4, .inl l5, l6] [.inl (3), .inl x2, .inr (.inl x1), .inr (.inl x0)] σ Q := w_iconst d174_57 (by decide)
theorem d174_58 : adec m174 58 = some (.isub, 1) := by decide +kernel
theorem s174_58 {l0 : Nat} {l1 : Int} {l2 : Int} {l3 : Int} {l4 : Int} {l5 : Int} {l6 : AV} {x0 : Nat} {x1 : Nat} {x2 : Int} {x3 : Int} : WP m174 58 [.inr (.inl l0), .inl l1, .inl l2, .inl l3, .inl l4, .inl l5, l6] [.inl x3, .inl x2, .inr (.inl x1), .inr (.inl x0)] σ Q = (inI (x2 - x3) ∧ WP m174 59 [.inr (.inl l0), .inl l1, .inl l2, .inl l3, .inl l4, .inl l5, l6] [.inl (x2 - x3), .inr (.inl x1), .inr (.inl x0)] σ Q) := w_isub d174_58
theorem d174_59 : adec m174 59 = some (.iaload, 1) := by decide +kernel
theorem s174_59 {l0 : Nat} {l1 : Int} {l2 : Int} {l3 : Int} {l4 : Int} {l5 : Int} {l6 : AV} {x0 : Nat} {x1 : Nat} {x2 : Int} : WP m174 59 [.inr (.inl l0), .inl l1, .inl l2, .inl l3, .inl l4, .inl l5, l6] [.inl x2, .inr (.inl x1), .inr (.inl x0)] σ Q = ((kdS x1 = 20 ∧ 0 ≤ x2 ∧ x2 < ln x1) ∧ WP m174 60 [.inr (.inl l0), .inl l1, .inl l2, .inl l3, .inl l4, .inl l5, l6] [.inl (σ x1 x2.toNat), .inr (.inl x0)] σ Q) := w_iald d174_59
theorem d174_60 : adec m174 60 = some (.iaload, 1) := by decide +kernel
theorem s174_60 {l0 : Nat} {l1 : Int} {l2 : Int} {l3 : Int} {l4 : Int} {l5 : Int} {l6 : AV} {x0 : Nat} {x1 : Int} : WP m174 60 [.inr (.inl l0), .inl l1, .inl l2, .inl l3, .inl l4, .inl l5, l6] [.inl x1, .inr (.inl x0)] σ Q = ((kdS x0 = 20 ∧ 0 ≤ x1 ∧ x1 < ln x0) ∧ WP m174 61 [.inr (.inl l0), .inl l1, .inl l2, .inl l3, .inl l4, .inl l5, l6] [.inl (σ x0 x1.toNat)] σ Q) := w_iald d174_60
theorem d174_61 : adec m174 61 = some (.istore 6, 2) := by decide +kernel
theorem s174_61 {l0 : Nat} {l1 : Int} {l2 : Int} {l3 : Int} {l4 : Int} {l5 : Int} {l6 : AV} {x0 : Int} : WP m174 61 [.inr (.inl l0), .inl l1, .inl l2, .inl l3, .inl l4, .inl l5, l6] [.inl x0] σ Q = WP m174 63 [.inr (.inl l0), .inl l1, .inl l2, .inl l3, .inl l4, .inl l5, .inl x0] [] σ Q := w_st1 (j := 6) d174_61 rfl (Nat.le_of_ble_eq_true rfl) rfl
theorem d174_63 : adec m174 63 = some (.iload_n 2, 1) := by decide +kernel
theorem s174_63 {l0 : Nat} {l1 : Int} {l2 : Int} {l3 : Int} {l4 : Int} {l5 : Int} {l6 : Int} : WP m174 63 [.inr (.inl l0), .inl l1, .inl l2, .inl l3, .inl l4, .inl l5, .inl l6] [] σ Q = WP m174 64 [.inr (.inl l0), .inl l1, .inl l2, .inl l3, .inl l4, .inl l5, .inl l6] [.inl l2] σ Q := w_ld d174_63 rfl
theorem d174_64 : adec m174 64 = some (.tableswitch (110) (1) (4) #[32, 32, 51, 84], 32) := by decide +kernel
theorem s174_64 {l0 : Nat} {l1 : Int} {l2 : Int} {l3 : Int} {l4 : Int} {l5 : Int} {l6 : Int} {x0 : Int} : WP m174 64 [.inr (.inl l0), .inl l1, .inl l2, .inl l3, .inl l4, .inl l5, .inl l6] [.inl x0] σ Q = (if x0 = 1 then WP m174 96 [.inr (.inl l0), .inl l1, .inl l2, .inl l3, .inl l4, .inl l5, .inl l6] [] σ Q else if x0 = 2 then WP m174 96 [.inr (.inl l0), .inl l1, .inl l2, .inl l3, .inl l4, .inl l5, .inl l6] [] σ Q else if x0 = 3 then WP m174 115 [.inr (.inl l0), .inl l1, .inl l2, .inl l3, .inl l4, .inl l5, .inl l6] [] σ Q else if x0 = 4 then WP m174 148 [.inr (.inl l0), .inl l1, .inl l2, .inl l3, .inl l4, .inl l5, .inl l6] [] σ Q else WP m174 174 [.inr (.inl l0), .inl l1, .inl l2, .inl l3, .inl l4, .inl l5, .inl l6] [] σ Q) := by
  by_cases h0 : x0 = (1)
  · rw [if_pos h0]; subst h0; exact w_sw d174_64 rfl rfl
  by_cases h1 : x0 = (2)
  · rw [if_neg h0, if_pos h1]; subst h1; exact w_sw d174_64 rfl rfl
  by_cases h2 : x0 = (3)
  · rw [if_neg h0, if_neg h1, if_pos h2]; subst h2; exact w_sw d174_64 rfl rfl
  by_cases h3 : x0 = (4)
  · rw [if_neg h0, if_neg h1, if_neg h2, if_pos h3]; subst h3; exact w_sw d174_64 rfl rfl
  rw [if_neg h0, if_neg h1, if_neg h2, if_neg h3]
  by_cases hr : x0 < (1) ∨ (4) < x0
  · exact w_sw d174_64 rfl (by simp only [bstep]; rw [if_pos hr]; rfl)
  · omega
theorem d174_96 : adec m174 96 = some (.aload_n 0, 1) := by decide +kernel
theorem s174_96 {l0 : Nat} {l1 : Int} {l2 : Int} {l3 : Int} {l4 : Int} {l5 : Int} {l6 : Int} : WP m174 96 [.inr (.inl l0), .inl l1, .inl l2, .inl l3, .inl l4, .inl l5, .inl l6] [] σ Q = WP m174 97 [.inr (.inl l0), .inl l1, .inl l2, .inl l3, .inl l4, .inl l5, .inl l6] [.inr (.inl l0)] σ Q := w_ld d174_96 rfl
theorem d174_97 : adec m174 97 = some (.getfield 42, 3) := by decide +kernel
theorem s174_97 {l0 : Nat} {l1 : Int} {l2 : Int} {l3 : Int} {l4 : Int} {l5 : Int} {l6 : Int} : WP m174 97 [.inr (.inl l0), .inl l1, .inl l2, .inl l3, .inl l4, .inl l5, .inl l6] [.inr (.inl 130)] σ Q = WP m174 100 [.inr (.inl l0), .inl l1, .inl l2, .inl l3, .inl l4, .inl l5, .inl l6] [.inr (.inl 140)] σ Q := (w_getR (c := 10) (n := 20) d174_97 (by decide +kernel) (by decide +kernel)).trans (g_and ⟨isO_dec (by decide +kernel), by decide +kernel⟩)
theorem d174_100 : adec m174 100 = some (.iload_n 1, 1) := by decide +kernel
theorem s174_100 {l0 : Nat} {l1 : Int} {l2 : Int} {l3 : Int} {l4 : Int} {l5 : Int} {l6 : Int} {x0 : Nat} : WP m174 100 [.inr (.inl l0), .inl l1, .inl l2, .inl l3, .inl l4, .inl l5, .inl l6] [.inr (.inl x0)] σ Q = WP m174 101 [.inr (.inl l0), .inl l1, .inl l2, .inl l3, .inl l4, .inl l5, .inl l6] [.inl l1, .inr (.inl x0)] σ Q := w_ld d174_100 rfl
theorem d174_101 : adec m174 101 = some (.bipush (-7), 2) := by decide +kernel
theorem s174_101 {l0 : Nat} {l1 : Int} {l2 : Int} {l3 : Int} {l4 : Int} {l5 : Int} {l6 : Int} {x0 : Nat} {x1 : Int} : WP m174 101 [.inr (.inl l0), .inl l1, .inl l2, .inl l3, .inl l4, .inl l5, .inl l6] [.inl x1, .inr (.inl x0)] σ Q = WP m174 103 [.inr (.inl l0), .inl l1, .inl l2, .inl l3, .inl l4, .inl l5, .inl l6] [.inl (-7), .inl x1, .inr (.inl x0)] σ Q := w_bipush d174_101 (by decide)
theorem d174_103 : adec m174 103 = some (.iastore, 1) := by decide +kernel
theorem s174_103 {l0 : Nat} {l1 : Int} {l2 : Int} {l3 : Int} {l4 : Int} {l5 : Int} {l6 : Int} {x0 : Nat} {x1 : Int} {x2 : Int} : WP m174 103 [.inr (.inl l0), .inl l1, .inl l2, .inl l3, .inl l4, .inl l5, .inl l6] [.inl x2, .inl x1, .inr (.inl x0)] σ Q = ((kdS x0 = 20 ∧ 0 ≤ x1 ∧ x1 < ln x0) ∧ WP m174 104 [.inr (.inl l0), .inl l1, .inl l2, .inl l3, .inl l4, .inl l5, .inl l6] [] (aup σ x0 x1.toNat x2) Q) := w_iast d174_103
theorem d174_104 : adec m174 104 = some (.aload_n 0, 1) := by decide +kernel
theorem s174_104 {l0 : Nat} {l1 : Int} {l2 : Int} {l3 : Int} {l4 : Int} {l5 : Int} {l6 : Int} : WP m174 104 [.inr (.inl l0), .inl l1, .inl l2, .inl l3, .inl l4, .inl l5, .inl l6] [] σ Q = WP m174 105 [.inr (.inl l0), .inl l1, .inl l2, .inl l3, .inl l4, .inl l5, .inl l6] [.inr (.inl l0)] σ Q := w_ld d174_104 rfl
theorem d174_105 : adec m174 105 = some (.getfield 45, 3) := by decide +kernel
theorem s174_105 {l0 : Nat} {l1 : Int} {l2 : Int} {l3 : Int} {l4 : Int} {l5 : Int} {l6 : Int} : WP m174 105 [.inr (.inl l0), .inl l1, .inl l2, .inl l3, .inl l4, .inl l5, .inl l6] [.inr (.inl 130)] σ Q = WP m174 108 [.inr (.inl l0), .inl l1, .inl l2, .inl l3, .inl l4, .inl l5, .inl l6] [.inr (.inl 141)] σ Q := (w_getR (c := 10) (n := 21) d174_105 (by decide +kernel) (by decide +kernel)).trans (g_and ⟨isO_dec (by decide +kernel), by decide +kernel⟩)
theorem d174_108 : adec m174 108 = some (.iload_n 1, 1) := by decide +kernel
theorem s174_108 {l0 : Nat} {l1 : Int} {l2 : Int} {l3 : Int} {l4 : Int} {l5 : Int} {l6 : Int} {x0 : Nat} : WP m174 108 [.inr (.inl l0), .inl l1, .inl l2, .inl l3, .inl l4, .inl l5, .inl l6] [.inr (.inl x0)] σ Q = WP m174 109 [.inr (.inl l0), .inl l1, .inl l2, .inl l3, .inl l4, .inl l5, .inl l6] [.inl l1, .inr (.inl x0)] σ Q := w_ld d174_108 rfl
theorem d174_109 : adec m174 109 = some (.iload 4, 2) := by decide +kernel
theorem s174_109 {l0 : Nat} {l1 : Int} {l2 : Int} {l3 : Int} {l4 : Int} {l5 : Int} {l6 : Int} {x0 : Nat} {x1 : Int} : WP m174 109 [.inr (.inl l0), .inl l1, .inl l2, .inl l3, .inl l4, .inl l5, .inl l6] [.inl x1, .inr (.inl x0)] σ Q = WP m174 111 [.inr (.inl l0), .inl l1, .inl l2, .inl l3, .inl l4, .inl l5, .inl l6] [.inl l4, .inl x1, .inr (.inl x0)] σ Q := w_ld d174_109 rfl
theorem d174_111 : adec m174 111 = some (.iastore, 1) := by decide +kernel
theorem s174_111 {l0 : Nat} {l1 : Int} {l2 : Int} {l3 : Int} {l4 : Int} {l5 : Int} {l6 : Int} {x0 : Nat} {x1 : Int} {x2 : Int} : WP m174 111 [.inr (.inl l0), .inl l1, .inl l2, .inl l3, .inl l4, .inl l5, .inl l6] [.inl x2, .inl x1, .inr (.inl x0)] σ Q = ((kdS x0 = 20 ∧ 0 ≤ x1 ∧ x1 < ln x0) ∧ WP m174 112 [.inr (.inl l0), .inl l1, .inl l2, .inl l3, .inl l4, .inl l5, .inl l6] [] (aup σ x0 x1.toNat x2) Q) := w_iast d174_111
theorem d174_112 : adec m174 112 = some (.goto (85), 3) := by decide +kernel
theorem s174_112 {l0 : Nat} {l1 : Int} {l2 : Int} {l3 : Int} {l4 : Int} {l5 : Int} {l6 : Int} : WP m174 112 [.inr (.inl l0), .inl l1, .inl l2, .inl l3, .inl l4, .inl l5, .inl l6] [] σ Q = WP m174 197 [.inr (.inl l0), .inl l1, .inl l2, .inl l3, .inl l4, .inl l5, .inl l6] [] σ Q := w_goto d174_112 (by decide)
theorem d174_115 : adec m174 115 = some (.aload_n 0, 1) := by decide +kernel
theorem s174_115 {l0 : Nat} {l1 : Int} {l2 : Int} {l3 : Int} {l4 : Int} {l5 : Int} {l6 : Int} : WP m174 115 [.inr (.inl l0), .inl l1, .inl l2, .inl l3, .inl l4, .inl l5, .inl l6] [] σ Q = WP m174 116 [.inr (.inl l0), .inl l1, .inl l2, .inl l3, .inl l4, .inl l5, .inl l6] [.inr (.inl l0)] σ Q := w_ld d174_115 rfl
theorem d174_116 : adec m174 116 = some (.getfield 45, 3) := by decide +kernel
theorem s174_116 {l0 : Nat} {l1 : Int} {l2 : Int} {l3 : Int} {l4 : Int} {l5 : Int} {l6 : Int} : WP m174 116 [.inr (.inl l0), .inl l1, .inl l2, .inl l3, .inl l4, .inl l5, .inl l6] [.inr (.inl 130)] σ Q = WP m174 119 [.inr (.inl l0), .inl l1, .inl l2, .inl l3, .inl l4, .inl l5, .inl l6] [.inr (.inl 141)] σ Q := (w_getR (c := 10) (n := 21) d174_116 (by decide +kernel) (by decide +kernel)).trans (g_and ⟨isO_dec (by decide +kernel), by decide +kernel⟩)
theorem d174_119 : adec m174 119 = some (.iload_n 1, 1) := by decide +kernel
theorem s174_119 {l0 : Nat} {l1 : Int} {l2 : Int} {l3 : Int} {l4 : Int} {l5 : Int} {l6 : Int} {x0 : Nat} : WP m174 119 [.inr (.inl l0), .inl l1, .inl l2, .inl l3, .inl l4, .inl l5, .inl l6] [.inr (.inl x0)] σ Q = WP m174 120 [.inr (.inl l0), .inl l1, .inl l2, .inl l3, .inl l4, .inl l5, .inl l6] [.inl l1, .inr (.inl x0)] σ Q := w_ld d174_119 rfl
theorem d174_120 : adec m174 120 = some (.aload_n 0, 1) := by decide +kernel
theorem s174_120 {l0 : Nat} {l1 : Int} {l2 : Int} {l3 : Int} {l4 : Int} {l5 : Int} {l6 : Int} {x0 : Nat} {x1 : Int} : WP m174 120 [.inr (.inl l0), .inl l1, .inl l2, .inl l3, .inl l4, .inl l5, .inl l6] [.inl x1, .inr (.inl x0)] σ Q = WP m174 121 [.inr (.inl l0), .inl l1, .inl l2, .inl l3, .inl l4, .inl l5, .inl l6] [.inr (.inl l0), .inl x1, .inr (.inl x0)] σ Q := w_ld d174_120 rfl
theorem d174_121 : adec m174 121 = some (.iconst (0), 1) := by decide +kernel
theorem s174_121 {l0 : Nat} {l1 : Int} {l2 : Int} {l3 : Int} {l4 : Int} {l5 : Int} {l6 : Int} {x0 : Nat} {x1 : Int} {x2 : Nat} : WP m174 121 [.inr (.inl l0), .inl l1, .inl l2, .inl l3, .inl l4, .inl l5, .inl l6] [.inr (.inl x2), .inl x1, .inr (.inl x0)] σ Q = WP m174 122 [.inr (.inl l0), .inl l1, .inl l2, .inl l3, .inl l4, .inl l5, .inl l6] [.inl (0), .inr (.inl x2), .inl x1, .inr (.inl x0)] σ Q := w_iconst d174_121 (by decide)
theorem d174_122 : adec m174 122 = some (.iload 4, 2) := by decide +kernel
theorem s174_122 {l0 : Nat} {l1 : Int} {l2 : Int} {l3 : Int} {l4 : Int} {l5 : Int} {l6 : Int} {x0 : Nat} {x1 : Int} {x2 : Nat} {x3 : Int} : WP m174 122 [.inr (.inl l0), .inl l1, .inl l2, .inl l3, .inl l4, .inl l5, .inl l6] [.inl x3, .inr (.inl x2), .inl x1, .inr (.inl x0)] σ Q = WP m174 124 [.inr (.inl l0), .inl l1, .inl l2, .inl l3, .inl l4, .inl l5, .inl l6] [.inl l4, .inl x3, .inr (.inl x2), .inl x1, .inr (.inl x0)] σ Q := w_ld d174_122 rfl
theorem d174_124 : adec m174 124 = some (.iload 6, 2) := by decide +kernel
theorem s174_124 {l0 : Nat} {l1 : Int} {l2 : Int} {l3 : Int} {l4 : Int} {l5 : Int} {l6 : Int} {x0 : Nat} {x1 : Int} {x2 : Nat} {x3 : Int} {x4 : Int} : WP m174 124 [.inr (.inl l0), .inl l1, .inl l2, .inl l3, .inl l4, .inl l5, .inl l6] [.inl x4, .inl x3, .inr (.inl x2), .inl x1, .inr (.inl x0)] σ Q = WP m174 126 [.inr (.inl l0), .inl l1, .inl l2, .inl l3, .inl l4, .inl l5, .inl l6] [.inl l6, .inl x4, .inl x3, .inr (.inl x2), .inl x1, .inr (.inl x0)] σ Q := w_ld d174_124 rfl
theorem d174_126 : adec m174 126 = some (.invokevirtual 245, 3) := by decide +kernel
theorem s174_126 {l0 : Nat} {l1 : Int} {l2 : Int} {l3 : Int} {l4 : Int} {l5 : Int} {l6 : Int} {x0 : Nat} {x1 : Int} {x3 : Int} {x4 : Int} {x5 : Int} : WP m174 126 [.inr (.inl l0), .inl l1, .inl l2, .inl l3, .inl l4, .inl l5, .inl l6] [.inl x5, .inl x4, .inl x3, .inr (.inl 130), .inl x1, .inr (.inl x0)] σ Q = CA m169 [.inr (.inl 130), .inl x3, .inl x4, .inl x5] σ (fun v σ2 => WP m174 129 [.inr (.inl l0), .inl l1, .inl l2, .inl l3, .inl l4, .inl l5, .inl l6] (v ++ [.inl x1, .inr (.inl x0)]) σ2 Q) := (w_cV (k := 169) d174_126 (by decide +kernel) m169_at rfl rfl ⟨Nat.le_of_ble_eq_true rfl, Nat.le_of_ble_eq_true rfl, Nat.le_of_ble_eq_true rfl⟩ (by decide)).trans (g_and (isO_dec (by decide +kernel)))
theorem d174_129 : adec m174 129 = some (.iastore, 1) := by decide +kernel
theorem s174_129 {l0 : Nat} {l1 : Int} {l2 : Int} {l3 : Int} {l4 : Int} {l5 : Int} {l6 : Int} {x0 : Nat} {x1 : Int} {x2 : Int} : WP m174 129 [.inr (.inl l0), .inl l1, .inl l2, .inl l3, .inl l4, .inl l5, .inl l6] [.inl x2, .inl x1, .inr (.inl x0)] σ Q = ((kdS x0 = 20 ∧ 0 ≤ x1 ∧ x1 < ln x0) ∧ WP m174 130 [.inr (.inl l0), .inl l1, .inl l2, .inl l3, .inl l4, .inl l5, .inl l6] [] (aup σ x0 x1.toNat x2) Q) := w_iast d174_129
theorem d174_130 : adec m174 130 = some (.aload_n 0, 1) := by decide +kernel
theorem s174_130 {l0 : Nat} {l1 : Int} {l2 : Int} {l3 : Int} {l4 : Int} {l5 : Int} {l6 : Int} : WP m174 130 [.inr (.inl l0), .inl l1, .inl l2, .inl l3, .inl l4, .inl l5, .inl l6] [] σ Q = WP m174 131 [.inr (.inl l0), .inl l1, .inl l2, .inl l3, .inl l4, .inl l5, .inl l6] [.inr (.inl l0)] σ Q := w_ld d174_130 rfl
theorem d174_131 : adec m174 131 = some (.getfield 48, 3) := by decide +kernel
theorem s174_131 {l0 : Nat} {l1 : Int} {l2 : Int} {l3 : Int} {l4 : Int} {l5 : Int} {l6 : Int} : WP m174 131 [.inr (.inl l0), .inl l1, .inl l2, .inl l3, .inl l4, .inl l5, .inl l6] [.inr (.inl 130)] σ Q = WP m174 134 [.inr (.inl l0), .inl l1, .inl l2, .inl l3, .inl l4, .inl l5, .inl l6] [.inr (.inl 142)] σ Q := (w_getR (c := 10) (n := 22) d174_131 (by decide +kernel) (by decide +kernel)).trans (g_and ⟨isO_dec (by decide +kernel), by decide +kernel⟩)
theorem d174_134 : adec m174 134 = some (.iload_n 1, 1) := by decide +kernel
theorem s174_134 {l0 : Nat} {l1 : Int} {l2 : Int} {l3 : Int} {l4 : Int} {l5 : Int} {l6 : Int} {x0 : Nat} : WP m174 134 [.inr (.inl l0), .inl l1, .inl l2, .inl l3, .inl l4, .inl l5, .inl l6] [.inr (.inl x0)] σ Q = WP m174 135 [.inr (.inl l0), .inl l1, .inl l2, .inl l3, .inl l4, .inl l5, .inl l6] [.inl l1, .inr (.inl x0)] σ Q := w_ld d174_134 rfl
theorem d174_135 : adec m174 135 = some (.aload_n 0, 1) := by decide +kernel
theorem s174_135 {l0 : Nat} {l1 : Int} {l2 : Int} {l3 : Int} {l4 : Int} {l5 : Int} {l6 : Int} {x0 : Nat} {x1 : Int} : WP m174 135 [.inr (.inl l0), .inl l1, .inl l2, .inl l3, .inl l4, .inl l5, .inl l6] [.inl x1, .inr (.inl x0)] σ Q = WP m174 136 [.inr (.inl l0), .inl l1, .inl l2, .inl l3, .inl l4, .inl l5, .inl l6] [.inr (.inl l0), .inl x1, .inr (.inl x0)] σ Q := w_ld d174_135 rfl
theorem d174_136 : adec m174 136 = some (.iconst (0), 1) := by decide +kernel
theorem s174_136 {l0 : Nat} {l1 : Int} {l2 : Int} {l3 : Int} {l4 : Int} {l5 : Int} {l6 : Int} {x0 : Nat} {x1 : Int} {x2 : Nat} : WP m174 136 [.inr (.inl l0), .inl l1, .inl l2, .inl l3, .inl l4, .inl l5, .inl l6] [.inr (.inl x2), .inl x1, .inr (.inl x0)] σ Q = WP m174 137 [.inr (.inl l0), .inl l1, .inl l2, .inl l3, .inl l4, .inl l5, .inl l6] [.inl (0), .inr (.inl x2), .inl x1, .inr (.inl x0)] σ Q := w_iconst d174_136 (by decide)
theorem d174_137 : adec m174 137 = some (.iload 5, 2) := by decide +kernel
theorem s174_137 {l0 : Nat} {l1 : Int} {l2 : Int} {l3 : Int} {l4 : Int} {l5 : Int} {l6 : Int} {x0 : Nat} {x1 : Int} {x2 : Nat} {x3 : Int} : WP m174 137 [.inr (.inl l0), .inl l1, .inl l2, .inl l3, .inl l4, .inl l5, .inl l6] [.inl x3, .inr (.inl x2), .inl x1, .inr (.inl x0)] σ Q = WP m174 139 [.inr (.inl l0), .inl l1, .inl l2, .inl l3, .inl l4, .inl l5, .inl l6] [.inl l5, .inl x3, .inr (.inl x2), .inl x1, .inr (.inl x0)] σ Q := w_ld d174_137 rfl
theorem d174_139 : adec m174 139 = some (.iload 6, 2) := by decide +kernel
theorem s174_139 {l0 : Nat} {l1 : Int} {l2 : Int} {l3 : Int} {l4 : Int} {l5 : Int} {l6 : Int} {x0 : Nat} {x1 : Int} {x2 : Nat} {x3 : Int} {x4 : Int} : WP m174 139 [.inr (.inl l0), .inl l1, .inl l2, .inl l3, .inl l4, .inl l5, .inl l6] [.inl x4, .inl x3, .inr (.inl x2), .inl x1, .inr (.inl x0)] σ Q = WP m174 141 [.inr (.inl l0), .inl l1, .inl l2, .inl l3, .inl l4, .inl l5, .inl l6] [.inl l6, .inl x4, .inl x3, .inr (.inl x2), .inl x1, .inr (.inl x0)] σ Q := w_ld d174_139 rfl
theorem d174_141 : adec m174 141 = some (.invokevirtual 245, 3) := by decide +kernel
theorem s174_141 {l0 : Nat} {l1 : Int} {l2 : Int} {l3 : Int} {l4 : Int} {l5 : Int} {l6 : Int} {x0 : Nat} {x1 : Int} {x3 : Int} {x4 : Int} {x5 : Int} : WP m174 141 [.inr (.inl l0), .inl l1, .inl l2, .inl l3, .inl l4, .inl l5, .inl l6] [.inl x5, .inl x4, .inl x3, .inr (.inl 130), .inl x1, .inr (.inl x0)] σ Q = CA m169 [.inr (.inl 130), .inl x3, .inl x4, .inl x5] σ (fun v σ2 => WP m174 144 [.inr (.inl l0), .inl l1, .inl l2, .inl l3, .inl l4, .inl l5, .inl l6] (v ++ [.inl x1, .inr (.inl x0)]) σ2 Q) := (w_cV (k := 169) d174_141 (by decide +kernel) m169_at rfl rfl ⟨Nat.le_of_ble_eq_true rfl, Nat.le_of_ble_eq_true rfl, Nat.le_of_ble_eq_true rfl⟩ (by decide)).trans (g_and (isO_dec (by decide +kernel)))
theorem d174_144 : adec m174 144 = some (.iastore, 1) := by decide +kernel
theorem s174_144 {l0 : Nat} {l1 : Int} {l2 : Int} {l3 : Int} {l4 : Int} {l5 : Int} {l6 : Int} {x0 : Nat} {x1 : Int} {x2 : Int} : WP m174 144 [.inr (.inl l0), .inl l1, .inl l2, .inl l3, .inl l4, .inl l5, .inl l6] [.inl x2, .inl x1, .inr (.inl x0)] σ Q = ((kdS x0 = 20 ∧ 0 ≤ x1 ∧ x1 < ln x0) ∧ WP m174 145 [.inr (.inl l0), .inl l1, .inl l2, .inl l3, .inl l4, .inl l5, .inl l6] [] (aup σ x0 x1.toNat x2) Q) := w_iast d174_144
theorem d174_145 : adec m174 145 = some (.goto (52), 3) := by decide +kernel
theorem s174_145 {l0 : Nat} {l1 : Int} {l2 : Int} {l3 : Int} {l4 : Int} {l5 : Int} {l6 : Int} : WP m174 145 [.inr (.inl l0), .inl l1, .inl l2, .inl l3, .inl l4, .inl l5, .inl l6] [] σ Q = WP m174 197 [.inr (.inl l0), .inl l1, .inl l2, .inl l3, .inl l4, .inl l5, .inl l6] [] σ Q := w_goto d174_145 (by decide)
theorem d174_148 : adec m174 148 = some (.aload_n 0, 1) := by decide +kernel
theorem s174_148 {l0 : Nat} {l1 : Int} {l2 : Int} {l3 : Int} {l4 : Int} {l5 : Int} {l6 : Int} : WP m174 148 [.inr (.inl l0), .inl l1, .inl l2, .inl l3, .inl l4, .inl l5, .inl l6] [] σ Q = WP m174 149 [.inr (.inl l0), .inl l1, .inl l2, .inl l3, .inl l4, .inl l5, .inl l6] [.inr (.inl l0)] σ Q := w_ld d174_148 rfl
theorem d174_149 : adec m174 149 = some (.getfield 45, 3) := by decide +kernel
theorem s174_149 {l0 : Nat} {l1 : Int} {l2 : Int} {l3 : Int} {l4 : Int} {l5 : Int} {l6 : Int} : WP m174 149 [.inr (.inl l0), .inl l1, .inl l2, .inl l3, .inl l4, .inl l5, .inl l6] [.inr (.inl 130)] σ Q = WP m174 152 [.inr (.inl l0), .inl l1, .inl l2, .inl l3, .inl l4, .inl l5, .inl l6] [.inr (.inl 141)] σ Q := (w_getR (c := 10) (n := 21) d174_149 (by decide +kernel) (by decide +kernel)).trans (g_and ⟨isO_dec (by decide +kernel), by decide +kernel⟩)
theorem d174_152 : adec m174 152 = some (.iload_n 1, 1) := by decide +kernel
theorem s174_152 {l0 : Nat} {l1 : Int} {l2 : Int} {l3 : Int} {l4 : Int} {l5 : Int} {l6 : Int} {x0 : Nat} : WP m174 152 [.inr (.inl l0), .inl l1, .inl l2, .inl l3, .inl l4, .inl l5, .inl l6] [.inr (.inl x0)] σ Q = WP m174 153 [.inr (.inl l0), .inl l1, .inl l2, .inl l3, .inl l4, .inl l5, .inl l6] [.inl l1, .inr (.inl x0)] σ Q := w_ld d174_152 rfl
theorem d174_153 : adec m174 153 = some (.iload 4, 2) := by decide +kernel
theorem s174_153 {l0 : Nat} {l1 : Int} {l2 : Int} {l3 : Int} {l4 : Int} {l5 : Int} {l6 : Int} {x0 : Nat} {x1 : Int} : WP m174 153 [.inr (.inl l0), .inl l1, .inl l2, .inl l3, .inl l4, .inl l5, .inl l6] [.inl x1, .inr (.inl x0)] σ Q = WP m174 155 [.inr (.inl l0), .inl l1, .inl l2, .inl l3, .inl l4, .inl l5, .inl l6] [.inl l4, .inl x1, .inr (.inl x0)] σ Q := w_ld d174_153 rfl
theorem d174_155 : adec m174 155 = some (.iastore, 1) := by decide +kernel
theorem s174_155 {l0 : Nat} {l1 : Int} {l2 : Int} {l3 : Int} {l4 : Int} {l5 : Int} {l6 : Int} {x0 : Nat} {x1 : Int} {x2 : Int} : WP m174 155 [.inr (.inl l0), .inl l1, .inl l2, .inl l3, .inl l4, .inl l5, .inl l6] [.inl x2, .inl x1, .inr (.inl x0)] σ Q = ((kdS x0 = 20 ∧ 0 ≤ x1 ∧ x1 < ln x0) ∧ WP m174 156 [.inr (.inl l0), .inl l1, .inl l2, .inl l3, .inl l4, .inl l5, .inl l6] [] (aup σ x0 x1.toNat x2) Q) := w_iast d174_155
theorem d174_156 : adec m174 156 = some (.aload_n 0, 1) := by decide +kernel
theorem s174_156 {l0 : Nat} {l1 : Int} {l2 : Int} {l3 : Int} {l4 : Int} {l5 : Int} {l6 : Int} : WP m174 156 [.inr (.inl l0), .inl l1, .inl l2, .inl l3, .inl l4, .inl l5, .inl l6] [] σ Q = WP m174 157 [.inr (.inl l0), .inl l1, .inl l2, .inl l3, .inl l4, .inl l5, .inl l6] [.inr (.inl l0)] σ Q := w_ld d174_156 rfl
theorem d174_157 : adec m174 157 = some (.getfield 48, 3) := by decide +kernel
theorem s174_157 {l0 : Nat} {l1 : Int} {l2 : Int} {l3 : Int} {l4 : Int} {l5 : Int} {l6 : Int} : WP m174 157 [.inr (.inl l0), .inl l1, .inl l2, .inl l3, .inl l4, .inl l5, .inl l6] [.inr (.inl 130)] σ Q = WP m174 160 [.inr (.inl l0), .inl l1, .inl l2, .inl l3, .inl l4, .inl l5, .inl l6] [.inr (.inl 142)] σ Q := (w_getR (c := 10) (n := 22) d174_157 (by decide +kernel) (by decide +kernel)).trans (g_and ⟨isO_dec (by decide +kernel), by decide +kernel⟩)
theorem d174_160 : adec m174 160 = some (.iload_n 1, 1) := by decide +kernel
theorem s174_160 {l0 : Nat} {l1 : Int} {l2 : Int} {l3 : Int} {l4 : Int} {l5 : Int} {l6 : Int} {x0 : Nat} : WP m174 160 [.inr (.inl l0), .inl l1, .inl l2, .inl l3, .inl l4, .inl l5, .inl l6] [.inr (.inl x0)] σ Q = WP m174 161 [.inr (.inl l0), .inl l1, .inl l2, .inl l3, .inl l4, .inl l5, .inl l6] [.inl l1, .inr (.inl x0)] σ Q := w_ld d174_160 rfl
theorem d174_161 : adec m174 161 = some (.aload_n 0, 1) := by decide +kernel
theorem s174_161 {l0 : Nat} {l1 : Int} {l2 : Int} {l3 : Int} {l4 : Int} {l5 : Int} {l6 : Int} {x0 : Nat} {x1 : Int} : WP m174 161 [.inr (.inl l0), .inl l1, .inl l2, .inl l3, .inl l4, .inl l5, .inl l6] [.inl x1, .inr (.inl x0)] σ Q = WP m174 162 [.inr (.inl l0), .inl l1, .inl l2, .inl l3, .inl l4, .inl l5, .inl l6] [.inr (.inl l0), .inl x1, .inr (.inl x0)] σ Q := w_ld d174_161 rfl
theorem d174_162 : adec m174 162 = some (.iconst (0), 1) := by decide +kernel
theorem s174_162 {l0 : Nat} {l1 : Int} {l2 : Int} {l3 : Int} {l4 : Int} {l5 : Int} {l6 : Int} {x0 : Nat} {x1 : Int} {x2 : Nat} : WP m174 162 [.inr (.inl l0), .inl l1, .inl l2, .inl l3, .inl l4, .inl l5, .inl l6] [.inr (.inl x2), .inl x1, .inr (.inl x0)] σ Q = WP m174 163 [.inr (.inl l0), .inl l1, .inl l2, .inl l3, .inl l4, .inl l5, .inl l6] [.inl (0), .inr (.inl x2), .inl x1, .inr (.inl x0)] σ Q := w_iconst d174_162 (by decide)
theorem d174_163 : adec m174 163 = some (.iload 5, 2) := by decide +kernel
theorem s174_163 {l0 : Nat} {l1 : Int} {l2 : Int} {l3 : Int} {l4 : Int} {l5 : Int} {l6 : Int} {x0 : Nat} {x1 : Int} {x2 : Nat} {x3 : Int} : WP m174 163 [.inr (.inl l0), .inl l1, .inl l2, .inl l3, .inl l4, .inl l5, .inl l6] [.inl x3, .inr (.inl x2), .inl x1, .inr (.inl x0)] σ Q = WP m174 165 [.inr (.inl l0), .inl l1, .inl l2, .inl l3, .inl l4, .inl l5, .inl l6] [.inl l5, .inl x3, .inr (.inl x2), .inl x1, .inr (.inl x0)] σ Q := w_ld d174_163 rfl
theorem d174_165 : adec m174 165 = some (.iload 6, 2) := by decide +kernel
theorem s174_165 {l0 : Nat} {l1 : Int} {l2 : Int} {l3 : Int} {l4 : Int} {l5 : Int} {l6 : Int} {x0 : Nat} {x1 : Int} {x2 : Nat} {x3 : Int} {x4 : Int} : WP m174 165 [.inr (.inl l0), .inl l1, .inl l2, .inl l3, .inl l4, .inl l5, .inl l6] [.inl x4, .inl x3, .inr (.inl x2), .inl x1, .inr (.inl x0)] σ Q = WP m174 167 [.inr (.inl l0), .inl l1, .inl l2, .inl l3, .inl l4, .inl l5, .inl l6] [.inl l6, .inl x4, .inl x3, .inr (.inl x2), .inl x1, .inr (.inl x0)] σ Q := w_ld d174_165 rfl
theorem d174_167 : adec m174 167 = some (.invokevirtual 245, 3) := by decide +kernel
theorem s174_167 {l0 : Nat} {l1 : Int} {l2 : Int} {l3 : Int} {l4 : Int} {l5 : Int} {l6 : Int} {x0 : Nat} {x1 : Int} {x3 : Int} {x4 : Int} {x5 : Int} : WP m174 167 [.inr (.inl l0), .inl l1, .inl l2, .inl l3, .inl l4, .inl l5, .inl l6] [.inl x5, .inl x4, .inl x3, .inr (.inl 130), .inl x1, .inr (.inl x0)] σ Q = CA m169 [.inr (.inl 130), .inl x3, .inl x4, .inl x5] σ (fun v σ2 => WP m174 170 [.inr (.inl l0), .inl l1, .inl l2, .inl l3, .inl l4, .inl l5, .inl l6] (v ++ [.inl x1, .inr (.inl x0)]) σ2 Q) := (w_cV (k := 169) d174_167 (by decide +kernel) m169_at rfl rfl ⟨Nat.le_of_ble_eq_true rfl, Nat.le_of_ble_eq_true rfl, Nat.le_of_ble_eq_true rfl⟩ (by decide)).trans (g_and (isO_dec (by decide +kernel)))
theorem d174_170 : adec m174 170 = some (.iastore, 1) := by decide +kernel
theorem s174_170 {l0 : Nat} {l1 : Int} {l2 : Int} {l3 : Int} {l4 : Int} {l5 : Int} {l6 : Int} {x0 : Nat} {x1 : Int} {x2 : Int} : WP m174 170 [.inr (.inl l0), .inl l1, .inl l2, .inl l3, .inl l4, .inl l5, .inl l6] [.inl x2, .inl x1, .inr (.inl x0)] σ Q = ((kdS x0 = 20 ∧ 0 ≤ x1 ∧ x1 < ln x0) ∧ WP m174 171 [.inr (.inl l0), .inl l1, .inl l2, .inl l3, .inl l4, .inl l5, .inl l6] [] (aup σ x0 x1.toNat x2) Q) := w_iast d174_170
theorem d174_171 : adec m174 171 = some (.goto (26), 3) := by decide +kernel
theorem s174_171 {l0 : Nat} {l1 : Int} {l2 : Int} {l3 : Int} {l4 : Int} {l5 : Int} {l6 : Int} : WP m174 171 [.inr (.inl l0), .inl l1, .inl l2, .inl l3, .inl l4, .inl l5, .inl l6] [] σ Q = WP m174 197 [.inr (.inl l0), .inl l1, .inl l2, .inl l3, .inl l4, .inl l5, .inl l6] [] σ Q := w_goto d174_171 (by decide)
theorem d174_174 : adec m174 174 = some (.aload_n 0, 1) := by decide +kernel
theorem s174_174 {l0 : Nat} {l1 : Int} {l2 : Int} {l3 : Int} {l4 : Int} {l5 : Int} {l6 : Int} : WP m174 174 [.inr (.inl l0), .inl l1, .inl l2, .inl l3, .inl l4, .inl l5, .inl l6] [] σ Q = WP m174 175 [.inr (.inl l0), .inl l1, .inl l2, .inl l3, .inl l4, .inl l5, .inl l6] [.inr (.inl l0)] σ Q := w_ld d174_174 rfl
theorem d174_175 : adec m174 175 = some (.getfield 45, 3) := by decide +kernel
theorem s174_175 {l0 : Nat} {l1 : Int} {l2 : Int} {l3 : Int} {l4 : Int} {l5 : Int} {l6 : Int} : WP m174 175 [.inr (.inl l0), .inl l1, .inl l2, .inl l3, .inl l4, .inl l5, .inl l6] [.inr (.inl 130)] σ Q = WP m174 178 [.inr (.inl l0), .inl l1, .inl l2, .inl l3, .inl l4, .inl l5, .inl l6] [.inr (.inl 141)] σ Q := (w_getR (c := 10) (n := 21) d174_175 (by decide +kernel) (by decide +kernel)).trans (g_and ⟨isO_dec (by decide +kernel), by decide +kernel⟩)
theorem d174_178 : adec m174 178 = some (.iload_n 1, 1) := by decide +kernel
theorem s174_178 {l0 : Nat} {l1 : Int} {l2 : Int} {l3 : Int} {l4 : Int} {l5 : Int} {l6 : Int} {x0 : Nat} : WP m174 178 [.inr (.inl l0), .inl l1, .inl l2, .inl l3, .inl l4, .inl l5, .inl l6] [.inr (.inl x0)] σ Q = WP m174 179 [.inr (.inl l0), .inl l1, .inl l2, .inl l3, .inl l4, .inl l5, .inl l6] [.inl l1, .inr (.inl x0)] σ Q := w_ld d174_178 rfl
theorem d174_179 : adec m174 179 = some (.aload_n 0, 1) := by decide +kernel
theorem s174_179 {l0 : Nat} {l1 : Int} {l2 : Int} {l3 : Int} {l4 : Int} {l5 : Int} {l6 : Int} {x0 : Nat} {x1 : Int} : WP m174 179 [.inr (.inl l0), .inl l1, .inl l2, .inl l3, .inl l4, .inl l5, .inl l6] [.inl x1, .inr (.inl x0)] σ Q = WP m174 180 [.inr (.inl l0), .inl l1, .inl l2, .inl l3, .inl l4, .inl l5, .inl l6] [.inr (.inl l0), .inl x1, .inr (.inl x0)] σ Q := w_ld d174_179 rfl
theorem d174_180 : adec m174 180 = some (.iconst (0), 1) := by decide +kernel
theorem s174_180 {l0 : Nat} {l1 : Int} {l2 : Int} {l3 : Int} {l4 : Int} {l5 : Int} {l6 : Int} {x0 : Nat} {x1 : Int} {x2 : Nat} : WP m174 180 [.inr (.inl l0), .inl l1, .inl l2, .inl l3, .inl l4, .inl l5, .inl l6] [.inr (.inl x2), .inl x1, .inr (.inl x0)] σ Q = WP m174 181 [.inr (.inl l0), .inl l1, .inl l2, .inl l3, .inl l4, .inl l5, .inl l6] [.inl (0), .inr (.inl x2), .inl x1, .inr (.inl x0)] σ Q := w_iconst d174_180 (by decide)
theorem d174_181 : adec m174 181 = some (.iload 4, 2) := by decide +kernel
theorem s174_181 {l0 : Nat} {l1 : Int} {l2 : Int} {l3 : Int} {l4 : Int} {l5 : Int} {l6 : Int} {x0 : Nat} {x1 : Int} {x2 : Nat} {x3 : Int} : WP m174 181 [.inr (.inl l0), .inl l1, .inl l2, .inl l3, .inl l4, .inl l5, .inl l6] [.inl x3, .inr (.inl x2), .inl x1, .inr (.inl x0)] σ Q = WP m174 183 [.inr (.inl l0), .inl l1, .inl l2, .inl l3, .inl l4, .inl l5, .inl l6] [.inl l4, .inl x3, .inr (.inl x2), .inl x1, .inr (.inl x0)] σ Q := w_ld d174_181 rfl
theorem d174_183 : adec m174 183 = some (.iload 6, 2) := by decide +kernel
theorem s174_183 {l0 : Nat} {l1 : Int} {l2 : Int} {l3 : Int} {l4 : Int} {l5 : Int} {l6 : Int} {x0 : Nat} {x1 : Int} {x2 : Nat} {x3 : Int} {x4 : Int} : WP m174 183 [.inr (.inl l0), .inl l1, .inl l2, .inl l3, .inl l4, .inl l5, .inl l6] [.inl x4, .inl x3, .inr (.inl x2), .inl x1, .inr (.inl x0)] σ Q = WP m174 185 [.inr (.inl l0), .inl l1, .inl l2, .inl l3, .inl l4, .inl l5, .inl l6] [.inl l6, .inl x4, .inl x3, .inr (.inl x2), .inl x1, .inr (.inl x0)] σ Q := w_ld d174_183 rfl
theorem d174_185 : adec m174 185 = some (.invokevirtual 245, 3) := by decide +kernel
theorem s174_185 {l0 : Nat} {l1 : Int} {l2 : Int} {l3 : Int} {l4 : Int} {l5 : Int} {l6 : Int} {x0 : Nat} {x1 : Int} {x3 : Int} {x4 : Int} {x5 : Int} : WP m174 185 [.inr (.inl l0), .inl l1, .inl l2, .inl l3, .inl l4, .inl l5, .inl l6] [.inl x5, .inl x4, .inl x3, .inr (.inl 130), .inl x1, .inr (.inl x0)] σ Q = CA m169 [.inr (.inl 130), .inl x3, .inl x4, .inl x5] σ (fun v σ2 => WP m174 188 [.inr (.inl l0), .inl l1, .inl l2, .inl l3, .inl l4, .inl l5, .inl l6] (v ++ [.inl x1, .inr (.inl x0)]) σ2 Q) := (w_cV (k := 169) d174_185 (by decide +kernel) m169_at rfl rfl ⟨Nat.le_of_ble_eq_true rfl, Nat.le_of_ble_eq_true rfl, Nat.le_of_ble_eq_true rfl⟩ (by decide)).trans (g_and (isO_dec (by decide +kernel)))
theorem d174_188 : adec m174 188 = some (.iastore, 1) := by decide +kernel
theorem s174_188 {l0 : Nat} {l1 : Int} {l2 : Int} {l3 : Int} {l4 : Int} {l5 : Int} {l6 : Int} {x0 : Nat} {x1 : Int} {x2 : Int} : WP m174 188 [.inr (.inl l0), .inl l1, .inl l2, .inl l3, .inl l4, .inl l5, .inl l6] [.inl x2, .inl x1, .inr (.inl x0)] σ Q = ((kdS x0 = 20 ∧ 0 ≤ x1 ∧ x1 < ln x0) ∧ WP m174 189 [.inr (.inl l0), .inl l1, .inl l2, .inl l3, .inl l4, .inl l5, .inl l6] [] (aup σ x0 x1.toNat x2) Q) := w_iast d174_188
theorem d174_189 : adec m174 189 = some (.aload_n 0, 1) := by decide +kernel
theorem s174_189 {l0 : Nat} {l1 : Int} {l2 : Int} {l3 : Int} {l4 : Int} {l5 : Int} {l6 : Int} : WP m174 189 [.inr (.inl l0), .inl l1, .inl l2, .inl l3, .inl l4, .inl l5, .inl l6] [] σ Q = WP m174 190 [.inr (.inl l0), .inl l1, .inl l2, .inl l3, .inl l4, .inl l5, .inl l6] [.inr (.inl l0)] σ Q := w_ld d174_189 rfl
theorem d174_190 : adec m174 190 = some (.getfield 48, 3) := by decide +kernel
theorem s174_190 {l0 : Nat} {l1 : Int} {l2 : Int} {l3 : Int} {l4 : Int} {l5 : Int} {l6 : Int} : WP m174 190 [.inr (.inl l0), .inl l1, .inl l2, .inl l3, .inl l4, .inl l5, .inl l6] [.inr (.inl 130)] σ Q = WP m174 193 [.inr (.inl l0), .inl l1, .inl l2, .inl l3, .inl l4, .inl l5, .inl l6] [.inr (.inl 142)] σ Q := (w_getR (c := 10) (n := 22) d174_190 (by decide +kernel) (by decide +kernel)).trans (g_and ⟨isO_dec (by decide +kernel), by decide +kernel⟩)
theorem d174_193 : adec m174 193 = some (.iload_n 1, 1) := by decide +kernel
theorem s174_193 {l0 : Nat} {l1 : Int} {l2 : Int} {l3 : Int} {l4 : Int} {l5 : Int} {l6 : Int} {x0 : Nat} : WP m174 193 [.inr (.inl l0), .inl l1, .inl l2, .inl l3, .inl l4, .inl l5, .inl l6] [.inr (.inl x0)] σ Q = WP m174 194 [.inr (.inl l0), .inl l1, .inl l2, .inl l3, .inl l4, .inl l5, .inl l6] [.inl l1, .inr (.inl x0)] σ Q := w_ld d174_193 rfl
theorem d174_194 : adec m174 194 = some (.iload 5, 2) := by decide +kernel
theorem s174_194 {l0 : Nat} {l1 : Int} {l2 : Int} {l3 : Int} {l4 : Int} {l5 : Int} {l6 : Int} {x0 : Nat} {x1 : Int} : WP m174 194 [.inr (.inl l0), .inl l1, .inl l2, .inl l3, .inl l4, .inl l5, .inl l6] [.inl x1, .inr (.inl x0)] σ Q = WP m174 196 [.inr (.inl l0), .inl l1, .inl l2, .inl l3, .inl l4, .inl l5, .inl l6] [.inl l5, .inl x1, .inr (.inl x0)] σ Q := w_ld d174_194 rfl
theorem d174_196 : adec m174 196 = some (.iastore, 1) := by decide +kernel
theorem s174_196 {l0 : Nat} {l1 : Int} {l2 : Int} {l3 : Int} {l4 : Int} {l5 : Int} {l6 : Int} {x0 : Nat} {x1 : Int} {x2 : Int} : WP m174 196 [.inr (.inl l0), .inl l1, .inl l2, .inl l3, .inl l4, .inl l5, .inl l6] [.inl x2, .inl x1, .inr (.inl x0)] σ Q = ((kdS x0 = 20 ∧ 0 ≤ x1 ∧ x1 < ln x0) ∧ WP m174 197 [.inr (.inl l0), .inl l1, .inl l2, .inl l3, .inl l4, .inl l5, .inl l6] [] (aup σ x0 x1.toNat x2) Q) := w_iast d174_196
theorem d174_197 : adec m174 197 = some (.return_, 1) := by decide +kernel
theorem s174_197 {l0 : Nat} {l1 : Int} {l2 : Int} {l3 : Int} {l4 : Int} {l5 : Int} {l6 : Int} : WP m174 197 [.inr (.inl l0), .inl l1, .inl l2, .inl l3, .inl l4, .inl l5, .inl l6] [] σ Q = Q [] σ := w_rv d174_197 rfl
theorem e174 {p0 : Nat} {p1 : Int} {p2 : Int} {p3 : Int} : CA m174 [.inr (.inl p0), .inl p1, .inl p2, .inl p3] σ Q = WP m174 0 [.inr (.inl p0), .inl p1, .inl p2, .inl p3, vU, vU, vU] [] σ Q := rfl
-- BinderPressModel.hasStep(I)Z
theorem d175_0 : adec m175 0 = some (.aload_n 0, 1) := by decide +kernel
theorem s175_0 {l0 : Nat} {l1 : Int} {l2 : AV} {l3 : AV} {l4 : AV} : WP m175 0 [.inr (.inl l0), .inl l1, l2, l3, l4] [] σ Q = WP m175 1 [.inr (.inl l0), .inl l1, l2, l3, l4] [.inr (.inl l0)] σ Q := w_ld d175_0 rfl
theorem d175_1 : adec m175 1 = some (.iconst (0), 1) := by decide +kernel
theorem s175_1 {l0 : Nat} {l1 : Int} {l2 : AV} {l3 : AV} {l4 : AV} {x0 : Nat} : WP m175 1 [.inr (.inl l0), .inl l1, l2, l3, l4] [.inr (.inl x0)] σ Q = WP m175 2 [.inr (.inl l0), .inl l1, l2, l3, l4] [.inl (0), .inr (.inl x0)] σ Q := w_iconst d175_1 (by decide)
theorem d175_2 : adec m175 2 = some (.putfield 94, 3) := by decide +kernel
theorem s175_2 {l0 : Nat} {l1 : Int} {l2 : AV} {l3 : AV} {l4 : AV} {x1 : Int} : WP m175 2 [.inr (.inl l0), .inl l1, l2, l3, l4] [.inl x1, .inr (.inl 130)] σ Q = WP m175 5 [.inr (.inl l0), .inl l1, l2, l3, l4] [] (aup σ 130 11 x1) Q := (w_putI (c := 10) (n := 11) d175_2 (by decide +kernel) (by decide +kernel) (by decide +kernel)).trans (g_and (isO_dec (by decide +kernel)))
theorem d175_5 : adec m175 5 = some (.aload_n 0, 1) := by decide +kernel
theorem s175_5 {l0 : Nat} {l1 : Int} {l2 : AV} {l3 : AV} {l4 : AV} : WP m175 5 [.inr (.inl l0), .inl l1, l2, l3, l4] [] σ Q = WP m175 6 [.inr (.inl l0), .inl l1, l2, l3, l4] [.inr (.inl l0)] σ Q := w_ld d175_5 rfl
theorem d175_6 : adec m175 6 = some (.iload_n 1, 1) := by decide +kernel
theorem s175_6 {l0 : Nat} {l1 : Int} {l2 : AV} {l3 : AV} {l4 : AV} {x0 : Nat} : WP m175 6 [.inr (.inl l0), .inl l1, l2, l3, l4] [.inr (.inl x0)] σ Q = WP m175 7 [.inr (.inl l0), .inl l1, l2, l3, l4] [.inl l1, .inr (.inl x0)] σ Q := w_ld d175_6 rfl
theorem d175_7 : adec m175 7 = some (.invokevirtual 172, 3) := by decide +kernel
theorem s175_7 {l0 : Nat} {l1 : Int} {l2 : AV} {l3 : AV} {l4 : AV} {x1 : Int} : WP m175 7 [.inr (.inl l0), .inl l1, l2, l3, l4] [.inl x1, .inr (.inl 130)] σ Q = CA m132 [.inr (.inl 130), .inl x1] σ (fun v σ2 => WP m175 10 [.inr (.inl l0), .inl l1, l2, l3, l4] (v ++ []) σ2 Q) := (w_cV (k := 132) d175_7 (by decide +kernel) m132_at rfl rfl ⟨Nat.le_of_ble_eq_true rfl, Nat.le_of_ble_eq_true rfl, Nat.le_of_ble_eq_true rfl⟩ (by decide)).trans (g_and (isO_dec (by decide +kernel)))
theorem d175_10 : adec m175 10 = some (.aload_n 0, 1) := by decide +kernel
theorem s175_10 {l0 : Nat} {l1 : Int} {l2 : AV} {l3 : AV} {l4 : AV} : WP m175 10 [.inr (.inl l0), .inl l1, l2, l3, l4] [] σ Q = WP m175 11 [.inr (.inl l0), .inl l1, l2, l3, l4] [.inr (.inl l0)] σ Q := w_ld d175_10 rfl
theorem d175_11 : adec m175 11 = some (.getfield 94, 3) := by decide +kernel
theorem s175_11 {l0 : Nat} {l1 : Int} {l2 : AV} {l3 : AV} {l4 : AV} : WP m175 11 [.inr (.inl l0), .inl l1, l2, l3, l4] [.inr (.inl 130)] σ Q = WP m175 14 [.inr (.inl l0), .inl l1, l2, l3, l4] [.inl (σ 130 11)] σ Q := (w_getI (c := 10) (n := 11) d175_11 (by decide +kernel) (by decide +kernel)).trans (g_and (isO_dec (by decide +kernel)))
theorem d175_14 : adec m175 14 = some (.ifCond .le (96), 3) := by decide +kernel
theorem s175_14 {l0 : Nat} {l1 : Int} {l2 : AV} {l3 : AV} {l4 : AV} {x0 : Int} : WP m175 14 [.inr (.inl l0), .inl l1, l2, l3, l4] [.inl x0] σ Q = (if x0 ≤ 0 then WP m175 110 [.inr (.inl l0), .inl l1, l2, l3, l4] [] σ Q else WP m175 17 [.inr (.inl l0), .inl l1, l2, l3, l4] [] σ Q) := w_ifle d175_14 (by decide)
theorem d175_17 : adec m175 17 = some (.aload_n 0, 1) := by decide +kernel
theorem s175_17 {l0 : Nat} {l1 : Int} {l2 : AV} {l3 : AV} {l4 : AV} : WP m175 17 [.inr (.inl l0), .inl l1, l2, l3, l4] [] σ Q = WP m175 18 [.inr (.inl l0), .inl l1, l2, l3, l4] [.inr (.inl l0)] σ Q := w_ld d175_17 rfl
theorem d175_18 : adec m175 18 = some (.aload_n 0, 1) := by decide +kernel
theorem s175_18 {l0 : Nat} {l1 : Int} {l2 : AV} {l3 : AV} {l4 : AV} {x0 : Nat} : WP m175 18 [.inr (.inl l0), .inl l1, l2, l3, l4] [.inr (.inl x0)] σ Q = WP m175 19 [.inr (.inl l0), .inl l1, l2, l3, l4] [.inr (.inl l0), .inr (.inl x0)] σ Q := w_ld d175_18 rfl
theorem d175_19 : adec m175 19 = some (.invokevirtual 175, 3) := by decide +kernel
theorem s175_19 {l0 : Nat} {l1 : Int} {l2 : AV} {l3 : AV} {l4 : AV} {x0 : Nat} : WP m175 19 [.inr (.inl l0), .inl l1, l2, l3, l4] [.inr (.inl 130), .inr (.inl x0)] σ Q = CA m133 [.inr (.inl 130)] σ (fun v σ2 => WP m175 22 [.inr (.inl l0), .inl l1, l2, l3, l4] (v ++ [.inr (.inl x0)]) σ2 Q) := (w_cV (k := 133) d175_19 (by decide +kernel) m133_at rfl rfl ⟨Nat.le_of_ble_eq_true rfl, Nat.le_of_ble_eq_true rfl, Nat.le_of_ble_eq_true rfl⟩ (by decide)).trans (g_and (isO_dec (by decide +kernel)))
theorem d175_22 : adec m175 22 = some (.invokevirtual 249, 3) := by decide +kernel
theorem s175_22 {l0 : Nat} {l1 : Int} {l2 : AV} {l3 : AV} {l4 : AV} {x1 : Int} : WP m175 22 [.inr (.inl l0), .inl l1, l2, l3, l4] [.inl x1, .inr (.inl 130)] σ Q = CA m170 [.inr (.inl 130), .inl x1] σ (fun v σ2 => WP m175 25 [.inr (.inl l0), .inl l1, l2, l3, l4] (v ++ []) σ2 Q) := (w_cV (k := 170) d175_22 (by decide +kernel) m170_at rfl rfl ⟨Nat.le_of_ble_eq_true rfl, Nat.le_of_ble_eq_true rfl, Nat.le_of_ble_eq_true rfl⟩ (by decide)).trans (g_and (isO_dec (by decide +kernel)))
theorem d175_25 : adec m175 25 = some (.istore_n 2, 1) := by decide +kernel
theorem s175_25 {l0 : Nat} {l1 : Int} {l2 : AV} {l3 : AV} {l4 : AV} {x0 : Int} : WP m175 25 [.inr (.inl l0), .inl l1, l2, l3, l4] [.inl x0] σ Q = WP m175 26 [.inr (.inl l0), .inl l1, .inl x0, l3, l4] [] σ Q := w_st1 (j := 2) d175_25 rfl (Nat.le_of_ble_eq_true rfl) rfl
theorem d175_26 : adec m175 26 = some (.iconst (0), 1) := by decide +kernel
theorem s175_26 {l0 : Nat} {l1 : Int} {l2 : Int} {l3 : AV} {l4 : AV} : WP m175 26 [.inr (.inl l0), .inl l1, .inl l2, l3, l4] [] σ Q = WP m175 27 [.inr (.inl l0), .inl l1, .inl l2, l3, l4] [.inl (0)] σ Q := w_iconst d175_26 (by decide)
theorem d175_27 : adec m175 27 = some (.istore_n 3, 1) := by decide +kernel
theorem s175_27 {l0 : Nat} {l1 : Int} {l2 : Int} {l3 : AV} {l4 : AV} {x0 : Int} : WP m175 27 [.inr (.inl l0), .inl l1, .inl l2, l3, l4] [.inl x0] σ Q = WP m175 28 [.inr (.inl l0), .inl l1, .inl l2, .inl x0, l4] [] σ Q := w_st1 (j := 3) d175_27 rfl (Nat.le_of_ble_eq_true rfl) rfl
theorem d175_28 : adec m175 28 = some (.aload_n 0, 1) := by decide +kernel
theorem s175_28 {l0 : Nat} {l1 : Int} {l2 : Int} {l3 : Int} {l4 : AV} : WP m175 28 [.inr (.inl l0), .inl l1, .inl l2, .inl l3, l4] [] σ Q = WP m175 29 [.inr (.inl l0), .inl l1, .inl l2, .inl l3, l4] [.inr (.inl l0)] σ Q := w_ld d175_28 rfl
theorem d175_29 : adec m175 29 = some (.getfield 42, 3) := by decide +kernel
theorem s175_29 {l0 : Nat} {l1 : Int} {l2 : Int} {l3 : Int} {l4 : AV} : WP m175 29 [.inr (.inl l0), .inl l1, .inl l2, .inl l3, l4] [.inr (.inl 130)] σ Q = WP m175 32 [.inr (.inl l0), .inl l1, .inl l2, .inl l3, l4] [.inr (.inl 140)] σ Q := (w_getR (c := 10) (n := 20) d175_29 (by decide +kernel) (by decide +kernel)).trans (g_and ⟨isO_dec (by decide +kernel), by decide +kernel⟩)
theorem d175_32 : adec m175 32 = some (.iload_n 2, 1) := by decide +kernel
theorem s175_32 {l0 : Nat} {l1 : Int} {l2 : Int} {l3 : Int} {l4 : AV} {x0 : Nat} : WP m175 32 [.inr (.inl l0), .inl l1, .inl l2, .inl l3, l4] [.inr (.inl x0)] σ Q = WP m175 33 [.inr (.inl l0), .inl l1, .inl l2, .inl l3, l4] [.inl l2, .inr (.inl x0)] σ Q := w_ld d175_32 rfl
theorem d175_33 : adec m175 33 = some (.iaload, 1) := by decide +kernel
theorem s175_33 {l0 : Nat} {l1 : Int} {l2 : Int} {l3 : Int} {l4 : AV} {x0 : Nat} {x1 : Int} : WP m175 33 [.inr (.inl l0), .inl l1, .inl l2, .inl l3, l4] [.inl x1, .inr (.inl x0)] σ Q = ((kdS x0 = 20 ∧ 0 ≤ x1 ∧ x1 < ln x0) ∧ WP m175 34 [.inr (.inl l0), .inl l1, .inl l2, .inl l3, l4] [.inl (σ x0 x1.toNat)] σ Q) := w_iald d175_33
theorem d175_34 : adec m175 34 = some (.ifCond .ne (27), 3) := by decide +kernel
theorem s175_34 {l0 : Nat} {l1 : Int} {l2 : Int} {l3 : Int} {l4 : AV} {x0 : Int} : WP m175 34 [.inr (.inl l0), .inl l1, .inl l2, .inl l3, l4] [.inl x0] σ Q = (if x0 = 0 then WP m175 37 [.inr (.inl l0), .inl l1, .inl l2, .inl l3, l4] [] σ Q else WP m175 61 [.inr (.inl l0), .inl l1, .inl l2, .inl l3, l4] [] σ Q) := w_ifne d175_34 (by decide)
theorem d175_37 : adec m175 37 = some (.aload_n 0, 1) := by decide +kernel
theorem s175_37 {l0 : Nat} {l1 : Int} {l2 : Int} {l3 : Int} {l4 : AV} : WP m175 37 [.inr (.inl l0), .inl l1, .inl l2, .inl l3, l4] [] σ Q = WP m175 38 [.inr (.inl l0), .inl l1, .inl l2, .inl l3, l4] [.inr (.inl l0)] σ Q := w_ld d175_37 rfl
theorem d175_38 : adec m175 38 = some (.getfield 51, 3) := by decide +kernel
theorem s175_38 {l0 : Nat} {l1 : Int} {l2 : Int} {l3 : Int} {l4 : AV} : WP m175 38 [.inr (.inl l0), .inl l1, .inl l2, .inl l3, l4] [.inr (.inl 130)] σ Q = WP m175 41 [.inr (.inl l0), .inl l1, .inl l2, .inl l3, l4] [.inr (.inl 143)] σ Q := (w_getR (c := 10) (n := 24) d175_38 (by decide +kernel) (by decide +kernel)).trans (g_and ⟨isO_dec (by decide +kernel), by decide +kernel⟩)
theorem d175_41 : adec m175 41 = some (.iload_n 3, 1) := by decide +kernel
theorem s175_41 {l0 : Nat} {l1 : Int} {l2 : Int} {l3 : Int} {l4 : AV} {x0 : Nat} : WP m175 41 [.inr (.inl l0), .inl l1, .inl l2, .inl l3, l4] [.inr (.inl x0)] σ Q = WP m175 42 [.inr (.inl l0), .inl l1, .inl l2, .inl l3, l4] [.inl l3, .inr (.inl x0)] σ Q := w_ld d175_41 rfl
theorem d175_42 : adec m175 42 = some (.iload_n 2, 1) := by decide +kernel
theorem s175_42 {l0 : Nat} {l1 : Int} {l2 : Int} {l3 : Int} {l4 : AV} {x0 : Nat} {x1 : Int} : WP m175 42 [.inr (.inl l0), .inl l1, .inl l2, .inl l3, l4] [.inl x1, .inr (.inl x0)] σ Q = WP m175 43 [.inr (.inl l0), .inl l1, .inl l2, .inl l3, l4] [.inl l2, .inl x1, .inr (.inl x0)] σ Q := w_ld d175_42 rfl
theorem d175_43 : adec m175 43 = some (.iastore, 1) := by decide +kernel
theorem s175_43 {l0 : Nat} {l1 : Int} {l2 : Int} {l3 : Int} {l4 : AV} {x0 : Nat} {x1 : Int} {x2 : Int} : WP m175 43 [.inr (.inl l0), .inl l1, .inl l2, .inl l3, l4] [.inl x2, .inl x1, .inr (.inl x0)] σ Q = ((kdS x0 = 20 ∧ 0 ≤ x1 ∧ x1 < ln x0) ∧ WP m175 44 [.inr (.inl l0), .inl l1, .inl l2, .inl l3, l4] [] (aup σ x0 x1.toNat x2) Q) := w_iast d175_43
theorem d175_44 : adec m175 44 = some (.iinc 3 (1), 3) := by decide +kernel
theorem s175_44 {l0 : Nat} {l1 : Int} {l2 : Int} {l3 : Int} {l4 : AV} : WP m175 44 [.inr (.inl l0), .inl l1, .inl l2, .inl l3, l4] [] σ Q = (inI (l3 + (1)) ∧ WP m175 47 [.inr (.inl l0), .inl l1, .inl l2, .inl (l3 + (1)), l4] [] σ Q) := w_iinc d175_44 rfl rfl
theorem d175_47 : adec m175 47 = some (.aload_n 0, 1) := by decide +kernel
theorem s175_47 {l0 : Nat} {l1 : Int} {l2 : Int} {l3 : Int} {l4 : AV} : WP m175 47 [.inr (.inl l0), .inl l1, .inl l2, .inl l3, l4] [] σ Q = WP m175 48 [.inr (.inl l0), .inl l1, .inl l2, .inl l3, l4] [.inr (.inl l0)] σ Q := w_ld d175_47 rfl
theorem d175_48 : adec m175 48 = some (.aload_n 0, 1) := by decide +kernel
theorem s175_48 {l0 : Nat} {l1 : Int} {l2 : Int} {l3 : Int} {l4 : AV} {x0 : Nat} : WP m175 48 [.inr (.inl l0), .inl l1, .inl l2, .inl l3, l4] [.inr (.inl x0)] σ Q = WP m175 49 [.inr (.inl l0), .inl l1, .inl l2, .inl l3, l4] [.inr (.inl l0), .inr (.inl x0)] σ Q := w_ld d175_48 rfl
theorem d175_49 : adec m175 49 = some (.getfield 45, 3) := by decide +kernel
theorem s175_49 {l0 : Nat} {l1 : Int} {l2 : Int} {l3 : Int} {l4 : AV} {x0 : Nat} : WP m175 49 [.inr (.inl l0), .inl l1, .inl l2, .inl l3, l4] [.inr (.inl 130), .inr (.inl x0)] σ Q = WP m175 52 [.inr (.inl l0), .inl l1, .inl l2, .inl l3, l4] [.inr (.inl 141), .inr (.inl x0)] σ Q := (w_getR (c := 10) (n := 21) d175_49 (by decide +kernel) (by decide +kernel)).trans (g_and ⟨isO_dec (by decide +kernel), by decide +kernel⟩)
theorem d175_52 : adec m175 52 = some (.iload_n 2, 1) := by decide +kernel
theorem s175_52 {l0 : Nat} {l1 : Int} {l2 : Int} {l3 : Int} {l4 : AV} {x0 : Nat} {x1 : Nat} : WP m175 52 [.inr (.inl l0), .inl l1, .inl l2, .inl l3, l4] [.inr (.inl x1), .inr (.inl x0)] σ Q = WP m175 53 [.inr (.inl l0), .inl l1, .inl l2, .inl l3, l4] [.inl l2, .inr (.inl x1), .inr (.inl x0)] σ Q := w_ld d175_52 rfl
theorem d175_53 : adec m175 53 = some (.iaload, 1) := by decide +kernel
theorem s175_53 {l0 : Nat} {l1 : Int} {l2 : Int} {l3 : Int} {l4 : AV} {x0 : Nat} {x1 : Nat} {x2 : Int} : WP m175 53 [.inr (.inl l0), .inl l1, .inl l2, .inl l3, l4] [.inl x2, .inr (.inl x1), .inr (.inl x0)] σ Q = ((kdS x1 = 20 ∧ 0 ≤ x2 ∧ x2 < ln x1) ∧ WP m175 54 [.inr (.inl l0), .inl l1, .inl l2, .inl l3, l4] [.inl (σ x1 x2.toNat), .inr (.inl x0)] σ Q) := w_iald d175_53
theorem d175_54 : adec m175 54 = some (.invokevirtual 249, 3) := by decide +kernel
theorem s175_54 {l0 : Nat} {l1 : Int} {l2 : Int} {l3 : Int} {l4 : AV} {x1 : Int} : WP m175 54 [.inr (.inl l0), .inl l1, .inl l2, .inl l3, l4] [.inl x1, .inr (.inl 130)] σ Q = CA m170 [.inr (.inl 130), .inl x1] σ (fun v σ2 => WP m175 57 [.inr (.inl l0), .inl l1, .inl l2, .inl l3, l4] (v ++ []) σ2 Q) := (w_cV (k := 170) d175_54 (by decide +kernel) m170_at rfl rfl ⟨Nat.le_of_ble_eq_true rfl, Nat.le_of_ble_eq_true rfl, Nat.le_of_ble_eq_true rfl⟩ (by decide)).trans (g_and (isO_dec (by decide +kernel)))
theorem d175_57 : adec m175 57 = some (.istore_n 2, 1) := by decide +kernel
theorem s175_57 {l0 : Nat} {l1 : Int} {l2 : Int} {l3 : Int} {l4 : AV} {x0 : Int} : WP m175 57 [.inr (.inl l0), .inl l1, .inl l2, .inl l3, l4] [.inl x0] σ Q = WP m175 58 [.inr (.inl l0), .inl l1, .inl x0, .inl l3, l4] [] σ Q := w_st1 (j := 2) d175_57 rfl (Nat.le_of_ble_eq_true rfl) rfl
theorem d175_58 : adec m175 58 = some (.goto (-30), 3) := by decide +kernel
theorem s175_58 {l0 : Nat} {l1 : Int} {l2 : Int} {l3 : Int} {l4 : AV} : WP m175 58 [.inr (.inl l0), .inl l1, .inl l2, .inl l3, l4] [] σ Q = WP m175 28 [.inr (.inl l0), .inl l1, .inl l2, .inl l3, l4] [] σ Q := w_goto d175_58 (by decide)
theorem d175_61 : adec m175 61 = some (.aload_n 0, 1) := by decide +kernel
theorem s175_61 {l0 : Nat} {l1 : Int} {l2 : Int} {l3 : Int} {l4 : AV} : WP m175 61 [.inr (.inl l0), .inl l1, .inl l2, .inl l3, l4] [] σ Q = WP m175 62 [.inr (.inl l0), .inl l1, .inl l2, .inl l3, l4] [.inr (.inl l0)] σ Q := w_ld d175_61 rfl
theorem d175_62 : adec m175 62 = some (.getfield 42, 3) := by decide +kernel
theorem s175_62 {l0 : Nat} {l1 : Int} {l2 : Int} {l3 : Int} {l4 : AV} : WP m175 62 [.inr (.inl l0), .inl l1, .inl l2, .inl l3, l4] [.inr (.inl 130)] σ Q = WP m175 65 [.inr (.inl l0), .inl l1, .inl l2, .inl l3, l4] [.inr (.inl 140)] σ Q := (w_getR (c := 10) (n := 20) d175_62 (by decide +kernel) (by decide +kernel)).trans (g_and ⟨isO_dec (by decide +kernel), by decide +kernel⟩)
theorem d175_65 : adec m175 65 = some (.iload_n 2, 1) := by decide +kernel
theorem s175_65 {l0 : Nat} {l1 : Int} {l2 : Int} {l3 : Int} {l4 : AV} {x0 : Nat} : WP m175 65 [.inr (.inl l0), .inl l1, .inl l2, .inl l3, l4] [.inr (.inl x0)] σ Q = WP m175 66 [.inr (.inl l0), .inl l1, .inl l2, .inl l3, l4] [.inl l2, .inr (.inl x0)] σ Q := w_ld d175_65 rfl
theorem d175_66 : adec m175 66 = some (.iaload, 1) := by decide +kernel
theorem s175_66 {l0 : Nat} {l1 : Int} {l2 : Int} {l3 : Int} {l4 : AV} {x0 : Nat} {x1 : Int} : WP m175 66 [.inr (.inl l0), .inl l1, .inl l2, .inl l3, l4] [.inl x1, .inr (.inl x0)] σ Q = ((kdS x0 = 20 ∧ 0 ≤ x1 ∧ x1 < ln x0) ∧ WP m175 67 [.inr (.inl l0), .inl l1, .inl l2, .inl l3, l4] [.inl (σ x0 x1.toNat)] σ Q) := w_iald d175_66
theorem d175_67 : adec m175 67 = some (.invokestatic 223, 3) := by decide +kernel
theorem s175_67 {l0 : Nat} {l1 : Int} {l2 : Int} {l3 : Int} {l4 : AV} {x0 : Int} : WP m175 67 [.inr (.inl l0), .inl l1, .inl l2, .inl l3, l4] [.inl x0] σ Q = CA m165 [.inl x0] σ (fun v σ2 => WP m175 70 [.inr (.inl l0), .inl l1, .inl l2, .inl l3, l4] (v ++ []) σ2 Q) := w_cS (k := 165) d175_67 (by decide +kernel) (md := 1) (by decide +kernel) m165_at rfl rfl ⟨Nat.le_of_ble_eq_true rfl, Nat.le_of_ble_eq_true rfl, Nat.le_of_ble_eq_true rfl⟩ (by decide)
theorem d175_70 : adec m175 70 = some (.iload_n 3, 1) := by decide +kernel
theorem s175_70 {l0 : Nat} {l1 : Int} {l2 : Int} {l3 : Int} {l4 : AV} {x0 : Int} : WP m175 70 [.inr (.inl l0), .inl l1, .inl l2, .inl l3, l4] [.inl x0] σ Q = WP m175 71 [.inr (.inl l0), .inl l1, .inl l2, .inl l3, l4] [.inl l3, .inl x0] σ Q := w_ld d175_70 rfl
theorem d175_71 : adec m175 71 = some (.if_icmp .gt (5), 3) := by decide +kernel
theorem s175_71 {l0 : Nat} {l1 : Int} {l2 : Int} {l3 : Int} {l4 : AV} {x0 : Int} {x1 : Int} : WP m175 71 [.inr (.inl l0), .inl l1, .inl l2, .inl l3, l4] [.inl x1, .inl x0] σ Q = (if x1 < x0 then WP m175 76 [.inr (.inl l0), .inl l1, .inl l2, .inl l3, l4] [] σ Q else WP m175 74 [.inr (.inl l0), .inl l1, .inl l2, .inl l3, l4] [] σ Q) := w_icgt d175_71 (by decide)
theorem d175_74 : adec m175 74 = some (.iconst (1), 1) := by decide +kernel
theorem s175_74 {l0 : Nat} {l1 : Int} {l2 : Int} {l3 : Int} {l4 : AV} : WP m175 74 [.inr (.inl l0), .inl l1, .inl l2, .inl l3, l4] [] σ Q = WP m175 75 [.inr (.inl l0), .inl l1, .inl l2, .inl l3, l4] [.inl (1)] σ Q := w_iconst d175_74 (by decide)
theorem d175_75 : adec m175 75 = some (.ireturn, 1) := by decide +kernel
theorem s175_75 {l0 : Nat} {l1 : Int} {l2 : Int} {l3 : Int} {l4 : AV} {x0 : Int} : WP m175 75 [.inr (.inl l0), .inl l1, .inl l2, .inl l3, l4] [.inl x0] σ Q = ((x0 = 0 ∨ x0 = 1) ∧ Q [.inl x0] σ) := w_rz d175_75 rfl
theorem d175_76 : adec m175 76 = some (.iconst (0), 1) := by decide +kernel
theorem s175_76 {l0 : Nat} {l1 : Int} {l2 : Int} {l3 : Int} {l4 : AV} : WP m175 76 [.inr (.inl l0), .inl l1, .inl l2, .inl l3, l4] [] σ Q = WP m175 77 [.inr (.inl l0), .inl l1, .inl l2, .inl l3, l4] [.inl (0)] σ Q := w_iconst d175_76 (by decide)
theorem d175_77 : adec m175 77 = some (.istore 4, 2) := by decide +kernel
theorem s175_77 {l0 : Nat} {l1 : Int} {l2 : Int} {l3 : Int} {l4 : AV} {x0 : Int} : WP m175 77 [.inr (.inl l0), .inl l1, .inl l2, .inl l3, l4] [.inl x0] σ Q = WP m175 79 [.inr (.inl l0), .inl l1, .inl l2, .inl l3, .inl x0] [] σ Q := w_st1 (j := 4) d175_77 rfl (Nat.le_of_ble_eq_true rfl) rfl
theorem d175_79 : adec m175 79 = some (.iload 4, 2) := by decide +kernel
theorem s175_79 {l0 : Nat} {l1 : Int} {l2 : Int} {l3 : Int} {l4 : Int} : WP m175 79 [.inr (.inl l0), .inl l1, .inl l2, .inl l3, .inl l4] [] σ Q = WP m175 81 [.inr (.inl l0), .inl l1, .inl l2, .inl l3, .inl l4] [.inl l4] σ Q := w_ld d175_79 rfl
theorem d175_81 : adec m175 81 = some (.iload_n 3, 1) := by decide +kernel
theorem s175_81 {l0 : Nat} {l1 : Int} {l2 : Int} {l3 : Int} {l4 : Int} {x0 : Int} : WP m175 81 [.inr (.inl l0), .inl l1, .inl l2, .inl l3, .inl l4] [.inl x0] σ Q = WP m175 82 [.inr (.inl l0), .inl l1, .inl l2, .inl l3, .inl l4] [.inl l3, .inl x0] σ Q := w_ld d175_81 rfl
theorem d175_82 : adec m175 82 = some (.if_icmp .ge (25), 3) := by decide +kernel
theorem s175_82 {l0 : Nat} {l1 : Int} {l2 : Int} {l3 : Int} {l4 : Int} {x0 : Int} {x1 : Int} : WP m175 82 [.inr (.inl l0), .inl l1, .inl l2, .inl l3, .inl l4] [.inl x1, .inl x0] σ Q = (if x1 ≤ x0 then WP m175 107 [.inr (.inl l0), .inl l1, .inl l2, .inl l3, .inl l4] [] σ Q else WP m175 85 [.inr (.inl l0), .inl l1, .inl l2, .inl l3, .inl l4] [] σ Q) := w_icge d175_82 (by decide)
theorem d175_85 : adec m175 85 = some (.aload_n 0, 1) := by decide +kernel
theorem s175_85 {l0 : Nat} {l1 : Int} {l2 : Int} {l3 : Int} {l4 : Int} : WP m175 85 [.inr (.inl l0), .inl l1, .inl l2, .inl l3, .inl l4] [] σ Q = WP m175 86 [.inr (.inl l0), .inl l1, .inl l2, .inl l3, .inl l4] [.inr (.inl l0)] σ Q := w_ld d175_85 rfl
theorem d175_86 : adec m175 86 = some (.aload_n 0, 1) := by decide +kernel
theorem s175_86 {l0 : Nat} {l1 : Int} {l2 : Int} {l3 : Int} {l4 : Int} {x0 : Nat} : WP m175 86 [.inr (.inl l0), .inl l1, .inl l2, .inl l3, .inl l4] [.inr (.inl x0)] σ Q = WP m175 87 [.inr (.inl l0), .inl l1, .inl l2, .inl l3, .inl l4] [.inr (.inl l0), .inr (.inl x0)] σ Q := w_ld d175_86 rfl
theorem d175_87 : adec m175 87 = some (.getfield 48, 3) := by decide +kernel
theorem s175_87 {l0 : Nat} {l1 : Int} {l2 : Int} {l3 : Int} {l4 : Int} {x0 : Nat} : WP m175 87 [.inr (.inl l0), .inl l1, .inl l2, .inl l3, .inl l4] [.inr (.inl 130), .inr (.inl x0)] σ Q = WP m175 90 [.inr (.inl l0), .inl l1, .inl l2, .inl l3, .inl l4] [.inr (.inl 142), .inr (.inl x0)] σ Q := (w_getR (c := 10) (n := 22) d175_87 (by decide +kernel) (by decide +kernel)).trans (g_and ⟨isO_dec (by decide +kernel), by decide +kernel⟩)
theorem d175_90 : adec m175 90 = some (.aload_n 0, 1) := by decide +kernel
theorem s175_90 {l0 : Nat} {l1 : Int} {l2 : Int} {l3 : Int} {l4 : Int} {x0 : Nat} {x1 : Nat} : WP m175 90 [.inr (.inl l0), .inl l1, .inl l2, .inl l3, .inl l4] [.inr (.inl x1), .inr (.inl x0)] σ Q = WP m175 91 [.inr (.inl l0), .inl l1, .inl l2, .inl l3, .inl l4] [.inr (.inl l0), .inr (.inl x1), .inr (.inl x0)] σ Q := w_ld d175_90 rfl
theorem d175_91 : adec m175 91 = some (.getfield 51, 3) := by decide +kernel
theorem s175_91 {l0 : Nat} {l1 : Int} {l2 : Int} {l3 : Int} {l4 : Int} {x0 : Nat} {x1 : Nat} : WP m175 91 [.inr (.inl l0), .inl l1, .inl l2, .inl l3, .inl l4] [.inr (.inl 130), .inr (.inl x1), .inr (.inl x0)] σ Q = WP m175 94 [.inr (.inl l0), .inl l1, .inl l2, .inl l3, .inl l4] [.inr (.inl 143), .inr (.inl x1), .inr (.inl x0)] σ Q := (w_getR (c := 10) (n := 24) d175_91 (by decide +kernel) (by decide +kernel)).trans (g_and ⟨isO_dec (by decide +kernel), by decide +kernel⟩)
theorem d175_94 : adec m175 94 = some (.iload 4, 2) := by decide +kernel
theorem s175_94 {l0 : Nat} {l1 : Int} {l2 : Int} {l3 : Int} {l4 : Int} {x0 : Nat} {x1 : Nat} {x2 : Nat} : WP m175 94 [.inr (.inl l0), .inl l1, .inl l2, .inl l3, .inl l4] [.inr (.inl x2), .inr (.inl x1), .inr (.inl x0)] σ Q = WP m175 96 [.inr (.inl l0), .inl l1, .inl l2, .inl l3, .inl l4] [.inl l4, .inr (.inl x2), .inr (.inl x1), .inr (.inl x0)] σ Q := w_ld d175_94 rfl
theorem d175_96 : adec m175 96 = some (.iaload, 1) := by decide +kernel
theorem s175_96 {l0 : Nat} {l1 : Int} {l2 : Int} {l3 : Int} {l4 : Int} {x0 : Nat} {x1 : Nat} {x2 : Nat} {x3 : Int} : WP m175 96 [.inr (.inl l0), .inl l1, .inl l2, .inl l3, .inl l4] [.inl x3, .inr (.inl x2), .inr (.inl x1), .inr (.inl x0)] σ Q = ((kdS x2 = 20 ∧ 0 ≤ x3 ∧ x3 < ln x2) ∧ WP m175 97 [.inr (.inl l0), .inl l1, .inl l2, .inl l3, .inl l4] [.inl (σ x2 x3.toNat), .inr (.inl x1), .inr (.inl x0)] σ Q) := w_iald d175_96
theorem d175_97 : adec m175 97 = some (.iaload, 1) := by decide +kernel
theorem s175_97 {l0 : Nat} {l1 : Int} {l2 : Int} {l3 : Int} {l4 : Int} {x0 : Nat} {x1 : Nat} {x2 : Int} : WP m175 97 [.inr (.inl l0), .inl l1, .inl l2, .inl l3, .inl l4] [.inl x2, .inr (.inl x1), .inr (.inl x0)] σ Q = ((kdS x1 = 20 ∧ 0 ≤ x2 ∧ x2 < ln x1) ∧ WP m175 98 [.inr (.inl l0), .inl l1, .inl l2, .inl l3, .inl l4] [.inl (σ x1 x2.toNat), .inr (.inl x0)] σ Q) := w_iald d175_97
theorem d175_98 : adec m175 98 = some (.invokevirtual 172, 3) := by decide +kernel
theorem s175_98 {l0 : Nat} {l1 : Int} {l2 : Int} {l3 : Int} {l4 : Int} {x1 : Int} : WP m175 98 [.inr (.inl l0), .inl l1, .inl l2, .inl l3, .inl l4] [.inl x1, .inr (.inl 130)] σ Q = CA m132 [.inr (.inl 130), .inl x1] σ (fun v σ2 => WP m175 101 [.inr (.inl l0), .inl l1, .inl l2, .inl l3, .inl l4] (v ++ []) σ2 Q) := (w_cV (k := 132) d175_98 (by decide +kernel) m132_at rfl rfl ⟨Nat.le_of_ble_eq_true rfl, Nat.le_of_ble_eq_true rfl, Nat.le_of_ble_eq_true rfl⟩ (by decide)).trans (g_and (isO_dec (by decide +kernel)))
theorem d175_101 : adec m175 101 = some (.iinc 4 (1), 3) := by decide +kernel
theorem s175_101 {l0 : Nat} {l1 : Int} {l2 : Int} {l3 : Int} {l4 : Int} : WP m175 101 [.inr (.inl l0), .inl l1, .inl l2, .inl l3, .inl l4] [] σ Q = (inI (l4 + (1)) ∧ WP m175 104 [.inr (.inl l0), .inl l1, .inl l2, .inl l3, .inl (l4 + (1))] [] σ Q) := w_iinc d175_101 rfl rfl
theorem d175_104 : adec m175 104 = some (.goto (-25), 3) := by decide +kernel
theorem s175_104 {l0 : Nat} {l1 : Int} {l2 : Int} {l3 : Int} {l4 : Int} : WP m175 104 [.inr (.inl l0), .inl l1, .inl l2, .inl l3, .inl l4] [] σ Q = WP m175 79 [.inr (.inl l0), .inl l1, .inl l2, .inl l3, .inl l4] [] σ Q := w_goto d175_104 (by decide)
theorem d175_107 : adec m175 107 = some (.goto (-97), 3) := by decide +kernel
theorem s175_107 {l0 : Nat} {l1 : Int} {l2 : Int} {l3 : Int} {l4 : Int} : WP m175 107 [.inr (.inl l0), .inl l1, .inl l2, .inl l3, .inl l4] [] σ Q = WP m175 10 [.inr (.inl l0), .inl l1, .inl l2, .inl l3, .inl l4] [] σ Q := w_goto d175_107 (by decide)
theorem d175_110 : adec m175 110 = some (.iconst (0), 1) := by decide +kernel
theorem s175_110 {l0 : Nat} {l1 : Int} {l2 : AV} {l3 : AV} {l4 : AV} : WP m175 110 [.inr (.inl l0), .inl l1, l2, l3, l4] [] σ Q = WP m175 111 [.inr (.inl l0), .inl l1, l2, l3, l4] [.inl (0)] σ Q := w_iconst d175_110 (by decide)
theorem d175_111 : adec m175 111 = some (.ireturn, 1) := by decide +kernel
theorem s175_111 {l0 : Nat} {l1 : Int} {l2 : AV} {l3 : AV} {l4 : AV} {x0 : Int} : WP m175 111 [.inr (.inl l0), .inl l1, l2, l3, l4] [.inl x0] σ Q = ((x0 = 0 ∨ x0 = 1) ∧ Q [.inl x0] σ) := w_rz d175_111 rfl
theorem e175 {p0 : Nat} {p1 : Int} : CA m175 [.inr (.inl p0), .inl p1] σ Q = WP m175 0 [.inr (.inl p0), .inl p1, vU, vU, vU] [] σ Q := rfl
-- BinderPressModel.worksShared(I)I
theorem d176_0 : adec m176 0 = some (.aload_n 0, 1) := by decide +kernel
theorem s176_0 {l0 : Nat} {l1 : Int} {l2 : AV} {l3 : AV} : WP m176 0 [.inr (.inl l0), .inl l1, l2, l3] [] σ Q = WP m176 1 [.inr (.inl l0), .inl l1, l2, l3] [.inr (.inl l0)] σ Q := w_ld d176_0 rfl
theorem d176_1 : adec m176 1 = some (.invokevirtual 256, 3) := by decide +kernel
theorem s176_1 {l0 : Nat} {l1 : Int} {l2 : AV} {l3 : AV} : WP m176 1 [.inr (.inl l0), .inl l1, l2, l3] [.inr (.inl 130)] σ Q = CA m171 [.inr (.inl 130)] σ (fun v σ2 => WP m176 4 [.inr (.inl l0), .inl l1, l2, l3] (v ++ []) σ2 Q) := (w_cV (k := 171) d176_1 (by decide +kernel) m171_at rfl rfl ⟨Nat.le_of_ble_eq_true rfl, Nat.le_of_ble_eq_true rfl, Nat.le_of_ble_eq_true rfl⟩ (by decide)).trans (g_and (isO_dec (by decide +kernel)))
theorem d176_4 : adec m176 4 = some (.istore_n 2, 1) := by decide +kernel
theorem s176_4 {l0 : Nat} {l1 : Int} {l2 : AV} {l3 : AV} {x0 : Int} : WP m176 4 [.inr (.inl l0), .inl l1, l2, l3] [.inl x0] σ Q = WP m176 5 [.inr (.inl l0), .inl l1, .inl x0, l3] [] σ Q := w_st1 (j := 2) d176_4 rfl (Nat.le_of_ble_eq_true rfl) rfl
theorem d176_5 : adec m176 5 = some (.iconst (0), 1) := by decide +kernel
theorem s176_5 {l0 : Nat} {l1 : Int} {l2 : Int} {l3 : AV} : WP m176 5 [.inr (.inl l0), .inl l1, .inl l2, l3] [] σ Q = WP m176 6 [.inr (.inl l0), .inl l1, .inl l2, l3] [.inl (0)] σ Q := w_iconst d176_5 (by decide)
theorem d176_6 : adec m176 6 = some (.istore_n 3, 1) := by decide +kernel
theorem s176_6 {l0 : Nat} {l1 : Int} {l2 : Int} {l3 : AV} {x0 : Int} : WP m176 6 [.inr (.inl l0), .inl l1, .inl l2, l3] [.inl x0] σ Q = WP m176 7 [.inr (.inl l0), .inl l1, .inl l2, .inl x0] [] σ Q := w_st1 (j := 3) d176_6 rfl (Nat.le_of_ble_eq_true rfl) rfl
theorem d176_7 : adec m176 7 = some (.aload_n 0, 1) := by decide +kernel
theorem s176_7 {l0 : Nat} {l1 : Int} {l2 : Int} {l3 : Int} : WP m176 7 [.inr (.inl l0), .inl l1, .inl l2, .inl l3] [] σ Q = WP m176 8 [.inr (.inl l0), .inl l1, .inl l2, .inl l3] [.inr (.inl l0)] σ Q := w_ld d176_7 rfl
theorem d176_8 : adec m176 8 = some (.iconst (0), 1) := by decide +kernel
theorem s176_8 {l0 : Nat} {l1 : Int} {l2 : Int} {l3 : Int} {x0 : Nat} : WP m176 8 [.inr (.inl l0), .inl l1, .inl l2, .inl l3] [.inr (.inl x0)] σ Q = WP m176 9 [.inr (.inl l0), .inl l1, .inl l2, .inl l3] [.inl (0), .inr (.inl x0)] σ Q := w_iconst d176_8 (by decide)
theorem d176_9 : adec m176 9 = some (.putfield 229, 3) := by decide +kernel
theorem s176_9 {l0 : Nat} {l1 : Int} {l2 : Int} {l3 : Int} {x1 : Int} : WP m176 9 [.inr (.inl l0), .inl l1, .inl l2, .inl l3] [.inl x1, .inr (.inl 130)] σ Q = ((x1 = 0 ∨ x1 = 1) ∧ WP m176 12 [.inr (.inl l0), .inl l1, .inl l2, .inl l3] [] (aup σ 130 18 x1) Q) := (w_putZ (c := 10) (n := 18) d176_9 (by decide +kernel) (by decide +kernel) (by decide +kernel)).trans (g_and2 (isO_dec (by decide +kernel)))
theorem d176_12 : adec m176 12 = some (.aload_n 0, 1) := by decide +kernel
theorem s176_12 {l0 : Nat} {l1 : Int} {l2 : Int} {l3 : Int} : WP m176 12 [.inr (.inl l0), .inl l1, .inl l2, .inl l3] [] σ Q = WP m176 13 [.inr (.inl l0), .inl l1, .inl l2, .inl l3] [.inr (.inl l0)] σ Q := w_ld d176_12 rfl
theorem d176_13 : adec m176 13 = some (.aload_n 0, 1) := by decide +kernel
theorem s176_13 {l0 : Nat} {l1 : Int} {l2 : Int} {l3 : Int} {x0 : Nat} : WP m176 13 [.inr (.inl l0), .inl l1, .inl l2, .inl l3] [.inr (.inl x0)] σ Q = WP m176 14 [.inr (.inl l0), .inl l1, .inl l2, .inl l3] [.inr (.inl l0), .inr (.inl x0)] σ Q := w_ld d176_13 rfl
theorem d176_14 : adec m176 14 = some (.iload_n 2, 1) := by decide +kernel
theorem s176_14 {l0 : Nat} {l1 : Int} {l2 : Int} {l3 : Int} {x0 : Nat} {x1 : Nat} : WP m176 14 [.inr (.inl l0), .inl l1, .inl l2, .inl l3] [.inr (.inl x1), .inr (.inl x0)] σ Q = WP m176 15 [.inr (.inl l0), .inl l1, .inl l2, .inl l3] [.inl l2, .inr (.inl x1), .inr (.inl x0)] σ Q := w_ld d176_14 rfl
theorem d176_15 : adec m176 15 = some (.invokevirtual 259, 3) := by decide +kernel
theorem s176_15 {l0 : Nat} {l1 : Int} {l2 : Int} {l3 : Int} {x0 : Nat} {x2 : Int} : WP m176 15 [.inr (.inl l0), .inl l1, .inl l2, .inl l3] [.inl x2, .inr (.inl 130), .inr (.inl x0)] σ Q = CA m175 [.inr (.inl 130), .inl x2] σ (fun v σ2 => WP m176 18 [.inr (.inl l0), .inl l1, .inl l2, .inl l3] (v ++ [.inr (.inl x0)]) σ2 Q) := (w_cV (k := 175) d176_15 (by decide +kernel) m175_at rfl rfl ⟨Nat.le_of_ble_eq_true rfl, Nat.le_of_ble_eq_true rfl, Nat.le_of_ble_eq_true rfl⟩ (by decide)).trans (g_and (isO_dec (by decide +kernel)))
theorem d176_18 : adec m176 18 = some (.putfield 236, 3) := by decide +kernel
theorem s176_18 {l0 : Nat} {l1 : Int} {l2 : Int} {l3 : Int} {x1 : Int} : WP m176 18 [.inr (.inl l0), .inl l1, .inl l2, .inl l3] [.inl x1, .inr (.inl 130)] σ Q = ((x1 = 0 ∨ x1 = 1) ∧ WP m176 21 [.inr (.inl l0), .inl l1, .inl l2, .inl l3] [] (aup σ 130 19 x1) Q) := (w_putZ (c := 10) (n := 19) d176_18 (by decide +kernel) (by decide +kernel) (by decide +kernel)).trans (g_and2 (isO_dec (by decide +kernel)))
theorem d176_21 : adec m176 21 = some (.aload_n 0, 1) := by decide +kernel
theorem s176_21 {l0 : Nat} {l1 : Int} {l2 : Int} {l3 : Int} : WP m176 21 [.inr (.inl l0), .inl l1, .inl l2, .inl l3] [] σ Q = WP m176 22 [.inr (.inl l0), .inl l1, .inl l2, .inl l3] [.inr (.inl l0)] σ Q := w_ld d176_21 rfl
theorem d176_22 : adec m176 22 = some (.getfield 236, 3) := by decide +kernel
theorem s176_22 {l0 : Nat} {l1 : Int} {l2 : Int} {l3 : Int} : WP m176 22 [.inr (.inl l0), .inl l1, .inl l2, .inl l3] [.inr (.inl 130)] σ Q = WP m176 25 [.inr (.inl l0), .inl l1, .inl l2, .inl l3] [.inl (σ 130 19)] σ Q := (w_getI (c := 10) (n := 19) d176_22 (by decide +kernel) (by decide +kernel)).trans (g_and (isO_dec (by decide +kernel)))
theorem d176_25 : adec m176 25 = some (.ifCond .eq (56), 3) := by decide +kernel
theorem s176_25 {l0 : Nat} {l1 : Int} {l2 : Int} {l3 : Int} {x0 : Int} : WP m176 25 [.inr (.inl l0), .inl l1, .inl l2, .inl l3] [.inl x0] σ Q = (if x0 = 0 then WP m176 81 [.inr (.inl l0), .inl l1, .inl l2, .inl l3] [] σ Q else WP m176 28 [.inr (.inl l0), .inl l1, .inl l2, .inl l3] [] σ Q) := w_ifeq d176_25 (by decide)
theorem d176_28 : adec m176 28 = some (.iload_n 3, 1) := by decide +kernel
theorem s176_28 {l0 : Nat} {l1 : Int} {l2 : Int} {l3 : Int} : WP m176 28 [.inr (.inl l0), .inl l1, .inl l2, .inl l3] [] σ Q = WP m176 29 [.inr (.inl l0), .inl l1, .inl l2, .inl l3] [.inl l3] σ Q := w_ld d176_28 rfl
theorem d176_29 : adec m176 29 = some (.iload_n 1, 1) := by decide +kernel
theorem s176_29 {l0 : Nat} {l1 : Int} {l2 : Int} {l3 : Int} {x0 : Int} : WP m176 29 [.inr (.inl l0), .inl l1, .inl l2, .inl l3] [.inl x0] σ Q = WP m176 30 [.inr (.inl l0), .inl l1, .inl l2, .inl l3] [.inl l1, .inl x0] σ Q := w_ld d176_29 rfl
theorem d176_30 : adec m176 30 = some (.if_icmp .ge (51), 3) := by decide +kernel
theorem s176_30 {l0 : Nat} {l1 : Int} {l2 : Int} {l3 : Int} {x0 : Int} {x1 : Int} : WP m176 30 [.inr (.inl l0), .inl l1, .inl l2, .inl l3] [.inl x1, .inl x0] σ Q = (if x1 ≤ x0 then WP m176 81 [.inr (.inl l0), .inl l1, .inl l2, .inl l3] [] σ Q else WP m176 33 [.inr (.inl l0), .inl l1, .inl l2, .inl l3] [] σ Q) := w_icge d176_30 (by decide)
theorem d176_33 : adec m176 33 = some (.aload_n 0, 1) := by decide +kernel
theorem s176_33 {l0 : Nat} {l1 : Int} {l2 : Int} {l3 : Int} : WP m176 33 [.inr (.inl l0), .inl l1, .inl l2, .inl l3] [] σ Q = WP m176 34 [.inr (.inl l0), .inl l1, .inl l2, .inl l3] [.inr (.inl l0)] σ Q := w_ld d176_33 rfl
theorem d176_34 : adec m176 34 = some (.getfield 229, 3) := by decide +kernel
theorem s176_34 {l0 : Nat} {l1 : Int} {l2 : Int} {l3 : Int} : WP m176 34 [.inr (.inl l0), .inl l1, .inl l2, .inl l3] [.inr (.inl 130)] σ Q = WP m176 37 [.inr (.inl l0), .inl l1, .inl l2, .inl l3] [.inl (σ 130 18)] σ Q := (w_getI (c := 10) (n := 18) d176_34 (by decide +kernel) (by decide +kernel)).trans (g_and (isO_dec (by decide +kernel)))
theorem d176_37 : adec m176 37 = some (.ifCond .ne (44), 3) := by decide +kernel
theorem s176_37 {l0 : Nat} {l1 : Int} {l2 : Int} {l3 : Int} {x0 : Int} : WP m176 37 [.inr (.inl l0), .inl l1, .inl l2, .inl l3] [.inl x0] σ Q = (if x0 = 0 then WP m176 40 [.inr (.inl l0), .inl l1, .inl l2, .inl l3] [] σ Q else WP m176 81 [.inr (.inl l0), .inl l1, .inl l2, .inl l3] [] σ Q) := w_ifne d176_37 (by decide)
theorem d176_40 : adec m176 40 = some (.aload_n 0, 1) := by decide +kernel
theorem s176_40 {l0 : Nat} {l1 : Int} {l2 : Int} {l3 : Int} : WP m176 40 [.inr (.inl l0), .inl l1, .inl l2, .inl l3] [] σ Q = WP m176 41 [.inr (.inl l0), .inl l1, .inl l2, .inl l3] [.inr (.inl l0)] σ Q := w_ld d176_40 rfl
theorem d176_41 : adec m176 41 = some (.iload_n 2, 1) := by decide +kernel
theorem s176_41 {l0 : Nat} {l1 : Int} {l2 : Int} {l3 : Int} {x0 : Nat} : WP m176 41 [.inr (.inl l0), .inl l1, .inl l2, .inl l3] [.inr (.inl x0)] σ Q = WP m176 42 [.inr (.inl l0), .inl l1, .inl l2, .inl l3] [.inl l2, .inr (.inl x0)] σ Q := w_ld d176_41 rfl
theorem d176_42 : adec m176 42 = some (.invokevirtual 262, 3) := by decide +kernel
theorem s176_42 {l0 : Nat} {l1 : Int} {l2 : Int} {l3 : Int} {x1 : Int} : WP m176 42 [.inr (.inl l0), .inl l1, .inl l2, .inl l3] [.inl x1, .inr (.inl 130)] σ Q = CA m173 [.inr (.inl 130), .inl x1] σ (fun v σ2 => WP m176 45 [.inr (.inl l0), .inl l1, .inl l2, .inl l3] (v ++ []) σ2 Q) := (w_cV (k := 173) d176_42 (by decide +kernel) m173_at rfl rfl ⟨Nat.le_of_ble_eq_true rfl, Nat.le_of_ble_eq_true rfl, Nat.le_of_ble_eq_true rfl⟩ (by decide)).trans (g_and (isO_dec (by decide +kernel)))
theorem d176_45 : adec m176 45 = some (.pop, 1) := by decide +kernel
theorem s176_45 {l0 : Nat} {l1 : Int} {l2 : Int} {l3 : Int} {x0 : Int} : WP m176 45 [.inr (.inl l0), .inl l1, .inl l2, .inl l3] [.inl x0] σ Q = WP m176 46 [.inr (.inl l0), .inl l1, .inl l2, .inl l3] [] σ Q := w_ld d176_45 rfl
theorem d176_46 : adec m176 46 = some (.iinc 3 (1), 3) := by decide +kernel
theorem s176_46 {l0 : Nat} {l1 : Int} {l2 : Int} {l3 : Int} : WP m176 46 [.inr (.inl l0), .inl l1, .inl l2, .inl l3] [] σ Q = (inI (l3 + (1)) ∧ WP m176 49 [.inr (.inl l0), .inl l1, .inl l2, .inl (l3 + (1))] [] σ Q) := w_iinc d176_46 rfl rfl
theorem d176_49 : adec m176 49 = some (.aload_n 0, 1) := by decide +kernel
theorem s176_49 {l0 : Nat} {l1 : Int} {l2 : Int} {l3 : Int} : WP m176 49 [.inr (.inl l0), .inl l1, .inl l2, .inl l3] [] σ Q = WP m176 50 [.inr (.inl l0), .inl l1, .inl l2, .inl l3] [.inr (.inl l0)] σ Q := w_ld d176_49 rfl
theorem d176_50 : adec m176 50 = some (.iload_n 2, 1) := by decide +kernel
theorem s176_50 {l0 : Nat} {l1 : Int} {l2 : Int} {l3 : Int} {x0 : Nat} : WP m176 50 [.inr (.inl l0), .inl l1, .inl l2, .inl l3] [.inr (.inl x0)] σ Q = WP m176 51 [.inr (.inl l0), .inl l1, .inl l2, .inl l3] [.inl l2, .inr (.inl x0)] σ Q := w_ld d176_50 rfl
theorem d176_51 : adec m176 51 = some (.invokevirtual 265, 3) := by decide +kernel
theorem s176_51 {l0 : Nat} {l1 : Int} {l2 : Int} {l3 : Int} {x1 : Int} : WP m176 51 [.inr (.inl l0), .inl l1, .inl l2, .inl l3] [.inl x1, .inr (.inl 130)] σ Q = CA m172 [.inr (.inl 130), .inl x1] σ (fun v σ2 => WP m176 54 [.inr (.inl l0), .inl l1, .inl l2, .inl l3] (v ++ []) σ2 Q) := (w_cV (k := 172) d176_51 (by decide +kernel) m172_at rfl rfl ⟨Nat.le_of_ble_eq_true rfl, Nat.le_of_ble_eq_true rfl, Nat.le_of_ble_eq_true rfl⟩ (by decide)).trans (g_and (isO_dec (by decide +kernel)))
theorem d176_54 : adec m176 54 = some (.aload_n 0, 1) := by decide +kernel
theorem s176_54 {l0 : Nat} {l1 : Int} {l2 : Int} {l3 : Int} : WP m176 54 [.inr (.inl l0), .inl l1, .inl l2, .inl l3] [] σ Q = WP m176 55 [.inr (.inl l0), .inl l1, .inl l2, .inl l3] [.inr (.inl l0)] σ Q := w_ld d176_54 rfl
theorem d176_55 : adec m176 55 = some (.aload_n 0, 1) := by decide +kernel
theorem s176_55 {l0 : Nat} {l1 : Int} {l2 : Int} {l3 : Int} {x0 : Nat} : WP m176 55 [.inr (.inl l0), .inl l1, .inl l2, .inl l3] [.inr (.inl x0)] σ Q = WP m176 56 [.inr (.inl l0), .inl l1, .inl l2, .inl l3] [.inr (.inl l0), .inr (.inl x0)] σ Q := w_ld d176_55 rfl
theorem d176_56 : adec m176 56 = some (.getfield 229, 3) := by decide +kernel
theorem s176_56 {l0 : Nat} {l1 : Int} {l2 : Int} {l3 : Int} {x0 : Nat} : WP m176 56 [.inr (.inl l0), .inl l1, .inl l2, .inl l3] [.inr (.inl 130), .inr (.inl x0)] σ Q = WP m176 59 [.inr (.inl l0), .inl l1, .inl l2, .inl l3] [.inl (σ 130 18), .inr (.inl x0)] σ Q := (w_getI (c := 10) (n := 18) d176_56 (by decide +kernel) (by decide +kernel)).trans (g_and (isO_dec (by decide +kernel)))
theorem d176_59 : adec m176 59 = some (.ifCond .ne (15), 3) := by decide +kernel
theorem s176_59 {l0 : Nat} {l1 : Int} {l2 : Int} {l3 : Int} {x0 : Nat} {x1 : Int} : WP m176 59 [.inr (.inl l0), .inl l1, .inl l2, .inl l3] [.inl x1, .inr (.inl x0)] σ Q = (if x1 = 0 then WP m176 62 [.inr (.inl l0), .inl l1, .inl l2, .inl l3] [.inr (.inl x0)] σ Q else WP m176 74 [.inr (.inl l0), .inl l1, .inl l2, .inl l3] [.inr (.inl x0)] σ Q) := w_ifne d176_59 (by decide)
theorem d176_62 : adec m176 62 = some (.aload_n 0, 1) := by decide +kernel
theorem s176_62 {l0 : Nat} {l1 : Int} {l2 : Int} {l3 : Int} {x0 : Nat} : WP m176 62 [.inr (.inl l0), .inl l1, .inl l2, .inl l3] [.inr (.inl x0)] σ Q = WP m176 63 [.inr (.inl l0), .inl l1, .inl l2, .inl l3] [.inr (.inl l0), .inr (.inl x0)] σ Q := w_ld d176_62 rfl
theorem d176_63 : adec m176 63 = some (.iload_n 2, 1) := by decide +kernel
theorem s176_63 {l0 : Nat} {l1 : Int} {l2 : Int} {l3 : Int} {x0 : Nat} {x1 : Nat} : WP m176 63 [.inr (.inl l0), .inl l1, .inl l2, .inl l3] [.inr (.inl x1), .inr (.inl x0)] σ Q = WP m176 64 [.inr (.inl l0), .inl l1, .inl l2, .inl l3] [.inl l2, .inr (.inl x1), .inr (.inl x0)] σ Q := w_ld d176_63 rfl
theorem d176_64 : adec m176 64 = some (.invokevirtual 259, 3) := by decide +kernel
theorem s176_64 {l0 : Nat} {l1 : Int} {l2 : Int} {l3 : Int} {x0 : Nat} {x2 : Int} : WP m176 64 [.inr (.inl l0), .inl l1, .inl l2, .inl l3] [.inl x2, .inr (.inl 130), .inr (.inl x0)] σ Q = CA m175 [.inr (.inl 130), .inl x2] σ (fun v σ2 => WP m176 67 [.inr (.inl l0), .inl l1, .inl l2, .inl l3] (v ++ [.inr (.inl x0)]) σ2 Q) := (w_cV (k := 175) d176_64 (by decide +kernel) m175_at rfl rfl ⟨Nat.le_of_ble_eq_true rfl, Nat.le_of_ble_eq_true rfl, Nat.le_of_ble_eq_true rfl⟩ (by decide)).trans (g_and (isO_dec (by decide +kernel)))
theorem d176_67 : adec m176 67 = some (.ifCond .eq (7), 3) := by decide +kernel
theorem s176_67 {l0 : Nat} {l1 : Int} {l2 : Int} {l3 : Int} {x0 : Nat} {x1 : Int} : WP m176 67 [.inr (.inl l0), .inl l1, .inl l2, .inl l3] [.inl x1, .inr (.inl x0)] σ Q = (if x1 = 0 then WP m176 74 [.inr (.inl l0), .inl l1, .inl l2, .inl l3] [.inr (.inl x0)] σ Q else WP m176 70 [.inr (.inl l0), .inl l1, .inl l2, .inl l3] [.inr (.inl x0)] σ Q) := w_ifeq d176_67 (by decide)
theorem d176_70 : adec m176 70 = some (.iconst (1), 1) := by decide +kernel
theorem s176_70 {l0 : Nat} {l1 : Int} {l2 : Int} {l3 : Int} {x0 : Nat} : WP m176 70 [.inr (.inl l0), .inl l1, .inl l2, .inl l3] [.inr (.inl x0)] σ Q = WP m176 71 [.inr (.inl l0), .inl l1, .inl l2, .inl l3] [.inl (1), .inr (.inl x0)] σ Q := w_iconst d176_70 (by decide)
theorem d176_71 : adec m176 71 = some (.goto (4), 3) := by decide +kernel
theorem s176_71 {l0 : Nat} {l1 : Int} {l2 : Int} {l3 : Int} {x0 : Nat} {x1 : Int} : WP m176 71 [.inr (.inl l0), .inl l1, .inl l2, .inl l3] [.inl x1, .inr (.inl x0)] σ Q = WP m176 75 [.inr (.inl l0), .inl l1, .inl l2, .inl l3] [.inl x1, .inr (.inl x0)] σ Q := w_goto d176_71 (by decide)
theorem d176_74 : adec m176 74 = some (.iconst (0), 1) := by decide +kernel
theorem s176_74 {l0 : Nat} {l1 : Int} {l2 : Int} {l3 : Int} {x0 : Nat} : WP m176 74 [.inr (.inl l0), .inl l1, .inl l2, .inl l3] [.inr (.inl x0)] σ Q = WP m176 75 [.inr (.inl l0), .inl l1, .inl l2, .inl l3] [.inl (0), .inr (.inl x0)] σ Q := w_iconst d176_74 (by decide)
theorem d176_75 : adec m176 75 = some (.putfield 236, 3) := by decide +kernel
theorem s176_75 {l0 : Nat} {l1 : Int} {l2 : Int} {l3 : Int} {x1 : Int} : WP m176 75 [.inr (.inl l0), .inl l1, .inl l2, .inl l3] [.inl x1, .inr (.inl 130)] σ Q = ((x1 = 0 ∨ x1 = 1) ∧ WP m176 78 [.inr (.inl l0), .inl l1, .inl l2, .inl l3] [] (aup σ 130 19 x1) Q) := (w_putZ (c := 10) (n := 19) d176_75 (by decide +kernel) (by decide +kernel) (by decide +kernel)).trans (g_and2 (isO_dec (by decide +kernel)))
theorem d176_78 : adec m176 78 = some (.goto (-57), 3) := by decide +kernel
theorem s176_78 {l0 : Nat} {l1 : Int} {l2 : Int} {l3 : Int} : WP m176 78 [.inr (.inl l0), .inl l1, .inl l2, .inl l3] [] σ Q = WP m176 21 [.inr (.inl l0), .inl l1, .inl l2, .inl l3] [] σ Q := w_goto d176_78 (by decide)
theorem d176_81 : adec m176 81 = some (.iload_n 3, 1) := by decide +kernel
theorem s176_81 {l0 : Nat} {l1 : Int} {l2 : Int} {l3 : Int} : WP m176 81 [.inr (.inl l0), .inl l1, .inl l2, .inl l3] [] σ Q = WP m176 82 [.inr (.inl l0), .inl l1, .inl l2, .inl l3] [.inl l3] σ Q := w_ld d176_81 rfl
theorem d176_82 : adec m176 82 = some (.ireturn, 1) := by decide +kernel
theorem s176_82 {l0 : Nat} {l1 : Int} {l2 : Int} {l3 : Int} {x0 : Int} : WP m176 82 [.inr (.inl l0), .inl l1, .inl l2, .inl l3] [.inl x0] σ Q = Q [.inl x0] σ := w_ri d176_82 rfl
theorem e176 {p0 : Nat} {p1 : Int} : CA m176 [.inr (.inl p0), .inl p1] σ Q = WP m176 0 [.inr (.inl p0), .inl p1, vU, vU] [] σ Q := rfl
-- BinderPressModel.works(II)I
theorem d177_0 : adec m177 0 = some (.iload_n 1, 1) := by decide +kernel
theorem s177_0 {l0 : Nat} {l1 : Int} {l2 : Int} : WP m177 0 [.inr (.inl l0), .inl l1, .inl l2] [] σ Q = WP m177 1 [.inr (.inl l0), .inl l1, .inl l2] [.inl l1] σ Q := w_ld d177_0 rfl
theorem d177_1 : adec m177 1 = some (.ifCond .ne (11), 3) := by decide +kernel
theorem s177_1 {l0 : Nat} {l1 : Int} {l2 : Int} {x0 : Int} : WP m177 1 [.inr (.inl l0), .inl l1, .inl l2] [.inl x0] σ Q = (if x0 = 0 then WP m177 4 [.inr (.inl l0), .inl l1, .inl l2] [] σ Q else WP m177 12 [.inr (.inl l0), .inl l1, .inl l2] [] σ Q) := w_ifne d177_1 (by decide)
theorem d177_4 : adec m177 4 = some (.aload_n 0, 1) := by decide +kernel
theorem s177_4 {l0 : Nat} {l1 : Int} {l2 : Int} : WP m177 4 [.inr (.inl l0), .inl l1, .inl l2] [] σ Q = WP m177 5 [.inr (.inl l0), .inl l1, .inl l2] [.inr (.inl l0)] σ Q := w_ld d177_4 rfl
theorem d177_5 : adec m177 5 = some (.iload_n 2, 1) := by decide +kernel
theorem s177_5 {l0 : Nat} {l1 : Int} {l2 : Int} {x0 : Nat} : WP m177 5 [.inr (.inl l0), .inl l1, .inl l2] [.inr (.inl x0)] σ Q = WP m177 6 [.inr (.inl l0), .inl l1, .inl l2] [.inl l2, .inr (.inl x0)] σ Q := w_ld d177_5 rfl
theorem d177_6 : adec m177 6 = some (.invokevirtual 268, 3) := by decide +kernel
theorem s177_6 {l0 : Nat} {l1 : Int} {l2 : Int} {x1 : Int} : WP m177 6 [.inr (.inl l0), .inl l1, .inl l2] [.inl x1, .inr (.inl 130)] σ Q = CA m168 [.inr (.inl 130), .inl x1] σ (fun v σ2 => WP m177 9 [.inr (.inl l0), .inl l1, .inl l2] (v ++ []) σ2 Q) := (w_cV (k := 168) d177_6 (by decide +kernel) m168_at rfl rfl ⟨Nat.le_of_ble_eq_true rfl, Nat.le_of_ble_eq_true rfl, Nat.le_of_ble_eq_true rfl⟩ (by decide)).trans (g_and (isO_dec (by decide +kernel)))
theorem d177_9 : adec m177 9 = some (.goto (8), 3) := by decide +kernel
theorem s177_9 {l0 : Nat} {l1 : Int} {l2 : Int} {x0 : Int} : WP m177 9 [.inr (.inl l0), .inl l1, .inl l2] [.inl x0] σ Q = WP m177 17 [.inr (.inl l0), .inl l1, .inl l2] [.inl x0] σ Q := w_goto d177_9 (by decide)
theorem d177_12 : adec m177 12 = some (.aload_n 0, 1) := by decide +kernel
theorem s177_12 {l0 : Nat} {l1 : Int} {l2 : Int} : WP m177 12 [.inr (.inl l0), .inl l1, .inl l2] [] σ Q = WP m177 13 [.inr (.inl l0), .inl l1, .inl l2] [.inr (.inl l0)] σ Q := w_ld d177_12 rfl
theorem d177_13 : adec m177 13 = some (.iload_n 2, 1) := by decide +kernel
theorem s177_13 {l0 : Nat} {l1 : Int} {l2 : Int} {x0 : Nat} : WP m177 13 [.inr (.inl l0), .inl l1, .inl l2] [.inr (.inl x0)] σ Q = WP m177 14 [.inr (.inl l0), .inl l1, .inl l2] [.inl l2, .inr (.inl x0)] σ Q := w_ld d177_13 rfl
theorem d177_14 : adec m177 14 = some (.invokevirtual 271, 3) := by decide +kernel
theorem s177_14 {l0 : Nat} {l1 : Int} {l2 : Int} {x1 : Int} : WP m177 14 [.inr (.inl l0), .inl l1, .inl l2] [.inl x1, .inr (.inl 130)] σ Q = CA m176 [.inr (.inl 130), .inl x1] σ (fun v σ2 => WP m177 17 [.inr (.inl l0), .inl l1, .inl l2] (v ++ []) σ2 Q) := (w_cV (k := 176) d177_14 (by decide +kernel) m176_at rfl rfl ⟨Nat.le_of_ble_eq_true rfl, Nat.le_of_ble_eq_true rfl, Nat.le_of_ble_eq_true rfl⟩ (by decide)).trans (g_and (isO_dec (by decide +kernel)))
theorem d177_17 : adec m177 17 = some (.ireturn, 1) := by decide +kernel
theorem s177_17 {l0 : Nat} {l1 : Int} {l2 : Int} {x0 : Int} : WP m177 17 [.inr (.inl l0), .inl l1, .inl l2] [.inl x0] σ Q = Q [.inl x0] σ := w_ri d177_17 rfl
theorem e177 {p0 : Nat} {p1 : Int} {p2 : Int} : CA m177 [.inr (.inl p0), .inl p1, .inl p2] σ Q = WP m177 0 [.inr (.inl p0), .inl p1, .inl p2] [] σ Q := rfl
-- BinderPressModel.work(III)I
theorem d178_0 : adec m178 0 = some (.iload_n 1, 1) := by decide +kernel
theorem s178_0 {l0 : Nat} {l1 : Int} {l2 : Int} {l3 : Int} {l4 : AV} : WP m178 0 [.inr (.inl l0), .inl l1, .inl l2, .inl l3, l4] [] σ Q = WP m178 1 [.inr (.inl l0), .inl l1, .inl l2, .inl l3, l4] [.inl l1] σ Q := w_ld d178_0 rfl
theorem d178_1 : adec m178 1 = some (.invokestatic 152, 3) := by decide +kernel
theorem s178_1 {l0 : Nat} {l1 : Int} {l2 : Int} {l3 : Int} {l4 : AV} {x0 : Int} : WP m178 1 [.inr (.inl l0), .inl l1, .inl l2, .inl l3, l4] [.inl x0] σ Q = CA m130 [.inl x0] σ (fun v σ2 => WP m178 4 [.inr (.inl l0), .inl l1, .inl l2, .inl l3, l4] (v ++ []) σ2 Q) := w_cS (k := 130) d178_1 (by decide +kernel) (md := 1) (by decide +kernel) m130_at rfl rfl ⟨Nat.le_of_ble_eq_true rfl, Nat.le_of_ble_eq_true rfl, Nat.le_of_ble_eq_true rfl⟩ (by decide)
theorem d178_4 : adec m178 4 = some (.ifCond .ne (6), 3) := by decide +kernel
theorem s178_4 {l0 : Nat} {l1 : Int} {l2 : Int} {l3 : Int} {l4 : AV} {x0 : Int} : WP m178 4 [.inr (.inl l0), .inl l1, .inl l2, .inl l3, l4] [.inl x0] σ Q = (if x0 = 0 then WP m178 7 [.inr (.inl l0), .inl l1, .inl l2, .inl l3, l4] [] σ Q else WP m178 10 [.inr (.inl l0), .inl l1, .inl l2, .inl l3, l4] [] σ Q) := w_ifne d178_4 (by decide)
theorem d178_7 : adec m178 7 = some (.ldc 155, 2) := by decide +kernel
theorem s178_7 {l0 : Nat} {l1 : Int} {l2 : Int} {l3 : Int} {l4 : AV} : WP m178 7 [.inr (.inl l0), .inl l1, .inl l2, .inl l3, l4] [] σ Q = WP m178 9 [.inr (.inl l0), .inl l1, .inl l2, .inl l3, l4] [.inl (-1000000001)] σ Q := w_ldc d178_7 (by decide +kernel) (by decide)
theorem d178_9 : adec m178 9 = some (.ireturn, 1) := by decide +kernel
theorem s178_9 {l0 : Nat} {l1 : Int} {l2 : Int} {l3 : Int} {l4 : AV} {x0 : Int} : WP m178 9 [.inr (.inl l0), .inl l1, .inl l2, .inl l3, l4] [.inl x0] σ Q = Q [.inl x0] σ := w_ri d178_9 rfl
theorem d178_10 : adec m178 10 = some (.iload_n 2, 1) := by decide +kernel
theorem s178_10 {l0 : Nat} {l1 : Int} {l2 : Int} {l3 : Int} {l4 : AV} : WP m178 10 [.inr (.inl l0), .inl l1, .inl l2, .inl l3, l4] [] σ Q = WP m178 11 [.inr (.inl l0), .inl l1, .inl l2, .inl l3, l4] [.inl l2] σ Q := w_ld d178_10 rfl
theorem d178_11 : adec m178 11 = some (.i2l, 1) := by decide +kernel
theorem s178_11 {l0 : Nat} {l1 : Int} {l2 : Int} {l3 : Int} {l4 : AV} {x0 : Int} : WP m178 11 [.inr (.inl l0), .inl l1, .inl l2, .inl l3, l4] [.inl x0] σ Q = WP m178 12 [.inr (.inl l0), .inl l1, .inl l2, .inl l3, l4] [.inr (.inr (.inl x0))] σ Q := w_ld d178_11 rfl
theorem d178_12 : adec m178 12 = some (.lconst 0, 1) := by decide +kernel
theorem s178_12 {l0 : Nat} {l1 : Int} {l2 : Int} {l3 : Int} {l4 : AV} {x0 : Int} : WP m178 12 [.inr (.inl l0), .inl l1, .inl l2, .inl l3, l4] [.inr (.inr (.inl x0))] σ Q = WP m178 13 [.inr (.inl l0), .inl l1, .inl l2, .inl l3, l4] [.inr (.inr (.inl (0))), .inr (.inr (.inl x0))] σ Q := w_lconst d178_12
theorem d178_13 : adec m178 13 = some (.lconst 1, 1) := by decide +kernel
theorem s178_13 {l0 : Nat} {l1 : Int} {l2 : Int} {l3 : Int} {l4 : AV} {x0 : Int} {x1 : Int} : WP m178 13 [.inr (.inl l0), .inl l1, .inl l2, .inl l3, l4] [.inr (.inr (.inl x1)), .inr (.inr (.inl x0))] σ Q = WP m178 14 [.inr (.inl l0), .inl l1, .inl l2, .inl l3, l4] [.inr (.inr (.inl (1))), .inr (.inr (.inl x1)), .inr (.inr (.inl x0))] σ Q := w_lconst d178_13
theorem d178_14 : adec m178 14 = some (.invokestatic 88, 3) := by decide +kernel
theorem s178_14 {l0 : Nat} {l1 : Int} {l2 : Int} {l3 : Int} {l4 : AV} {x0 : Int} {x1 : Int} {x2 : Int} : WP m178 14 [.inr (.inl l0), .inl l1, .inl l2, .inl l3, l4] [.inr (.inr (.inl x2)), .inr (.inr (.inl x1)), .inr (.inr (.inl x0))] σ Q = CA m127 [.inr (.inr (.inl x0)), .inr (.inr (.inl x1)), .inr (.inr (.inl x2))] σ (fun v σ2 => WP m178 17 [.inr (.inl l0), .inl l1, .inl l2, .inl l3, l4] (v ++ []) σ2 Q) := w_cS (k := 127) d178_14 (by decide +kernel) (md := 1) (by decide +kernel) m127_at rfl rfl ⟨Nat.le_of_ble_eq_true rfl, Nat.le_of_ble_eq_true rfl, Nat.le_of_ble_eq_true rfl⟩ (by decide)
theorem d178_17 : adec m178 17 = some (.ifCond .eq (15), 3) := by decide +kernel
theorem s178_17 {l0 : Nat} {l1 : Int} {l2 : Int} {l3 : Int} {l4 : AV} {x0 : Int} : WP m178 17 [.inr (.inl l0), .inl l1, .inl l2, .inl l3, l4] [.inl x0] σ Q = (if x0 = 0 then WP m178 32 [.inr (.inl l0), .inl l1, .inl l2, .inl l3, l4] [] σ Q else WP m178 20 [.inr (.inl l0), .inl l1, .inl l2, .inl l3, l4] [] σ Q) := w_ifeq d178_17 (by decide)
theorem d178_20 : adec m178 20 = some (.iload_n 3, 1) := by decide +kernel
theorem s178_20 {l0 : Nat} {l1 : Int} {l2 : Int} {l3 : Int} {l4 : AV} : WP m178 20 [.inr (.inl l0), .inl l1, .inl l2, .inl l3, l4] [] σ Q = WP m178 21 [.inr (.inl l0), .inl l1, .inl l2, .inl l3, l4] [.inl l3] σ Q := w_ld d178_20 rfl
theorem d178_21 : adec m178 21 = some (.i2l, 1) := by decide +kernel
theorem s178_21 {l0 : Nat} {l1 : Int} {l2 : Int} {l3 : Int} {l4 : AV} {x0 : Int} : WP m178 21 [.inr (.inl l0), .inl l1, .inl l2, .inl l3, l4] [.inl x0] σ Q = WP m178 22 [.inr (.inl l0), .inl l1, .inl l2, .inl l3, l4] [.inr (.inr (.inl x0))] σ Q := w_ld d178_21 rfl
theorem d178_22 : adec m178 22 = some (.lconst 0, 1) := by decide +kernel
theorem s178_22 {l0 : Nat} {l1 : Int} {l2 : Int} {l3 : Int} {l4 : AV} {x0 : Int} : WP m178 22 [.inr (.inl l0), .inl l1, .inl l2, .inl l3, l4] [.inr (.inr (.inl x0))] σ Q = WP m178 23 [.inr (.inl l0), .inl l1, .inl l2, .inl l3, l4] [.inr (.inr (.inl (0))), .inr (.inr (.inl x0))] σ Q := w_lconst d178_22
theorem d178_23 : adec m178 23 = some (.ldc2_w 274, 3) := by decide +kernel
theorem s178_23 {l0 : Nat} {l1 : Int} {l2 : Int} {l3 : Int} {l4 : AV} {x0 : Int} {x1 : Int} : WP m178 23 [.inr (.inl l0), .inl l1, .inl l2, .inl l3, l4] [.inr (.inr (.inl x1)), .inr (.inr (.inl x0))] σ Q = WP m178 26 [.inr (.inl l0), .inl l1, .inl l2, .inl l3, l4] [.inr (.inr (.inl (200))), .inr (.inr (.inl x1)), .inr (.inr (.inl x0))] σ Q := w_ldc2 d178_23 (by decide +kernel) (by decide)
theorem d178_26 : adec m178 26 = some (.invokestatic 88, 3) := by decide +kernel
theorem s178_26 {l0 : Nat} {l1 : Int} {l2 : Int} {l3 : Int} {l4 : AV} {x0 : Int} {x1 : Int} {x2 : Int} : WP m178 26 [.inr (.inl l0), .inl l1, .inl l2, .inl l3, l4] [.inr (.inr (.inl x2)), .inr (.inr (.inl x1)), .inr (.inr (.inl x0))] σ Q = CA m127 [.inr (.inr (.inl x0)), .inr (.inr (.inl x1)), .inr (.inr (.inl x2))] σ (fun v σ2 => WP m178 29 [.inr (.inl l0), .inl l1, .inl l2, .inl l3, l4] (v ++ []) σ2 Q) := w_cS (k := 127) d178_26 (by decide +kernel) (md := 1) (by decide +kernel) m127_at rfl rfl ⟨Nat.le_of_ble_eq_true rfl, Nat.le_of_ble_eq_true rfl, Nat.le_of_ble_eq_true rfl⟩ (by decide)
theorem d178_29 : adec m178 29 = some (.ifCond .ne (6), 3) := by decide +kernel
theorem s178_29 {l0 : Nat} {l1 : Int} {l2 : Int} {l3 : Int} {l4 : AV} {x0 : Int} : WP m178 29 [.inr (.inl l0), .inl l1, .inl l2, .inl l3, l4] [.inl x0] σ Q = (if x0 = 0 then WP m178 32 [.inr (.inl l0), .inl l1, .inl l2, .inl l3, l4] [] σ Q else WP m178 35 [.inr (.inl l0), .inl l1, .inl l2, .inl l3, l4] [] σ Q) := w_ifne d178_29 (by decide)
theorem d178_32 : adec m178 32 = some (.ldc 120, 2) := by decide +kernel
theorem s178_32 {l0 : Nat} {l1 : Int} {l2 : Int} {l3 : Int} {l4 : AV} : WP m178 32 [.inr (.inl l0), .inl l1, .inl l2, .inl l3, l4] [] σ Q = WP m178 34 [.inr (.inl l0), .inl l1, .inl l2, .inl l3, l4] [.inl (-1000000002)] σ Q := w_ldc d178_32 (by decide +kernel) (by decide)
theorem d178_34 : adec m178 34 = some (.ireturn, 1) := by decide +kernel
theorem s178_34 {l0 : Nat} {l1 : Int} {l2 : Int} {l3 : Int} {l4 : AV} {x0 : Int} : WP m178 34 [.inr (.inl l0), .inl l1, .inl l2, .inl l3, l4] [.inl x0] σ Q = Q [.inl x0] σ := w_ri d178_34 rfl
theorem d178_35 : adec m178 35 = some (.aload_n 0, 1) := by decide +kernel
theorem s178_35 {l0 : Nat} {l1 : Int} {l2 : Int} {l3 : Int} {l4 : AV} : WP m178 35 [.inr (.inl l0), .inl l1, .inl l2, .inl l3, l4] [] σ Q = WP m178 36 [.inr (.inl l0), .inl l1, .inl l2, .inl l3, l4] [.inr (.inl l0)] σ Q := w_ld d178_35 rfl
theorem d178_36 : adec m178 36 = some (.iload_n 1, 1) := by decide +kernel
theorem s178_36 {l0 : Nat} {l1 : Int} {l2 : Int} {l3 : Int} {l4 : AV} {x0 : Nat} : WP m178 36 [.inr (.inl l0), .inl l1, .inl l2, .inl l3, l4] [.inr (.inl x0)] σ Q = WP m178 37 [.inr (.inl l0), .inl l1, .inl l2, .inl l3, l4] [.inl l1, .inr (.inl x0)] σ Q := w_ld d178_36 rfl
theorem d178_37 : adec m178 37 = some (.invokevirtual 208, 3) := by decide +kernel
theorem s178_37 {l0 : Nat} {l1 : Int} {l2 : Int} {l3 : Int} {l4 : AV} {x1 : Int} : WP m178 37 [.inr (.inl l0), .inl l1, .inl l2, .inl l3, l4] [.inl x1, .inr (.inl 130)] σ Q = CA m160 [.inr (.inl 130), .inl x1] σ (fun v σ2 => WP m178 40 [.inr (.inl l0), .inl l1, .inl l2, .inl l3, l4] (v ++ []) σ2 Q) := (w_cV (k := 160) d178_37 (by decide +kernel) m160_at rfl rfl ⟨Nat.le_of_ble_eq_true rfl, Nat.le_of_ble_eq_true rfl, Nat.le_of_ble_eq_true rfl⟩ (by decide)).trans (g_and (isO_dec (by decide +kernel)))
theorem d178_40 : adec m178 40 = some (.ifCond .ne (6), 3) := by decide +kernel
theorem s178_40 {l0 : Nat} {l1 : Int} {l2 : Int} {l3 : Int} {l4 : AV} {x0 : Int} : WP m178 40 [.inr (.inl l0), .inl l1, .inl l2, .inl l3, l4] [.inl x0] σ Q = (if x0 = 0 then WP m178 43 [.inr (.inl l0), .inl l1, .inl l2, .inl l3, l4] [] σ Q else WP m178 46 [.inr (.inl l0), .inl l1, .inl l2, .inl l3, l4] [] σ Q) := w_ifne d178_40 (by decide)
theorem d178_43 : adec m178 43 = some (.ldc 195, 2) := by decide +kernel
theorem s178_43 {l0 : Nat} {l1 : Int} {l2 : Int} {l3 : Int} {l4 : AV} : WP m178 43 [.inr (.inl l0), .inl l1, .inl l2, .inl l3, l4] [] σ Q = WP m178 45 [.inr (.inl l0), .inl l1, .inl l2, .inl l3, l4] [.inl (-1000000003)] σ Q := w_ldc d178_43 (by decide +kernel) (by decide)
theorem d178_45 : adec m178 45 = some (.ireturn, 1) := by decide +kernel
theorem s178_45 {l0 : Nat} {l1 : Int} {l2 : Int} {l3 : Int} {l4 : AV} {x0 : Int} : WP m178 45 [.inr (.inl l0), .inl l1, .inl l2, .inl l3, l4] [.inl x0] σ Q = Q [.inl x0] σ := w_ri d178_45 rfl
theorem d178_46 : adec m178 46 = some (.aload_n 0, 1) := by decide +kernel
theorem s178_46 {l0 : Nat} {l1 : Int} {l2 : Int} {l3 : Int} {l4 : AV} : WP m178 46 [.inr (.inl l0), .inl l1, .inl l2, .inl l3, l4] [] σ Q = WP m178 47 [.inr (.inl l0), .inl l1, .inl l2, .inl l3, l4] [.inr (.inl l0)] σ Q := w_ld d178_46 rfl
theorem d178_47 : adec m178 47 = some (.iload_n 1, 1) := by decide +kernel
theorem s178_47 {l0 : Nat} {l1 : Int} {l2 : Int} {l3 : Int} {l4 : AV} {x0 : Nat} : WP m178 47 [.inr (.inl l0), .inl l1, .inl l2, .inl l3, l4] [.inr (.inl x0)] σ Q = WP m178 48 [.inr (.inl l0), .inl l1, .inl l2, .inl l3, l4] [.inl l1, .inr (.inl x0)] σ Q := w_ld d178_47 rfl
theorem d178_48 : adec m178 48 = some (.invokevirtual 196, 3) := by decide +kernel
theorem s178_48 {l0 : Nat} {l1 : Int} {l2 : Int} {l3 : Int} {l4 : AV} {x1 : Int} : WP m178 48 [.inr (.inl l0), .inl l1, .inl l2, .inl l3, l4] [.inl x1, .inr (.inl 130)] σ Q = CA m136 [.inr (.inl 130), .inl x1] σ (fun v σ2 => WP m178 51 [.inr (.inl l0), .inl l1, .inl l2, .inl l3, l4] (v ++ []) σ2 Q) := (w_cV (k := 136) d178_48 (by decide +kernel) m136_at rfl rfl ⟨Nat.le_of_ble_eq_true rfl, Nat.le_of_ble_eq_true rfl, Nat.le_of_ble_eq_true rfl⟩ (by decide)).trans (g_and (isO_dec (by decide +kernel)))
theorem d178_51 : adec m178 51 = some (.aload_n 0, 1) := by decide +kernel
theorem s178_51 {l0 : Nat} {l1 : Int} {l2 : Int} {l3 : Int} {l4 : AV} : WP m178 51 [.inr (.inl l0), .inl l1, .inl l2, .inl l3, l4] [] σ Q = WP m178 52 [.inr (.inl l0), .inl l1, .inl l2, .inl l3, l4] [.inr (.inl l0)] σ Q := w_ld d178_51 rfl
theorem d178_52 : adec m178 52 = some (.iload_n 2, 1) := by decide +kernel
theorem s178_52 {l0 : Nat} {l1 : Int} {l2 : Int} {l3 : Int} {l4 : AV} {x0 : Nat} : WP m178 52 [.inr (.inl l0), .inl l1, .inl l2, .inl l3, l4] [.inr (.inl x0)] σ Q = WP m178 53 [.inr (.inl l0), .inl l1, .inl l2, .inl l3, l4] [.inl l2, .inr (.inl x0)] σ Q := w_ld d178_52 rfl
theorem d178_53 : adec m178 53 = some (.iload_n 3, 1) := by decide +kernel
theorem s178_53 {l0 : Nat} {l1 : Int} {l2 : Int} {l3 : Int} {l4 : AV} {x0 : Nat} {x1 : Int} : WP m178 53 [.inr (.inl l0), .inl l1, .inl l2, .inl l3, l4] [.inl x1, .inr (.inl x0)] σ Q = WP m178 54 [.inr (.inl l0), .inl l1, .inl l2, .inl l3, l4] [.inl l3, .inl x1, .inr (.inl x0)] σ Q := w_ld d178_53 rfl
theorem d178_54 : adec m178 54 = some (.invokevirtual 276, 3) := by decide +kernel
theorem s178_54 {l0 : Nat} {l1 : Int} {l2 : Int} {l3 : Int} {l4 : AV} {x1 : Int} {x2 : Int} : WP m178 54 [.inr (.inl l0), .inl l1, .inl l2, .inl l3, l4] [.inl x2, .inl x1, .inr (.inl 130)] σ Q = CA m177 [.inr (.inl 130), .inl x1, .inl x2] σ (fun v σ2 => WP m178 57 [.inr (.inl l0), .inl l1, .inl l2, .inl l3, l4] (v ++ []) σ2 Q) := (w_cV (k := 177) d178_54 (by decide +kernel) m177_at rfl rfl ⟨Nat.le_of_ble_eq_true rfl, Nat.le_of_ble_eq_true rfl, Nat.le_of_ble_eq_true rfl⟩ (by decide)).trans (g_and (isO_dec (by decide +kernel)))
theorem d178_57 : adec m178 57 = some (.istore 4, 2) := by decide +kernel
theorem s178_57 {l0 : Nat} {l1 : Int} {l2 : Int} {l3 : Int} {l4 : AV} {x0 : Int} : WP m178 57 [.inr (.inl l0), .inl l1, .inl l2, .inl l3, l4] [.inl x0] σ Q = WP m178 59 [.inr (.inl l0), .inl l1, .inl l2, .inl l3, .inl x0] [] σ Q := w_st1 (j := 4) d178_57 rfl (Nat.le_of_ble_eq_true rfl) rfl
theorem d178_59 : adec m178 59 = some (.aload_n 0, 1) := by decide +kernel
theorem s178_59 {l0 : Nat} {l1 : Int} {l2 : Int} {l3 : Int} {l4 : Int} : WP m178 59 [.inr (.inl l0), .inl l1, .inl l2, .inl l3, .inl l4] [] σ Q = WP m178 60 [.inr (.inl l0), .inl l1, .inl l2, .inl l3, .inl l4] [.inr (.inl l0)] σ Q := w_ld d178_59 rfl
theorem d178_60 : adec m178 60 = some (.getfield 229, 3) := by decide +kernel
theorem s178_60 {l0 : Nat} {l1 : Int} {l2 : Int} {l3 : Int} {l4 : Int} : WP m178 60 [.inr (.inl l0), .inl l1, .inl l2, .inl l3, .inl l4] [.inr (.inl 130)] σ Q = WP m178 63 [.inr (.inl l0), .inl l1, .inl l2, .inl l3, .inl l4] [.inl (σ 130 18)] σ Q := (w_getI (c := 10) (n := 18) d178_60 (by decide +kernel) (by decide +kernel)).trans (g_and (isO_dec (by decide +kernel)))
theorem d178_63 : adec m178 63 = some (.ifCond .ne (13), 3) := by decide +kernel
theorem s178_63 {l0 : Nat} {l1 : Int} {l2 : Int} {l3 : Int} {l4 : Int} {x0 : Int} : WP m178 63 [.inr (.inl l0), .inl l1, .inl l2, .inl l3, .inl l4] [.inl x0] σ Q = (if x0 = 0 then WP m178 66 [.inr (.inl l0), .inl l1, .inl l2, .inl l3, .inl l4] [] σ Q else WP m178 76 [.inr (.inl l0), .inl l1, .inl l2, .inl l3, .inl l4] [] σ Q) := w_ifne d178_63 (by decide)
theorem d178_66 : adec m178 66 = some (.aload_n 0, 1) := by decide +kernel
theorem s178_66 {l0 : Nat} {l1 : Int} {l2 : Int} {l3 : Int} {l4 : Int} : WP m178 66 [.inr (.inl l0), .inl l1, .inl l2, .inl l3, .inl l4] [] σ Q = WP m178 67 [.inr (.inl l0), .inl l1, .inl l2, .inl l3, .inl l4] [.inr (.inl l0)] σ Q := w_ld d178_66 rfl
theorem d178_67 : adec m178 67 = some (.iload_n 1, 1) := by decide +kernel
theorem s178_67 {l0 : Nat} {l1 : Int} {l2 : Int} {l3 : Int} {l4 : Int} {x0 : Nat} : WP m178 67 [.inr (.inl l0), .inl l1, .inl l2, .inl l3, .inl l4] [.inr (.inl x0)] σ Q = WP m178 68 [.inr (.inl l0), .inl l1, .inl l2, .inl l3, .inl l4] [.inl l1, .inr (.inl x0)] σ Q := w_ld d178_67 rfl
theorem d178_68 : adec m178 68 = some (.invokevirtual 159, 3) := by decide +kernel
theorem s178_68 {l0 : Nat} {l1 : Int} {l2 : Int} {l3 : Int} {l4 : Int} {x1 : Int} : WP m178 68 [.inr (.inl l0), .inl l1, .inl l2, .inl l3, .inl l4] [.inl x1, .inr (.inl 130)] σ Q = CA m138 [.inr (.inl 130), .inl x1] σ (fun v σ2 => WP m178 71 [.inr (.inl l0), .inl l1, .inl l2, .inl l3, .inl l4] (v ++ []) σ2 Q) := (w_cV (k := 138) d178_68 (by decide +kernel) m138_at rfl rfl ⟨Nat.le_of_ble_eq_true rfl, Nat.le_of_ble_eq_true rfl, Nat.le_of_ble_eq_true rfl⟩ (by decide)).trans (g_and (isO_dec (by decide +kernel)))
theorem d178_71 : adec m178 71 = some (.ldc 114, 2) := by decide +kernel
theorem s178_71 {l0 : Nat} {l1 : Int} {l2 : Int} {l3 : Int} {l4 : Int} {x0 : Int} : WP m178 71 [.inr (.inl l0), .inl l1, .inl l2, .inl l3, .inl l4] [.inl x0] σ Q = WP m178 73 [.inr (.inl l0), .inl l1, .inl l2, .inl l3, .inl l4] [.inl (-1000000004), .inl x0] σ Q := w_ldc d178_71 (by decide +kernel) (by decide)
theorem d178_73 : adec m178 73 = some (.if_icmp .ne (8), 3) := by decide +kernel
theorem s178_73 {l0 : Nat} {l1 : Int} {l2 : Int} {l3 : Int} {l4 : Int} {x0 : Int} {x1 : Int} : WP m178 73 [.inr (.inl l0), .inl l1, .inl l2, .inl l3, .inl l4] [.inl x1, .inl x0] σ Q = (if x0 = x1 then WP m178 76 [.inr (.inl l0), .inl l1, .inl l2, .inl l3, .inl l4] [] σ Q else WP m178 81 [.inr (.inl l0), .inl l1, .inl l2, .inl l3, .inl l4] [] σ Q) := w_icne d178_73 (by decide)
theorem d178_76 : adec m178 76 = some (.ldc 114, 2) := by decide +kernel
theorem s178_76 {l0 : Nat} {l1 : Int} {l2 : Int} {l3 : Int} {l4 : Int} : WP m178 76 [.inr (.inl l0), .inl l1, .inl l2, .inl l3, .inl l4] [] σ Q = WP m178 78 [.inr (.inl l0), .inl l1, .inl l2, .inl l3, .inl l4] [.inl (-1000000004)] σ Q := w_ldc d178_76 (by decide +kernel) (by decide)
theorem d178_78 : adec m178 78 = some (.goto (5), 3) := by decide +kernel
theorem s178_78 {l0 : Nat} {l1 : Int} {l2 : Int} {l3 : Int} {l4 : Int} {x0 : Int} : WP m178 78 [.inr (.inl l0), .inl l1, .inl l2, .inl l3, .inl l4] [.inl x0] σ Q = WP m178 83 [.inr (.inl l0), .inl l1, .inl l2, .inl l3, .inl l4] [.inl x0] σ Q := w_goto d178_78 (by decide)
theorem d178_81 : adec m178 81 = some (.iload 4, 2) := by decide +kernel
theorem s178_81 {l0 : Nat} {l1 : Int} {l2 : Int} {l3 : Int} {l4 : Int} : WP m178 81 [.inr (.inl l0), .inl l1, .inl l2, .inl l3, .inl l4] [] σ Q = WP m178 83 [.inr (.inl l0), .inl l1, .inl l2, .inl l3, .inl l4] [.inl l4] σ Q := w_ld d178_81 rfl
theorem d178_83 : adec m178 83 = some (.ireturn, 1) := by decide +kernel
theorem s178_83 {l0 : Nat} {l1 : Int} {l2 : Int} {l3 : Int} {l4 : Int} {x0 : Int} : WP m178 83 [.inr (.inl l0), .inl l1, .inl l2, .inl l3, .inl l4] [.inl x0] σ Q = Q [.inl x0] σ := w_ri d178_83 rfl
theorem e178 {p0 : Nat} {p1 : Int} {p2 : Int} {p3 : Int} : CA m178 [.inr (.inl p0), .inl p1, .inl p2, .inl p3] σ Q = WP m178 0 [.inr (.inl p0), .inl p1, .inl p2, .inl p3, vU] [] σ Q := rfl
-- BinderPressModel.steps(II)I
theorem d179_0 : adec m179 0 = some (.iload_n 1, 1) := by decide +kernel
theorem s179_0 {l0 : Nat} {l1 : Int} {l2 : Int} {l3 : AV} : WP m179 0 [.inr (.inl l0), .inl l1, .inl l2, l3] [] σ Q = WP m179 1 [.inr (.inl l0), .inl l1, .inl l2, l3] [.inl l1] σ Q := w_ld d179_0 rfl
theorem d179_1 : adec m179 1 = some (.invokestatic 152, 3) := by decide +kernel
theorem s179_1 {l0 : Nat} {l1 : Int} {l2 : Int} {l3 : AV} {x0 : Int} : WP m179 1 [.inr (.inl l0), .inl l1, .inl l2, l3] [.inl x0] σ Q = CA m130 [.inl x0] σ (fun v σ2 => WP m179 4 [.inr (.inl l0), .inl l1, .inl l2, l3] (v ++ []) σ2 Q) := w_cS (k := 130) d179_1 (by decide +kernel) (md := 1) (by decide +kernel) m130_at rfl rfl ⟨Nat.le_of_ble_eq_true rfl, Nat.le_of_ble_eq_true rfl, Nat.le_of_ble_eq_true rfl⟩ (by decide)
theorem d179_4 : adec m179 4 = some (.ifCond .ne (6), 3) := by decide +kernel
theorem s179_4 {l0 : Nat} {l1 : Int} {l2 : Int} {l3 : AV} {x0 : Int} : WP m179 4 [.inr (.inl l0), .inl l1, .inl l2, l3] [.inl x0] σ Q = (if x0 = 0 then WP m179 7 [.inr (.inl l0), .inl l1, .inl l2, l3] [] σ Q else WP m179 10 [.inr (.inl l0), .inl l1, .inl l2, l3] [] σ Q) := w_ifne d179_4 (by decide)
theorem d179_7 : adec m179 7 = some (.ldc 155, 2) := by decide +kernel
theorem s179_7 {l0 : Nat} {l1 : Int} {l2 : Int} {l3 : AV} : WP m179 7 [.inr (.inl l0), .inl l1, .inl l2, l3] [] σ Q = WP m179 9 [.inr (.inl l0), .inl l1, .inl l2, l3] [.inl (-1000000001)] σ Q := w_ldc d179_7 (by decide +kernel) (by decide)
theorem d179_9 : adec m179 9 = some (.ireturn, 1) := by decide +kernel
theorem s179_9 {l0 : Nat} {l1 : Int} {l2 : Int} {l3 : AV} {x0 : Int} : WP m179 9 [.inr (.inl l0), .inl l1, .inl l2, l3] [.inl x0] σ Q = Q [.inl x0] σ := w_ri d179_9 rfl
theorem d179_10 : adec m179 10 = some (.iload_n 2, 1) := by decide +kernel
theorem s179_10 {l0 : Nat} {l1 : Int} {l2 : Int} {l3 : AV} : WP m179 10 [.inr (.inl l0), .inl l1, .inl l2, l3] [] σ Q = WP m179 11 [.inr (.inl l0), .inl l1, .inl l2, l3] [.inl l2] σ Q := w_ld d179_10 rfl
theorem d179_11 : adec m179 11 = some (.i2l, 1) := by decide +kernel
theorem s179_11 {l0 : Nat} {l1 : Int} {l2 : Int} {l3 : AV} {x0 : Int} : WP m179 11 [.inr (.inl l0), .inl l1, .inl l2, l3] [.inl x0] σ Q = WP m179 12 [.inr (.inl l0), .inl l1, .inl l2, l3] [.inr (.inr (.inl x0))] σ Q := w_ld d179_11 rfl
theorem d179_12 : adec m179 12 = some (.lconst 0, 1) := by decide +kernel
theorem s179_12 {l0 : Nat} {l1 : Int} {l2 : Int} {l3 : AV} {x0 : Int} : WP m179 12 [.inr (.inl l0), .inl l1, .inl l2, l3] [.inr (.inr (.inl x0))] σ Q = WP m179 13 [.inr (.inl l0), .inl l1, .inl l2, l3] [.inr (.inr (.inl (0))), .inr (.inr (.inl x0))] σ Q := w_lconst d179_12
theorem d179_13 : adec m179 13 = some (.lconst 1, 1) := by decide +kernel
theorem s179_13 {l0 : Nat} {l1 : Int} {l2 : Int} {l3 : AV} {x0 : Int} {x1 : Int} : WP m179 13 [.inr (.inl l0), .inl l1, .inl l2, l3] [.inr (.inr (.inl x1)), .inr (.inr (.inl x0))] σ Q = WP m179 14 [.inr (.inl l0), .inl l1, .inl l2, l3] [.inr (.inr (.inl (1))), .inr (.inr (.inl x1)), .inr (.inr (.inl x0))] σ Q := w_lconst d179_13
theorem d179_14 : adec m179 14 = some (.invokestatic 88, 3) := by decide +kernel
theorem s179_14 {l0 : Nat} {l1 : Int} {l2 : Int} {l3 : AV} {x0 : Int} {x1 : Int} {x2 : Int} : WP m179 14 [.inr (.inl l0), .inl l1, .inl l2, l3] [.inr (.inr (.inl x2)), .inr (.inr (.inl x1)), .inr (.inr (.inl x0))] σ Q = CA m127 [.inr (.inr (.inl x0)), .inr (.inr (.inl x1)), .inr (.inr (.inl x2))] σ (fun v σ2 => WP m179 17 [.inr (.inl l0), .inl l1, .inl l2, l3] (v ++ []) σ2 Q) := w_cS (k := 127) d179_14 (by decide +kernel) (md := 1) (by decide +kernel) m127_at rfl rfl ⟨Nat.le_of_ble_eq_true rfl, Nat.le_of_ble_eq_true rfl, Nat.le_of_ble_eq_true rfl⟩ (by decide)
theorem d179_17 : adec m179 17 = some (.ifCond .ne (6), 3) := by decide +kernel
theorem s179_17 {l0 : Nat} {l1 : Int} {l2 : Int} {l3 : AV} {x0 : Int} : WP m179 17 [.inr (.inl l0), .inl l1, .inl l2, l3] [.inl x0] σ Q = (if x0 = 0 then WP m179 20 [.inr (.inl l0), .inl l1, .inl l2, l3] [] σ Q else WP m179 23 [.inr (.inl l0), .inl l1, .inl l2, l3] [] σ Q) := w_ifne d179_17 (by decide)
theorem d179_20 : adec m179 20 = some (.ldc 120, 2) := by decide +kernel
theorem s179_20 {l0 : Nat} {l1 : Int} {l2 : Int} {l3 : AV} : WP m179 20 [.inr (.inl l0), .inl l1, .inl l2, l3] [] σ Q = WP m179 22 [.inr (.inl l0), .inl l1, .inl l2, l3] [.inl (-1000000002)] σ Q := w_ldc d179_20 (by decide +kernel) (by decide)
theorem d179_22 : adec m179 22 = some (.ireturn, 1) := by decide +kernel
theorem s179_22 {l0 : Nat} {l1 : Int} {l2 : Int} {l3 : AV} {x0 : Int} : WP m179 22 [.inr (.inl l0), .inl l1, .inl l2, l3] [.inl x0] σ Q = Q [.inl x0] σ := w_ri d179_22 rfl
theorem d179_23 : adec m179 23 = some (.aload_n 0, 1) := by decide +kernel
theorem s179_23 {l0 : Nat} {l1 : Int} {l2 : Int} {l3 : AV} : WP m179 23 [.inr (.inl l0), .inl l1, .inl l2, l3] [] σ Q = WP m179 24 [.inr (.inl l0), .inl l1, .inl l2, l3] [.inr (.inl l0)] σ Q := w_ld d179_23 rfl
theorem d179_24 : adec m179 24 = some (.iload_n 1, 1) := by decide +kernel
theorem s179_24 {l0 : Nat} {l1 : Int} {l2 : Int} {l3 : AV} {x0 : Nat} : WP m179 24 [.inr (.inl l0), .inl l1, .inl l2, l3] [.inr (.inl x0)] σ Q = WP m179 25 [.inr (.inl l0), .inl l1, .inl l2, l3] [.inl l1, .inr (.inl x0)] σ Q := w_ld d179_24 rfl
theorem d179_25 : adec m179 25 = some (.invokevirtual 208, 3) := by decide +kernel
theorem s179_25 {l0 : Nat} {l1 : Int} {l2 : Int} {l3 : AV} {x1 : Int} : WP m179 25 [.inr (.inl l0), .inl l1, .inl l2, l3] [.inl x1, .inr (.inl 130)] σ Q = CA m160 [.inr (.inl 130), .inl x1] σ (fun v σ2 => WP m179 28 [.inr (.inl l0), .inl l1, .inl l2, l3] (v ++ []) σ2 Q) := (w_cV (k := 160) d179_25 (by decide +kernel) m160_at rfl rfl ⟨Nat.le_of_ble_eq_true rfl, Nat.le_of_ble_eq_true rfl, Nat.le_of_ble_eq_true rfl⟩ (by decide)).trans (g_and (isO_dec (by decide +kernel)))
theorem d179_28 : adec m179 28 = some (.ifCond .ne (6), 3) := by decide +kernel
theorem s179_28 {l0 : Nat} {l1 : Int} {l2 : Int} {l3 : AV} {x0 : Int} : WP m179 28 [.inr (.inl l0), .inl l1, .inl l2, l3] [.inl x0] σ Q = (if x0 = 0 then WP m179 31 [.inr (.inl l0), .inl l1, .inl l2, l3] [] σ Q else WP m179 34 [.inr (.inl l0), .inl l1, .inl l2, l3] [] σ Q) := w_ifne d179_28 (by decide)
theorem d179_31 : adec m179 31 = some (.ldc 195, 2) := by decide +kernel
theorem s179_31 {l0 : Nat} {l1 : Int} {l2 : Int} {l3 : AV} : WP m179 31 [.inr (.inl l0), .inl l1, .inl l2, l3] [] σ Q = WP m179 33 [.inr (.inl l0), .inl l1, .inl l2, l3] [.inl (-1000000003)] σ Q := w_ldc d179_31 (by decide +kernel) (by decide)
theorem d179_33 : adec m179 33 = some (.ireturn, 1) := by decide +kernel
theorem s179_33 {l0 : Nat} {l1 : Int} {l2 : Int} {l3 : AV} {x0 : Int} : WP m179 33 [.inr (.inl l0), .inl l1, .inl l2, l3] [.inl x0] σ Q = Q [.inl x0] σ := w_ri d179_33 rfl
theorem d179_34 : adec m179 34 = some (.aload_n 0, 1) := by decide +kernel
theorem s179_34 {l0 : Nat} {l1 : Int} {l2 : Int} {l3 : AV} : WP m179 34 [.inr (.inl l0), .inl l1, .inl l2, l3] [] σ Q = WP m179 35 [.inr (.inl l0), .inl l1, .inl l2, l3] [.inr (.inl l0)] σ Q := w_ld d179_34 rfl
theorem d179_35 : adec m179 35 = some (.iload_n 1, 1) := by decide +kernel
theorem s179_35 {l0 : Nat} {l1 : Int} {l2 : Int} {l3 : AV} {x0 : Nat} : WP m179 35 [.inr (.inl l0), .inl l1, .inl l2, l3] [.inr (.inl x0)] σ Q = WP m179 36 [.inr (.inl l0), .inl l1, .inl l2, l3] [.inl l1, .inr (.inl x0)] σ Q := w_ld d179_35 rfl
theorem d179_36 : adec m179 36 = some (.invokevirtual 196, 3) := by decide +kernel
theorem s179_36 {l0 : Nat} {l1 : Int} {l2 : Int} {l3 : AV} {x1 : Int} : WP m179 36 [.inr (.inl l0), .inl l1, .inl l2, l3] [.inl x1, .inr (.inl 130)] σ Q = CA m136 [.inr (.inl 130), .inl x1] σ (fun v σ2 => WP m179 39 [.inr (.inl l0), .inl l1, .inl l2, l3] (v ++ []) σ2 Q) := (w_cV (k := 136) d179_36 (by decide +kernel) m136_at rfl rfl ⟨Nat.le_of_ble_eq_true rfl, Nat.le_of_ble_eq_true rfl, Nat.le_of_ble_eq_true rfl⟩ (by decide)).trans (g_and (isO_dec (by decide +kernel)))
theorem d179_39 : adec m179 39 = some (.aload_n 0, 1) := by decide +kernel
theorem s179_39 {l0 : Nat} {l1 : Int} {l2 : Int} {l3 : AV} : WP m179 39 [.inr (.inl l0), .inl l1, .inl l2, l3] [] σ Q = WP m179 40 [.inr (.inl l0), .inl l1, .inl l2, l3] [.inr (.inl l0)] σ Q := w_ld d179_39 rfl
theorem d179_40 : adec m179 40 = some (.iload_n 2, 1) := by decide +kernel
theorem s179_40 {l0 : Nat} {l1 : Int} {l2 : Int} {l3 : AV} {x0 : Nat} : WP m179 40 [.inr (.inl l0), .inl l1, .inl l2, l3] [.inr (.inl x0)] σ Q = WP m179 41 [.inr (.inl l0), .inl l1, .inl l2, l3] [.inl l2, .inr (.inl x0)] σ Q := w_ld d179_40 rfl
theorem d179_41 : adec m179 41 = some (.sipush (200), 3) := by decide +kernel
theorem s179_41 {l0 : Nat} {l1 : Int} {l2 : Int} {l3 : AV} {x0 : Nat} {x1 : Int} : WP m179 41 [.inr (.inl l0), .inl l1, .inl l2, l3] [.inl x1, .inr (.inl x0)] σ Q = WP m179 44 [.inr (.inl l0), .inl l1, .inl l2, l3] [.inl (200), .inl x1, .inr (.inl x0)] σ Q := w_sipush d179_41 (by decide)
theorem d179_44 : adec m179 44 = some (.invokevirtual 276, 3) := by decide +kernel
theorem s179_44 {l0 : Nat} {l1 : Int} {l2 : Int} {l3 : AV} {x1 : Int} {x2 : Int} : WP m179 44 [.inr (.inl l0), .inl l1, .inl l2, l3] [.inl x2, .inl x1, .inr (.inl 130)] σ Q = CA m177 [.inr (.inl 130), .inl x1, .inl x2] σ (fun v σ2 => WP m179 47 [.inr (.inl l0), .inl l1, .inl l2, l3] (v ++ []) σ2 Q) := (w_cV (k := 177) d179_44 (by decide +kernel) m177_at rfl rfl ⟨Nat.le_of_ble_eq_true rfl, Nat.le_of_ble_eq_true rfl, Nat.le_of_ble_eq_true rfl⟩ (by decide)).trans (g_and (isO_dec (by decide +kernel)))
theorem d179_47 : adec m179 47 = some (.istore_n 3, 1) := by decide +kernel
theorem s179_47 {l0 : Nat} {l1 : Int} {l2 : Int} {l3 : AV} {x0 : Int} : WP m179 47 [.inr (.inl l0), .inl l1, .inl l2, l3] [.inl x0] σ Q = WP m179 48 [.inr (.inl l0), .inl l1, .inl l2, .inl x0] [] σ Q := w_st1 (j := 3) d179_47 rfl (Nat.le_of_ble_eq_true rfl) rfl
theorem d179_48 : adec m179 48 = some (.aload_n 0, 1) := by decide +kernel
theorem s179_48 {l0 : Nat} {l1 : Int} {l2 : Int} {l3 : Int} : WP m179 48 [.inr (.inl l0), .inl l1, .inl l2, .inl l3] [] σ Q = WP m179 49 [.inr (.inl l0), .inl l1, .inl l2, .inl l3] [.inr (.inl l0)] σ Q := w_ld d179_48 rfl
theorem d179_49 : adec m179 49 = some (.getfield 229, 3) := by decide +kernel
theorem s179_49 {l0 : Nat} {l1 : Int} {l2 : Int} {l3 : Int} : WP m179 49 [.inr (.inl l0), .inl l1, .inl l2, .inl l3] [.inr (.inl 130)] σ Q = WP m179 52 [.inr (.inl l0), .inl l1, .inl l2, .inl l3] [.inl (σ 130 18)] σ Q := (w_getI (c := 10) (n := 18) d179_49 (by decide +kernel) (by decide +kernel)).trans (g_and (isO_dec (by decide +kernel)))
theorem d179_52 : adec m179 52 = some (.ifCond .eq (8), 3) := by decide +kernel
theorem s179_52 {l0 : Nat} {l1 : Int} {l2 : Int} {l3 : Int} {x0 : Int} : WP m179 52 [.inr (.inl l0), .inl l1, .inl l2, .inl l3] [.inl x0] σ Q = (if x0 = 0 then WP m179 60 [.inr (.inl l0), .inl l1, .inl l2, .inl l3] [] σ Q else WP m179 55 [.inr (.inl l0), .inl l1, .inl l2, .inl l3] [] σ Q) := w_ifeq d179_52 (by decide)
theorem d179_55 : adec m179 55 = some (.bipush (-3), 2) := by decide +kernel
theorem s179_55 {l0 : Nat} {l1 : Int} {l2 : Int} {l3 : Int} : WP m179 55 [.inr (.inl l0), .inl l1, .inl l2, .inl l3] [] σ Q = WP m179 57 [.inr (.inl l0), .inl l1, .inl l2, .inl l3] [.inl (-3)] σ Q := w_bipush d179_55 (by decide)
theorem d179_57 : adec m179 57 = some (.goto (16), 3) := by decide +kernel
theorem s179_57 {l0 : Nat} {l1 : Int} {l2 : Int} {l3 : Int} {x0 : Int} : WP m179 57 [.inr (.inl l0), .inl l1, .inl l2, .inl l3] [.inl x0] σ Q = WP m179 73 [.inr (.inl l0), .inl l1, .inl l2, .inl l3] [.inl x0] σ Q := w_goto d179_57 (by decide)
theorem d179_60 : adec m179 60 = some (.aload_n 0, 1) := by decide +kernel
theorem s179_60 {l0 : Nat} {l1 : Int} {l2 : Int} {l3 : Int} : WP m179 60 [.inr (.inl l0), .inl l1, .inl l2, .inl l3] [] σ Q = WP m179 61 [.inr (.inl l0), .inl l1, .inl l2, .inl l3] [.inr (.inl l0)] σ Q := w_ld d179_60 rfl
theorem d179_61 : adec m179 61 = some (.getfield 236, 3) := by decide +kernel
theorem s179_61 {l0 : Nat} {l1 : Int} {l2 : Int} {l3 : Int} : WP m179 61 [.inr (.inl l0), .inl l1, .inl l2, .inl l3] [.inr (.inl 130)] σ Q = WP m179 64 [.inr (.inl l0), .inl l1, .inl l2, .inl l3] [.inl (σ 130 19)] σ Q := (w_getI (c := 10) (n := 19) d179_61 (by decide +kernel) (by decide +kernel)).trans (g_and (isO_dec (by decide +kernel)))
theorem d179_64 : adec m179 64 = some (.ifCond .eq (8), 3) := by decide +kernel
theorem s179_64 {l0 : Nat} {l1 : Int} {l2 : Int} {l3 : Int} {x0 : Int} : WP m179 64 [.inr (.inl l0), .inl l1, .inl l2, .inl l3] [.inl x0] σ Q = (if x0 = 0 then WP m179 72 [.inr (.inl l0), .inl l1, .inl l2, .inl l3] [] σ Q else WP m179 67 [.inr (.inl l0), .inl l1, .inl l2, .inl l3] [] σ Q) := w_ifeq d179_64 (by decide)
theorem d179_67 : adec m179 67 = some (.bipush (-2), 2) := by decide +kernel
theorem s179_67 {l0 : Nat} {l1 : Int} {l2 : Int} {l3 : Int} : WP m179 67 [.inr (.inl l0), .inl l1, .inl l2, .inl l3] [] σ Q = WP m179 69 [.inr (.inl l0), .inl l1, .inl l2, .inl l3] [.inl (-2)] σ Q := w_bipush d179_67 (by decide)
theorem d179_69 : adec m179 69 = some (.goto (4), 3) := by decide +kernel
theorem s179_69 {l0 : Nat} {l1 : Int} {l2 : Int} {l3 : Int} {x0 : Int} : WP m179 69 [.inr (.inl l0), .inl l1, .inl l2, .inl l3] [.inl x0] σ Q = WP m179 73 [.inr (.inl l0), .inl l1, .inl l2, .inl l3] [.inl x0] σ Q := w_goto d179_69 (by decide)
theorem d179_72 : adec m179 72 = some (.iload_n 3, 1) := by decide +kernel
theorem s179_72 {l0 : Nat} {l1 : Int} {l2 : Int} {l3 : Int} : WP m179 72 [.inr (.inl l0), .inl l1, .inl l2, .inl l3] [] σ Q = WP m179 73 [.inr (.inl l0), .inl l1, .inl l2, .inl l3] [.inl l3] σ Q := w_ld d179_72 rfl
theorem d179_73 : adec m179 73 = some (.ireturn, 1) := by decide +kernel
theorem s179_73 {l0 : Nat} {l1 : Int} {l2 : Int} {l3 : Int} {x0 : Int} : WP m179 73 [.inr (.inl l0), .inl l1, .inl l2, .inl l3] [.inl x0] σ Q = Q [.inl x0] σ := w_ri d179_73 rfl
theorem e179 {p0 : Nat} {p1 : Int} {p2 : Int} : CA m179 [.inr (.inl p0), .inl p1, .inl p2] σ Q = WP m179 0 [.inr (.inl p0), .inl p1, .inl p2, vU] [] σ Q := rfl
-- BinderPressModel.kind2(II)I
theorem d180_0 : adec m180 0 = some (.aload_n 0, 1) := by decide +kernel
theorem s180_0 {l0 : Nat} {l1 : Int} {l2 : Int} : WP m180 0 [.inr (.inl l0), .inl l1, .inl l2] [] σ Q = WP m180 1 [.inr (.inl l0), .inl l1, .inl l2] [.inr (.inl l0)] σ Q := w_ld d180_0 rfl
theorem d180_1 : adec m180 1 = some (.getfield 54, 3) := by decide +kernel
theorem s180_1 {l0 : Nat} {l1 : Int} {l2 : Int} : WP m180 1 [.inr (.inl l0), .inl l1, .inl l2] [.inr (.inl 130)] σ Q = WP m180 4 [.inr (.inl l0), .inl l1, .inl l2] [.inr (.inl 144)] σ Q := (w_getR (c := 10) (n := 25) d180_1 (by decide +kernel) (by decide +kernel)).trans (g_and ⟨isO_dec (by decide +kernel), by decide +kernel⟩)
theorem d180_4 : adec m180 4 = some (.aload_n 0, 1) := by decide +kernel
theorem s180_4 {l0 : Nat} {l1 : Int} {l2 : Int} {x0 : Nat} : WP m180 4 [.inr (.inl l0), .inl l1, .inl l2] [.inr (.inl x0)] σ Q = WP m180 5 [.inr (.inl l0), .inl l1, .inl l2] [.inr (.inl l0), .inr (.inl x0)] σ Q := w_ld d180_4 rfl
theorem d180_5 : adec m180 5 = some (.getfield 280, 3) := by decide +kernel
theorem s180_5 {l0 : Nat} {l1 : Int} {l2 : Int} {x0 : Nat} : WP m180 5 [.inr (.inl l0), .inl l1, .inl l2] [.inr (.inl 130), .inr (.inl x0)] σ Q = WP m180 8 [.inr (.inl l0), .inl l1, .inl l2] [.inl (σ 130 29), .inr (.inl x0)] σ Q := (w_getI (c := 10) (n := 29) d180_5 (by decide +kernel) (by decide +kernel)).trans (g_and (isO_dec (by decide +kernel)))
theorem d180_8 : adec m180 8 = some (.iload_n 1, 1) := by decide +kernel
theorem s180_8 {l0 : Nat} {l1 : Int} {l2 : Int} {x0 : Nat} {x1 : Int} : WP m180 8 [.inr (.inl l0), .inl l1, .inl l2] [.inl x1, .inr (.inl x0)] σ Q = WP m180 9 [.inr (.inl l0), .inl l1, .inl l2] [.inl l1, .inl x1, .inr (.inl x0)] σ Q := w_ld d180_8 rfl
theorem d180_9 : adec m180 9 = some (.iastore, 1) := by decide +kernel
theorem s180_9 {l0 : Nat} {l1 : Int} {l2 : Int} {x0 : Nat} {x1 : Int} {x2 : Int} : WP m180 9 [.inr (.inl l0), .inl l1, .inl l2] [.inl x2, .inl x1, .inr (.inl x0)] σ Q = ((kdS x0 = 20 ∧ 0 ≤ x1 ∧ x1 < ln x0) ∧ WP m180 10 [.inr (.inl l0), .inl l1, .inl l2] [] (aup σ x0 x1.toNat x2) Q) := w_iast d180_9
theorem d180_10 : adec m180 10 = some (.aload_n 0, 1) := by decide +kernel
theorem s180_10 {l0 : Nat} {l1 : Int} {l2 : Int} : WP m180 10 [.inr (.inl l0), .inl l1, .inl l2] [] σ Q = WP m180 11 [.inr (.inl l0), .inl l1, .inl l2] [.inr (.inl l0)] σ Q := w_ld d180_10 rfl
theorem d180_11 : adec m180 11 = some (.getfield 57, 3) := by decide +kernel
theorem s180_11 {l0 : Nat} {l1 : Int} {l2 : Int} : WP m180 11 [.inr (.inl l0), .inl l1, .inl l2] [.inr (.inl 130)] σ Q = WP m180 14 [.inr (.inl l0), .inl l1, .inl l2] [.inr (.inl 145)] σ Q := (w_getR (c := 10) (n := 26) d180_11 (by decide +kernel) (by decide +kernel)).trans (g_and ⟨isO_dec (by decide +kernel), by decide +kernel⟩)
theorem d180_14 : adec m180 14 = some (.aload_n 0, 1) := by decide +kernel
theorem s180_14 {l0 : Nat} {l1 : Int} {l2 : Int} {x0 : Nat} : WP m180 14 [.inr (.inl l0), .inl l1, .inl l2] [.inr (.inl x0)] σ Q = WP m180 15 [.inr (.inl l0), .inl l1, .inl l2] [.inr (.inl l0), .inr (.inl x0)] σ Q := w_ld d180_14 rfl
theorem d180_15 : adec m180 15 = some (.getfield 280, 3) := by decide +kernel
theorem s180_15 {l0 : Nat} {l1 : Int} {l2 : Int} {x0 : Nat} : WP m180 15 [.inr (.inl l0), .inl l1, .inl l2] [.inr (.inl 130), .inr (.inl x0)] σ Q = WP m180 18 [.inr (.inl l0), .inl l1, .inl l2] [.inl (σ 130 29), .inr (.inl x0)] σ Q := (w_getI (c := 10) (n := 29) d180_15 (by decide +kernel) (by decide +kernel)).trans (g_and (isO_dec (by decide +kernel)))
theorem d180_18 : adec m180 18 = some (.iload_n 2, 1) := by decide +kernel
theorem s180_18 {l0 : Nat} {l1 : Int} {l2 : Int} {x0 : Nat} {x1 : Int} : WP m180 18 [.inr (.inl l0), .inl l1, .inl l2] [.inl x1, .inr (.inl x0)] σ Q = WP m180 19 [.inr (.inl l0), .inl l1, .inl l2] [.inl l2, .inl x1, .inr (.inl x0)] σ Q := w_ld d180_18 rfl
theorem d180_19 : adec m180 19 = some (.iastore, 1) := by decide +kernel
theorem s180_19 {l0 : Nat} {l1 : Int} {l2 : Int} {x0 : Nat} {x1 : Int} {x2 : Int} : WP m180 19 [.inr (.inl l0), .inl l1, .inl l2] [.inl x2, .inl x1, .inr (.inl x0)] σ Q = ((kdS x0 = 20 ∧ 0 ≤ x1 ∧ x1 < ln x0) ∧ WP m180 20 [.inr (.inl l0), .inl l1, .inl l2] [] (aup σ x0 x1.toNat x2) Q) := w_iast d180_19
theorem d180_20 : adec m180 20 = some (.aload_n 0, 1) := by decide +kernel
theorem s180_20 {l0 : Nat} {l1 : Int} {l2 : Int} : WP m180 20 [.inr (.inl l0), .inl l1, .inl l2] [] σ Q = WP m180 21 [.inr (.inl l0), .inl l1, .inl l2] [.inr (.inl l0)] σ Q := w_ld d180_20 rfl
theorem d180_21 : adec m180 21 = some (.getfield 60, 3) := by decide +kernel
theorem s180_21 {l0 : Nat} {l1 : Int} {l2 : Int} : WP m180 21 [.inr (.inl l0), .inl l1, .inl l2] [.inr (.inl 130)] σ Q = WP m180 24 [.inr (.inl l0), .inl l1, .inl l2] [.inr (.inl 146)] σ Q := (w_getR (c := 10) (n := 27) d180_21 (by decide +kernel) (by decide +kernel)).trans (g_and ⟨isO_dec (by decide +kernel), by decide +kernel⟩)
theorem d180_24 : adec m180 24 = some (.aload_n 0, 1) := by decide +kernel
theorem s180_24 {l0 : Nat} {l1 : Int} {l2 : Int} {x0 : Nat} : WP m180 24 [.inr (.inl l0), .inl l1, .inl l2] [.inr (.inl x0)] σ Q = WP m180 25 [.inr (.inl l0), .inl l1, .inl l2] [.inr (.inl l0), .inr (.inl x0)] σ Q := w_ld d180_24 rfl
theorem d180_25 : adec m180 25 = some (.getfield 280, 3) := by decide +kernel
theorem s180_25 {l0 : Nat} {l1 : Int} {l2 : Int} {x0 : Nat} : WP m180 25 [.inr (.inl l0), .inl l1, .inl l2] [.inr (.inl 130), .inr (.inl x0)] σ Q = WP m180 28 [.inr (.inl l0), .inl l1, .inl l2] [.inl (σ 130 29), .inr (.inl x0)] σ Q := (w_getI (c := 10) (n := 29) d180_25 (by decide +kernel) (by decide +kernel)).trans (g_and (isO_dec (by decide +kernel)))
theorem d180_28 : adec m180 28 = some (.aload_n 0, 1) := by decide +kernel
theorem s180_28 {l0 : Nat} {l1 : Int} {l2 : Int} {x0 : Nat} {x1 : Int} : WP m180 28 [.inr (.inl l0), .inl l1, .inl l2] [.inl x1, .inr (.inl x0)] σ Q = WP m180 29 [.inr (.inl l0), .inl l1, .inl l2] [.inr (.inl l0), .inl x1, .inr (.inl x0)] σ Q := w_ld d180_28 rfl
theorem d180_29 : adec m180 29 = some (.getfield 280, 3) := by decide +kernel
theorem s180_29 {l0 : Nat} {l1 : Int} {l2 : Int} {x0 : Nat} {x1 : Int} : WP m180 29 [.inr (.inl l0), .inl l1, .inl l2] [.inr (.inl 130), .inl x1, .inr (.inl x0)] σ Q = WP m180 32 [.inr (.inl l0), .inl l1, .inl l2] [.inl (σ 130 29), .inl x1, .inr (.inl x0)] σ Q := (w_getI (c := 10) (n := 29) d180_29 (by decide +kernel) (by decide +kernel)).trans (g_and (isO_dec (by decide +kernel)))
theorem d180_32 : adec m180 32 = some (.iastore, 1) := by decide +kernel
theorem s180_32 {l0 : Nat} {l1 : Int} {l2 : Int} {x0 : Nat} {x1 : Int} {x2 : Int} : WP m180 32 [.inr (.inl l0), .inl l1, .inl l2] [.inl x2, .inl x1, .inr (.inl x0)] σ Q = ((kdS x0 = 20 ∧ 0 ≤ x1 ∧ x1 < ln x0) ∧ WP m180 33 [.inr (.inl l0), .inl l1, .inl l2] [] (aup σ x0 x1.toNat x2) Q) := w_iast d180_32
theorem d180_33 : adec m180 33 = some (.aload_n 0, 1) := by decide +kernel
theorem s180_33 {l0 : Nat} {l1 : Int} {l2 : Int} : WP m180 33 [.inr (.inl l0), .inl l1, .inl l2] [] σ Q = WP m180 34 [.inr (.inl l0), .inl l1, .inl l2] [.inr (.inl l0)] σ Q := w_ld d180_33 rfl
theorem d180_34 : adec m180 34 = some (.dup, 1) := by decide +kernel
theorem s180_34 {l0 : Nat} {l1 : Int} {l2 : Int} {x0 : Nat} : WP m180 34 [.inr (.inl l0), .inl l1, .inl l2] [.inr (.inl x0)] σ Q = WP m180 35 [.inr (.inl l0), .inl l1, .inl l2] [.inr (.inl x0), .inr (.inl x0)] σ Q := w_ld d180_34 rfl
theorem d180_35 : adec m180 35 = some (.getfield 280, 3) := by decide +kernel
theorem s180_35 {l0 : Nat} {l1 : Int} {l2 : Int} {x0 : Nat} : WP m180 35 [.inr (.inl l0), .inl l1, .inl l2] [.inr (.inl 130), .inr (.inl x0)] σ Q = WP m180 38 [.inr (.inl l0), .inl l1, .inl l2] [.inl (σ 130 29), .inr (.inl x0)] σ Q := (w_getI (c := 10) (n := 29) d180_35 (by decide +kernel) (by decide +kernel)).trans (g_and (isO_dec (by decide +kernel)))
theorem d180_38 : adec m180 38 = some (.iconst (1), 1) := by decide +kernel
theorem s180_38 {l0 : Nat} {l1 : Int} {l2 : Int} {x0 : Nat} {x1 : Int} : WP m180 38 [.inr (.inl l0), .inl l1, .inl l2] [.inl x1, .inr (.inl x0)] σ Q = WP m180 39 [.inr (.inl l0), .inl l1, .inl l2] [.inl (1), .inl x1, .inr (.inl x0)] σ Q := w_iconst d180_38 (by decide)
theorem d180_39 : adec m180 39 = some (.iadd, 1) := by decide +kernel
theorem s180_39 {l0 : Nat} {l1 : Int} {l2 : Int} {x0 : Nat} {x1 : Int} {x2 : Int} : WP m180 39 [.inr (.inl l0), .inl l1, .inl l2] [.inl x2, .inl x1, .inr (.inl x0)] σ Q = (inI (x1 + x2) ∧ WP m180 40 [.inr (.inl l0), .inl l1, .inl l2] [.inl (x1 + x2), .inr (.inl x0)] σ Q) := w_iadd d180_39
theorem d180_40 : adec m180 40 = some (.putfield 280, 3) := by decide +kernel
theorem s180_40 {l0 : Nat} {l1 : Int} {l2 : Int} {x1 : Int} : WP m180 40 [.inr (.inl l0), .inl l1, .inl l2] [.inl x1, .inr (.inl 130)] σ Q = WP m180 43 [.inr (.inl l0), .inl l1, .inl l2] [] (aup σ 130 29 x1) Q := (w_putI (c := 10) (n := 29) d180_40 (by decide +kernel) (by decide +kernel) (by decide +kernel)).trans (g_and (isO_dec (by decide +kernel)))
theorem d180_43 : adec m180 43 = some (.aload_n 0, 1) := by decide +kernel
theorem s180_43 {l0 : Nat} {l1 : Int} {l2 : Int} : WP m180 43 [.inr (.inl l0), .inl l1, .inl l2] [] σ Q = WP m180 44 [.inr (.inl l0), .inl l1, .inl l2] [.inr (.inl l0)] σ Q := w_ld d180_43 rfl
theorem d180_44 : adec m180 44 = some (.getfield 280, 3) := by decide +kernel
theorem s180_44 {l0 : Nat} {l1 : Int} {l2 : Int} : WP m180 44 [.inr (.inl l0), .inl l1, .inl l2] [.inr (.inl 130)] σ Q = WP m180 47 [.inr (.inl l0), .inl l1, .inl l2] [.inl (σ 130 29)] σ Q := (w_getI (c := 10) (n := 29) d180_44 (by decide +kernel) (by decide +kernel)).trans (g_and (isO_dec (by decide +kernel)))
theorem d180_47 : adec m180 47 = some (.iconst (1), 1) := by decide +kernel
theorem s180_47 {l0 : Nat} {l1 : Int} {l2 : Int} {x0 : Int} : WP m180 47 [.inr (.inl l0), .inl l1, .inl l2] [.inl x0] σ Q = WP m180 48 [.inr (.inl l0), .inl l1, .inl l2] [.inl (1), .inl x0] σ Q := w_iconst d180_47 (by decide)
theorem d180_48 : adec m180 48 = some (.isub, 1) := by decide +kernel
theorem s180_48 {l0 : Nat} {l1 : Int} {l2 : Int} {x0 : Int} {x1 : Int} : WP m180 48 [.inr (.inl l0), .inl l1, .inl l2] [.inl x1, .inl x0] σ Q = (inI (x0 - x1) ∧ WP m180 49 [.inr (.inl l0), .inl l1, .inl l2] [.inl (x0 - x1)] σ Q) := w_isub d180_48
theorem d180_49 : adec m180 49 = some (.ireturn, 1) := by decide +kernel
theorem s180_49 {l0 : Nat} {l1 : Int} {l2 : Int} {x0 : Int} : WP m180 49 [.inr (.inl l0), .inl l1, .inl l2] [.inl x0] σ Q = Q [.inl x0] σ := w_ri d180_49 rfl
theorem e180 {p0 : Nat} {p1 : Int} {p2 : Int} : CA m180 [.inr (.inl p0), .inl p1, .inl p2] σ Q = WP m180 0 [.inr (.inl p0), .inl p1, .inl p2] [] σ Q := rfl
-- BinderPressModel.unknown()I
theorem d181_0 : adec m181 0 = some (.aload_n 0, 1) := by decide +kernel
theorem s181_0 {l0 : Nat} : WP m181 0 [.inr (.inl l0)] [] σ Q = WP m181 1 [.inr (.inl l0)] [.inr (.inl l0)] σ Q := w_ld d181_0 rfl
theorem d181_1 : adec m181 1 = some (.iconst (-1), 1) := by decide +kernel
theorem s181_1 {l0 : Nat} {x0 : Nat} : WP m181 1 [.inr (.inl l0)] [.inr (.inl x0)] σ Q = WP m181 2 [.inr (.inl l0)] [.inl (-1), .inr (.inl x0)] σ Q := w_iconst d181_1 (by decide)
theorem d181_2 : adec m181 2 = some (.iconst (-1), 1) := by decide +kernel
theorem s181_2 {l0 : Nat} {x0 : Nat} {x1 : Int} : WP m181 2 [.inr (.inl l0)] [.inl x1, .inr (.inl x0)] σ Q = WP m181 3 [.inr (.inl l0)] [.inl (-1), .inl x1, .inr (.inl x0)] σ Q := w_iconst d181_2 (by decide)
theorem d181_3 : adec m181 3 = some (.invokevirtual 283, 3) := by decide +kernel
theorem s181_3 {l0 : Nat} {x1 : Int} {x2 : Int} : WP m181 3 [.inr (.inl l0)] [.inl x2, .inl x1, .inr (.inl 130)] σ Q = CA m180 [.inr (.inl 130), .inl x1, .inl x2] σ (fun v σ2 => WP m181 6 [.inr (.inl l0)] (v ++ []) σ2 Q) := (w_cV (k := 180) d181_3 (by decide +kernel) m180_at rfl rfl ⟨Nat.le_of_ble_eq_true rfl, Nat.le_of_ble_eq_true rfl, Nat.le_of_ble_eq_true rfl⟩ (by decide)).trans (g_and (isO_dec (by decide +kernel)))
theorem d181_6 : adec m181 6 = some (.ireturn, 1) := by decide +kernel
theorem s181_6 {l0 : Nat} {x0 : Int} : WP m181 6 [.inr (.inl l0)] [.inl x0] σ Q = Q [.inl x0] σ := w_ri d181_6 rfl
theorem e181 {p0 : Nat} : CA m181 [.inr (.inl p0)] σ Q = WP m181 0 [.inr (.inl p0)] [] σ Q := rfl
-- BinderPressModel.realKind(I)I
theorem d182_0 : adec m182 0 = some (.iload_n 1, 1) := by decide +kernel
theorem s182_0 {l0 : Nat} {l1 : Int} {l2 : AV} : WP m182 0 [.inr (.inl l0), .inl l1, l2] [] σ Q = WP m182 1 [.inr (.inl l0), .inl l1, l2] [.inl l1] σ Q := w_ld d182_0 rfl
theorem d182_1 : adec m182 1 = some (.istore_n 2, 1) := by decide +kernel
theorem s182_1 {l0 : Nat} {l1 : Int} {l2 : AV} {x0 : Int} : WP m182 1 [.inr (.inl l0), .inl l1, l2] [.inl x0] σ Q = WP m182 2 [.inr (.inl l0), .inl l1, .inl x0] [] σ Q := w_st1 (j := 2) d182_1 rfl (Nat.le_of_ble_eq_true rfl) rfl
theorem d182_2 : adec m182 2 = some (.aload_n 0, 1) := by decide +kernel
theorem s182_2 {l0 : Nat} {l1 : Int} {l2 : Int} : WP m182 2 [.inr (.inl l0), .inl l1, .inl l2] [] σ Q = WP m182 3 [.inr (.inl l0), .inl l1, .inl l2] [.inr (.inl l0)] σ Q := w_ld d182_2 rfl
theorem d182_3 : adec m182 3 = some (.getfield 60, 3) := by decide +kernel
theorem s182_3 {l0 : Nat} {l1 : Int} {l2 : Int} : WP m182 3 [.inr (.inl l0), .inl l1, .inl l2] [.inr (.inl 130)] σ Q = WP m182 6 [.inr (.inl l0), .inl l1, .inl l2] [.inr (.inl 146)] σ Q := (w_getR (c := 10) (n := 27) d182_3 (by decide +kernel) (by decide +kernel)).trans (g_and ⟨isO_dec (by decide +kernel), by decide +kernel⟩)
theorem d182_6 : adec m182 6 = some (.iload_n 2, 1) := by decide +kernel
theorem s182_6 {l0 : Nat} {l1 : Int} {l2 : Int} {x0 : Nat} : WP m182 6 [.inr (.inl l0), .inl l1, .inl l2] [.inr (.inl x0)] σ Q = WP m182 7 [.inr (.inl l0), .inl l1, .inl l2] [.inl l2, .inr (.inl x0)] σ Q := w_ld d182_6 rfl
theorem d182_7 : adec m182 7 = some (.iaload, 1) := by decide +kernel
theorem s182_7 {l0 : Nat} {l1 : Int} {l2 : Int} {x0 : Nat} {x1 : Int} : WP m182 7 [.inr (.inl l0), .inl l1, .inl l2] [.inl x1, .inr (.inl x0)] σ Q = ((kdS x0 = 20 ∧ 0 ≤ x1 ∧ x1 < ln x0) ∧ WP m182 8 [.inr (.inl l0), .inl l1, .inl l2] [.inl (σ x0 x1.toNat)] σ Q) := w_iald d182_7
theorem d182_8 : adec m182 8 = some (.iload_n 2, 1) := by decide +kernel
theorem s182_8 {l0 : Nat} {l1 : Int} {l2 : Int} {x0 : Int} : WP m182 8 [.inr (.inl l0), .inl l1, .inl l2] [.inl x0] σ Q = WP m182 9 [.inr (.inl l0), .inl l1, .inl l2] [.inl l2, .inl x0] σ Q := w_ld d182_8 rfl
theorem d182_9 : adec m182 9 = some (.if_icmp .eq (13), 3) := by decide +kernel
theorem s182_9 {l0 : Nat} {l1 : Int} {l2 : Int} {x0 : Int} {x1 : Int} : WP m182 9 [.inr (.inl l0), .inl l1, .inl l2] [.inl x1, .inl x0] σ Q = (if x0 = x1 then WP m182 22 [.inr (.inl l0), .inl l1, .inl l2] [] σ Q else WP m182 12 [.inr (.inl l0), .inl l1, .inl l2] [] σ Q) := w_iceq d182_9 (by decide)
theorem d182_12 : adec m182 12 = some (.aload_n 0, 1) := by decide +kernel
theorem s182_12 {l0 : Nat} {l1 : Int} {l2 : Int} : WP m182 12 [.inr (.inl l0), .inl l1, .inl l2] [] σ Q = WP m182 13 [.inr (.inl l0), .inl l1, .inl l2] [.inr (.inl l0)] σ Q := w_ld d182_12 rfl
theorem d182_13 : adec m182 13 = some (.getfield 60, 3) := by decide +kernel
theorem s182_13 {l0 : Nat} {l1 : Int} {l2 : Int} : WP m182 13 [.inr (.inl l0), .inl l1, .inl l2] [.inr (.inl 130)] σ Q = WP m182 16 [.inr (.inl l0), .inl l1, .inl l2] [.inr (.inl 146)] σ Q := (w_getR (c := 10) (n := 27) d182_13 (by decide +kernel) (by decide +kernel)).trans (g_and ⟨isO_dec (by decide +kernel), by decide +kernel⟩)
theorem d182_16 : adec m182 16 = some (.iload_n 2, 1) := by decide +kernel
theorem s182_16 {l0 : Nat} {l1 : Int} {l2 : Int} {x0 : Nat} : WP m182 16 [.inr (.inl l0), .inl l1, .inl l2] [.inr (.inl x0)] σ Q = WP m182 17 [.inr (.inl l0), .inl l1, .inl l2] [.inl l2, .inr (.inl x0)] σ Q := w_ld d182_16 rfl
theorem d182_17 : adec m182 17 = some (.iaload, 1) := by decide +kernel
theorem s182_17 {l0 : Nat} {l1 : Int} {l2 : Int} {x0 : Nat} {x1 : Int} : WP m182 17 [.inr (.inl l0), .inl l1, .inl l2] [.inl x1, .inr (.inl x0)] σ Q = ((kdS x0 = 20 ∧ 0 ≤ x1 ∧ x1 < ln x0) ∧ WP m182 18 [.inr (.inl l0), .inl l1, .inl l2] [.inl (σ x0 x1.toNat)] σ Q) := w_iald d182_17
theorem d182_18 : adec m182 18 = some (.istore_n 2, 1) := by decide +kernel
theorem s182_18 {l0 : Nat} {l1 : Int} {l2 : Int} {x0 : Int} : WP m182 18 [.inr (.inl l0), .inl l1, .inl l2] [.inl x0] σ Q = WP m182 19 [.inr (.inl l0), .inl l1, .inl x0] [] σ Q := w_st1 (j := 2) d182_18 rfl (Nat.le_of_ble_eq_true rfl) rfl
theorem d182_19 : adec m182 19 = some (.goto (-17), 3) := by decide +kernel
theorem s182_19 {l0 : Nat} {l1 : Int} {l2 : Int} : WP m182 19 [.inr (.inl l0), .inl l1, .inl l2] [] σ Q = WP m182 2 [.inr (.inl l0), .inl l1, .inl l2] [] σ Q := w_goto d182_19 (by decide)
theorem d182_22 : adec m182 22 = some (.iload_n 2, 1) := by decide +kernel
theorem s182_22 {l0 : Nat} {l1 : Int} {l2 : Int} : WP m182 22 [.inr (.inl l0), .inl l1, .inl l2] [] σ Q = WP m182 23 [.inr (.inl l0), .inl l1, .inl l2] [.inl l2] σ Q := w_ld d182_22 rfl
theorem d182_23 : adec m182 23 = some (.ireturn, 1) := by decide +kernel
theorem s182_23 {l0 : Nat} {l1 : Int} {l2 : Int} {x0 : Int} : WP m182 23 [.inr (.inl l0), .inl l1, .inl l2] [.inl x0] σ Q = Q [.inl x0] σ := w_ri d182_23 rfl
theorem e182 {p0 : Nat} {p1 : Int} : CA m182 [.inr (.inl p0), .inl p1] σ Q = WP m182 0 [.inr (.inl p0), .inl p1, vU] [] σ Q := rfl
-- BinderPressModel.kindOfSign(I)I
theorem d183_0 : adec m183 0 = some (.aload_n 0, 1) := by decide +kernel
theorem s183_0 {l0 : Nat} {l1 : Int} {l2 : AV} {l3 : AV} {l4 : AV} {l5 : AV} {l6 : AV} : WP m183 0 [.inr (.inl l0), .inl l1, l2, l3, l4, l5, l6] [] σ Q = WP m183 1 [.inr (.inl l0), .inl l1, l2, l3, l4, l5, l6] [.inr (.inl l0)] σ Q := w_ld d183_0 rfl
theorem d183_1 : adec m183 1 = some (.invokevirtual 286, 3) := by decide +kernel
theorem s183_1 {l0 : Nat} {l1 : Int} {l2 : AV} {l3 : AV} {l4 : AV} {l5 : AV} {l6 : AV} : WP m183 1 [.inr (.inl l0), .inl l1, l2, l3, l4, l5, l6] [.inr (.inl 130)] σ Q = CA m181 [.inr (.inl 130)] σ (fun v σ2 => WP m183 4 [.inr (.inl l0), .inl l1, l2, l3, l4, l5, l6] (v ++ []) σ2 Q) := (w_cV (k := 181) d183_1 (by decide +kernel) m181_at rfl rfl ⟨Nat.le_of_ble_eq_true rfl, Nat.le_of_ble_eq_true rfl, Nat.le_of_ble_eq_true rfl⟩ (by decide)).trans (g_and (isO_dec (by decide +kernel)))
theorem d183_4 : adec m183 4 = some (.istore_n 2, 1) := by decide +kernel
theorem s183_4 {l0 : Nat} {l1 : Int} {l2 : AV} {l3 : AV} {l4 : AV} {l5 : AV} {l6 : AV} {x0 : Int} : WP m183 4 [.inr (.inl l0), .inl l1, l2, l3, l4, l5, l6] [.inl x0] σ Q = WP m183 5 [.inr (.inl l0), .inl l1, .inl x0, l3, l4, l5, l6] [] σ Q := w_st1 (j := 2) d183_4 rfl (Nat.le_of_ble_eq_true rfl) rfl
theorem d183_5 : adec m183 5 = some (.iload_n 1, 1) := by decide +kernel
theorem s183_5 {l0 : Nat} {l1 : Int} {l2 : Int} {l3 : AV} {l4 : AV} {l5 : AV} {l6 : AV} : WP m183 5 [.inr (.inl l0), .inl l1, .inl l2, l3, l4, l5, l6] [] σ Q = WP m183 6 [.inr (.inl l0), .inl l1, .inl l2, l3, l4, l5, l6] [.inl l1] σ Q := w_ld d183_5 rfl
theorem d183_6 : adec m183 6 = some (.iconst (1), 1) := by decide +kernel
theorem s183_6 {l0 : Nat} {l1 : Int} {l2 : Int} {l3 : AV} {l4 : AV} {l5 : AV} {l6 : AV} {x0 : Int} : WP m183 6 [.inr (.inl l0), .inl l1, .inl l2, l3, l4, l5, l6] [.inl x0] σ Q = WP m183 7 [.inr (.inl l0), .inl l1, .inl l2, l3, l4, l5, l6] [.inl (1), .inl x0] σ Q := w_iconst d183_6 (by decide)
theorem d183_7 : adec m183 7 = some (.if_icmp .ne (10), 3) := by decide +kernel
theorem s183_7 {l0 : Nat} {l1 : Int} {l2 : Int} {l3 : AV} {l4 : AV} {l5 : AV} {l6 : AV} {x0 : Int} {x1 : Int} : WP m183 7 [.inr (.inl l0), .inl l1, .inl l2, l3, l4, l5, l6] [.inl x1, .inl x0] σ Q = (if x0 = x1 then WP m183 10 [.inr (.inl l0), .inl l1, .inl l2, l3, l4, l5, l6] [] σ Q else WP m183 17 [.inr (.inl l0), .inl l1, .inl l2, l3, l4, l5, l6] [] σ Q) := w_icne d183_7 (by decide)
theorem d183_10 : adec m183 10 = some (.aload_n 0, 1) := by decide +kernel
theorem s183_10 {l0 : Nat} {l1 : Int} {l2 : Int} {l3 : AV} {l4 : AV} {l5 : AV} {l6 : AV} : WP m183 10 [.inr (.inl l0), .inl l1, .inl l2, l3, l4, l5, l6] [] σ Q = WP m183 11 [.inr (.inl l0), .inl l1, .inl l2, l3, l4, l5, l6] [.inr (.inl l0)] σ Q := w_ld d183_10 rfl
theorem d183_11 : adec m183 11 = some (.iload_n 2, 1) := by decide +kernel
theorem s183_11 {l0 : Nat} {l1 : Int} {l2 : Int} {l3 : AV} {l4 : AV} {l5 : AV} {l6 : AV} {x0 : Nat} : WP m183 11 [.inr (.inl l0), .inl l1, .inl l2, l3, l4, l5, l6] [.inr (.inl x0)] σ Q = WP m183 12 [.inr (.inl l0), .inl l1, .inl l2, l3, l4, l5, l6] [.inl l2, .inr (.inl x0)] σ Q := w_ld d183_11 rfl
theorem d183_12 : adec m183 12 = some (.iload_n 2, 1) := by decide +kernel
theorem s183_12 {l0 : Nat} {l1 : Int} {l2 : Int} {l3 : AV} {l4 : AV} {l5 : AV} {l6 : AV} {x0 : Nat} {x1 : Int} : WP m183 12 [.inr (.inl l0), .inl l1, .inl l2, l3, l4, l5, l6] [.inl x1, .inr (.inl x0)] σ Q = WP m183 13 [.inr (.inl l0), .inl l1, .inl l2, l3, l4, l5, l6] [.inl l2, .inl x1, .inr (.inl x0)] σ Q := w_ld d183_12 rfl
theorem d183_13 : adec m183 13 = some (.invokevirtual 283, 3) := by decide +kernel
theorem s183_13 {l0 : Nat} {l1 : Int} {l2 : Int} {l3 : AV} {l4 : AV} {l5 : AV} {l6 : AV} {x1 : Int} {x2 : Int} : WP m183 13 [.inr (.inl l0), .inl l1, .inl l2, l3, l4, l5, l6] [.inl x2, .inl x1, .inr (.inl 130)] σ Q = CA m180 [.inr (.inl 130), .inl x1, .inl x2] σ (fun v σ2 => WP m183 16 [.inr (.inl l0), .inl l1, .inl l2, l3, l4, l5, l6] (v ++ []) σ2 Q) := (w_cV (k := 180) d183_13 (by decide +kernel) m180_at rfl rfl ⟨Nat.le_of_ble_eq_true rfl, Nat.le_of_ble_eq_true rfl, Nat.le_of_ble_eq_true rfl⟩ (by decide)).trans (g_and (isO_dec (by decide +kernel)))
theorem d183_16 : adec m183 16 = some (.ireturn, 1) := by decide +kernel
theorem s183_16 {l0 : Nat} {l1 : Int} {l2 : Int} {l3 : AV} {l4 : AV} {l5 : AV} {l6 : AV} {x0 : Int} : WP m183 16 [.inr (.inl l0), .inl l1, .inl l2, l3, l4, l5, l6] [.inl x0] σ Q = Q [.inl x0] σ := w_ri d183_16 rfl
theorem d183_17 : adec m183 17 = some (.aload_n 0, 1) := by decide +kernel
theorem s183_17 {l0 : Nat} {l1 : Int} {l2 : Int} {l3 : AV} {l4 : AV} {l5 : AV} {l6 : AV} : WP m183 17 [.inr (.inl l0), .inl l1, .inl l2, l3, l4, l5, l6] [] σ Q = WP m183 18 [.inr (.inl l0), .inl l1, .inl l2, l3, l4, l5, l6] [.inr (.inl l0)] σ Q := w_ld d183_17 rfl
theorem d183_18 : adec m183 18 = some (.invokevirtual 286, 3) := by decide +kernel
theorem s183_18 {l0 : Nat} {l1 : Int} {l2 : Int} {l3 : AV} {l4 : AV} {l5 : AV} {l6 : AV} : WP m183 18 [.inr (.inl l0), .inl l1, .inl l2, l3, l4, l5, l6] [.inr (.inl 130)] σ Q = CA m181 [.inr (.inl 130)] σ (fun v σ2 => WP m183 21 [.inr (.inl l0), .inl l1, .inl l2, l3, l4, l5, l6] (v ++ []) σ2 Q) := (w_cV (k := 181) d183_18 (by decide +kernel) m181_at rfl rfl ⟨Nat.le_of_ble_eq_true rfl, Nat.le_of_ble_eq_true rfl, Nat.le_of_ble_eq_true rfl⟩ (by decide)).trans (g_and (isO_dec (by decide +kernel)))
theorem d183_21 : adec m183 21 = some (.istore_n 3, 1) := by decide +kernel
theorem s183_21 {l0 : Nat} {l1 : Int} {l2 : Int} {l3 : AV} {l4 : AV} {l5 : AV} {l6 : AV} {x0 : Int} : WP m183 21 [.inr (.inl l0), .inl l1, .inl l2, l3, l4, l5, l6] [.inl x0] σ Q = WP m183 22 [.inr (.inl l0), .inl l1, .inl l2, .inl x0, l4, l5, l6] [] σ Q := w_st1 (j := 3) d183_21 rfl (Nat.le_of_ble_eq_true rfl) rfl
theorem d183_22 : adec m183 22 = some (.iload_n 1, 1) := by decide +kernel
theorem s183_22 {l0 : Nat} {l1 : Int} {l2 : Int} {l3 : Int} {l4 : AV} {l5 : AV} {l6 : AV} : WP m183 22 [.inr (.inl l0), .inl l1, .inl l2, .inl l3, l4, l5, l6] [] σ Q = WP m183 23 [.inr (.inl l0), .inl l1, .inl l2, .inl l3, l4, l5, l6] [.inl l1] σ Q := w_ld d183_22 rfl
theorem d183_23 : adec m183 23 = some (.iconst (2), 1) := by decide +kernel
theorem s183_23 {l0 : Nat} {l1 : Int} {l2 : Int} {l3 : Int} {l4 : AV} {l5 : AV} {l6 : AV} {x0 : Int} : WP m183 23 [.inr (.inl l0), .inl l1, .inl l2, .inl l3, l4, l5, l6] [.inl x0] σ Q = WP m183 24 [.inr (.inl l0), .inl l1, .inl l2, .inl l3, l4, l5, l6] [.inl (2), .inl x0] σ Q := w_iconst d183_23 (by decide)
theorem d183_24 : adec m183 24 = some (.if_icmp .ne (15), 3) := by decide +kernel
theorem s183_24 {l0 : Nat} {l1 : Int} {l2 : Int} {l3 : Int} {l4 : AV} {l5 : AV} {l6 : AV} {x0 : Int} {x1 : Int} : WP m183 24 [.inr (.inl l0), .inl l1, .inl l2, .inl l3, l4, l5, l6] [.inl x1, .inl x0] σ Q = (if x0 = x1 then WP m183 27 [.inr (.inl l0), .inl l1, .inl l2, .inl l3, l4, l5, l6] [] σ Q else WP m183 39 [.inr (.inl l0), .inl l1, .inl l2, .inl l3, l4, l5, l6] [] σ Q) := w_icne d183_24 (by decide)
theorem d183_27 : adec m183 27 = some (.aload_n 0, 1) := by decide +kernel
theorem s183_27 {l0 : Nat} {l1 : Int} {l2 : Int} {l3 : Int} {l4 : AV} {l5 : AV} {l6 : AV} : WP m183 27 [.inr (.inl l0), .inl l1, .inl l2, .inl l3, l4, l5, l6] [] σ Q = WP m183 28 [.inr (.inl l0), .inl l1, .inl l2, .inl l3, l4, l5, l6] [.inr (.inl l0)] σ Q := w_ld d183_27 rfl
theorem d183_28 : adec m183 28 = some (.iload_n 2, 1) := by decide +kernel
theorem s183_28 {l0 : Nat} {l1 : Int} {l2 : Int} {l3 : Int} {l4 : AV} {l5 : AV} {l6 : AV} {x0 : Nat} : WP m183 28 [.inr (.inl l0), .inl l1, .inl l2, .inl l3, l4, l5, l6] [.inr (.inl x0)] σ Q = WP m183 29 [.inr (.inl l0), .inl l1, .inl l2, .inl l3, l4, l5, l6] [.inl l2, .inr (.inl x0)] σ Q := w_ld d183_28 rfl
theorem d183_29 : adec m183 29 = some (.aload_n 0, 1) := by decide +kernel
theorem s183_29 {l0 : Nat} {l1 : Int} {l2 : Int} {l3 : Int} {l4 : AV} {l5 : AV} {l6 : AV} {x0 : Nat} {x1 : Int} : WP m183 29 [.inr (.inl l0), .inl l1, .inl l2, .inl l3, l4, l5, l6] [.inl x1, .inr (.inl x0)] σ Q = WP m183 30 [.inr (.inl l0), .inl l1, .inl l2, .inl l3, l4, l5, l6] [.inr (.inl l0), .inl x1, .inr (.inl x0)] σ Q := w_ld d183_29 rfl
theorem d183_30 : adec m183 30 = some (.iload_n 3, 1) := by decide +kernel
theorem s183_30 {l0 : Nat} {l1 : Int} {l2 : Int} {l3 : Int} {l4 : AV} {l5 : AV} {l6 : AV} {x0 : Nat} {x1 : Int} {x2 : Nat} : WP m183 30 [.inr (.inl l0), .inl l1, .inl l2, .inl l3, l4, l5, l6] [.inr (.inl x2), .inl x1, .inr (.inl x0)] σ Q = WP m183 31 [.inr (.inl l0), .inl l1, .inl l2, .inl l3, l4, l5, l6] [.inl l3, .inr (.inl x2), .inl x1, .inr (.inl x0)] σ Q := w_ld d183_30 rfl
theorem d183_31 : adec m183 31 = some (.iload_n 2, 1) := by decide +kernel
theorem s183_31 {l0 : Nat} {l1 : Int} {l2 : Int} {l3 : Int} {l4 : AV} {l5 : AV} {l6 : AV} {x0 : Nat} {x1 : Int} {x2 : Nat} {x3 : Int} : WP m183 31 [.inr (.inl l0), .inl l1, .inl l2, .inl l3, l4, l5, l6] [.inl x3, .inr (.inl x2), .inl x1, .inr (.inl x0)] σ Q = WP m183 32 [.inr (.inl l0), .inl l1, .inl l2, .inl l3, l4, l5, l6] [.inl l2, .inl x3, .inr (.inl x2), .inl x1, .inr (.inl x0)] σ Q := w_ld d183_31 rfl
theorem d183_32 : adec m183 32 = some (.invokevirtual 283, 3) := by decide +kernel
theorem s183_32 {l0 : Nat} {l1 : Int} {l2 : Int} {l3 : Int} {l4 : AV} {l5 : AV} {l6 : AV} {x0 : Nat} {x1 : Int} {x3 : Int} {x4 : Int} : WP m183 32 [.inr (.inl l0), .inl l1, .inl l2, .inl l3, l4, l5, l6] [.inl x4, .inl x3, .inr (.inl 130), .inl x1, .inr (.inl x0)] σ Q = CA m180 [.inr (.inl 130), .inl x3, .inl x4] σ (fun v σ2 => WP m183 35 [.inr (.inl l0), .inl l1, .inl l2, .inl l3, l4, l5, l6] (v ++ [.inl x1, .inr (.inl x0)]) σ2 Q) := (w_cV (k := 180) d183_32 (by decide +kernel) m180_at rfl rfl ⟨Nat.le_of_ble_eq_true rfl, Nat.le_of_ble_eq_true rfl, Nat.le_of_ble_eq_true rfl⟩ (by decide)).trans (g_and (isO_dec (by decide +kernel)))
theorem d183_35 : adec m183 35 = some (.invokevirtual 283, 3) := by decide +kernel
theorem s183_35 {l0 : Nat} {l1 : Int} {l2 : Int} {l3 : Int} {l4 : AV} {l5 : AV} {l6 : AV} {x1 : Int} {x2 : Int} : WP m183 35 [.inr (.inl l0), .inl l1, .inl l2, .inl l3, l4, l5, l6] [.inl x2, .inl x1, .inr (.inl 130)] σ Q = CA m180 [.inr (.inl 130), .inl x1, .inl x2] σ (fun v σ2 => WP m183 38 [.inr (.inl l0), .inl l1, .inl l2, .inl l3, l4, l5, l6] (v ++ []) σ2 Q) := (w_cV (k := 180) d183_35 (by decide +kernel) m180_at rfl rfl ⟨Nat.le_of_ble_eq_true rfl, Nat.le_of_ble_eq_true rfl, Nat.le_of_ble_eq_true rfl⟩ (by decide)).trans (g_and (isO_dec (by decide +kernel)))
theorem d183_38 : adec m183 38 = some (.ireturn, 1) := by decide +kernel
theorem s183_38 {l0 : Nat} {l1 : Int} {l2 : Int} {l3 : Int} {l4 : AV} {l5 : AV} {l6 : AV} {x0 : Int} : WP m183 38 [.inr (.inl l0), .inl l1, .inl l2, .inl l3, l4, l5, l6] [.inl x0] σ Q = Q [.inl x0] σ := w_ri d183_38 rfl
theorem d183_39 : adec m183 39 = some (.aload_n 0, 1) := by decide +kernel
theorem s183_39 {l0 : Nat} {l1 : Int} {l2 : Int} {l3 : Int} {l4 : AV} {l5 : AV} {l6 : AV} : WP m183 39 [.inr (.inl l0), .inl l1, .inl l2, .inl l3, l4, l5, l6] [] σ Q = WP m183 40 [.inr (.inl l0), .inl l1, .inl l2, .inl l3, l4, l5, l6] [.inr (.inl l0)] σ Q := w_ld d183_39 rfl
theorem d183_40 : adec m183 40 = some (.invokevirtual 286, 3) := by decide +kernel
theorem s183_40 {l0 : Nat} {l1 : Int} {l2 : Int} {l3 : Int} {l4 : AV} {l5 : AV} {l6 : AV} : WP m183 40 [.inr (.inl l0), .inl l1, .inl l2, .inl l3, l4, l5, l6] [.inr (.inl 130)] σ Q = CA m181 [.inr (.inl 130)] σ (fun v σ2 => WP m183 43 [.inr (.inl l0), .inl l1, .inl l2, .inl l3, l4, l5, l6] (v ++ []) σ2 Q) := (w_cV (k := 181) d183_40 (by decide +kernel) m181_at rfl rfl ⟨Nat.le_of_ble_eq_true rfl, Nat.le_of_ble_eq_true rfl, Nat.le_of_ble_eq_true rfl⟩ (by decide)).trans (g_and (isO_dec (by decide +kernel)))
theorem d183_43 : adec m183 43 = some (.istore 4, 2) := by decide +kernel
theorem s183_43 {l0 : Nat} {l1 : Int} {l2 : Int} {l3 : Int} {l4 : AV} {l5 : AV} {l6 : AV} {x0 : Int} : WP m183 43 [.inr (.inl l0), .inl l1, .inl l2, .inl l3, l4, l5, l6] [.inl x0] σ Q = WP m183 45 [.inr (.inl l0), .inl l1, .inl l2, .inl l3, .inl x0, l5, l6] [] σ Q := w_st1 (j := 4) d183_43 rfl (Nat.le_of_ble_eq_true rfl) rfl
theorem d183_45 : adec m183 45 = some (.aload_n 0, 1) := by decide +kernel
theorem s183_45 {l0 : Nat} {l1 : Int} {l2 : Int} {l3 : Int} {l4 : Int} {l5 : AV} {l6 : AV} : WP m183 45 [.inr (.inl l0), .inl l1, .inl l2, .inl l3, .inl l4, l5, l6] [] σ Q = WP m183 46 [.inr (.inl l0), .inl l1, .inl l2, .inl l3, .inl l4, l5, l6] [.inr (.inl l0)] σ Q := w_ld d183_45 rfl
theorem d183_46 : adec m183 46 = some (.iload_n 2, 1) := by decide +kernel
theorem s183_46 {l0 : Nat} {l1 : Int} {l2 : Int} {l3 : Int} {l4 : Int} {l5 : AV} {l6 : AV} {x0 : Nat} : WP m183 46 [.inr (.inl l0), .inl l1, .inl l2, .inl l3, .inl l4, l5, l6] [.inr (.inl x0)] σ Q = WP m183 47 [.inr (.inl l0), .inl l1, .inl l2, .inl l3, .inl l4, l5, l6] [.inl l2, .inr (.inl x0)] σ Q := w_ld d183_46 rfl
theorem d183_47 : adec m183 47 = some (.iload 4, 2) := by decide +kernel
theorem s183_47 {l0 : Nat} {l1 : Int} {l2 : Int} {l3 : Int} {l4 : Int} {l5 : AV} {l6 : AV} {x0 : Nat} {x1 : Int} : WP m183 47 [.inr (.inl l0), .inl l1, .inl l2, .inl l3, .inl l4, l5, l6] [.inl x1, .inr (.inl x0)] σ Q = WP m183 49 [.inr (.inl l0), .inl l1, .inl l2, .inl l3, .inl l4, l5, l6] [.inl l4, .inl x1, .inr (.inl x0)] σ Q := w_ld d183_47 rfl
theorem d183_49 : adec m183 49 = some (.invokevirtual 283, 3) := by decide +kernel
theorem s183_49 {l0 : Nat} {l1 : Int} {l2 : Int} {l3 : Int} {l4 : Int} {l5 : AV} {l6 : AV} {x1 : Int} {x2 : Int} : WP m183 49 [.inr (.inl l0), .inl l1, .inl l2, .inl l3, .inl l4, l5, l6] [.inl x2, .inl x1, .inr (.inl 130)] σ Q = CA m180 [.inr (.inl 130), .inl x1, .inl x2] σ (fun v σ2 => WP m183 52 [.inr (.inl l0), .inl l1, .inl l2, .inl l3, .inl l4, l5, l6] (v ++ []) σ2 Q) := (w_cV (k := 180) d183_49 (by decide +kernel) m180_at rfl rfl ⟨Nat.le_of_ble_eq_true rfl, Nat.le_of_ble_eq_true rfl, Nat.le_of_ble_eq_true rfl⟩ (by decide)).trans (g_and (isO_dec (by decide +kernel)))
theorem d183_52 : adec m183 52 = some (.istore 5, 2) := by decide +kernel
theorem s183_52 {l0 : Nat} {l1 : Int} {l2 : Int} {l3 : Int} {l4 : Int} {l5 : AV} {l6 : AV} {x0 : Int} : WP m183 52 [.inr (.inl l0), .inl l1, .inl l2, .inl l3, .inl l4, l5, l6] [.inl x0] σ Q = WP m183 54 [.inr (.inl l0), .inl l1, .inl l2, .inl l3, .inl l4, .inl x0, l6] [] σ Q := w_st1 (j := 5) d183_52 rfl (Nat.le_of_ble_eq_true rfl) rfl
theorem d183_54 : adec m183 54 = some (.iload_n 1, 1) := by decide +kernel
theorem s183_54 {l0 : Nat} {l1 : Int} {l2 : Int} {l3 : Int} {l4 : Int} {l5 : Int} {l6 : AV} : WP m183 54 [.inr (.inl l0), .inl l1, .inl l2, .inl l3, .inl l4, .inl l5, l6] [] σ Q = WP m183 55 [.inr (.inl l0), .inl l1, .inl l2, .inl l3, .inl l4, .inl l5, l6] [.inl l1] σ Q := w_ld d183_54 rfl
theorem d183_55 : adec m183 55 = some (.iconst (4), 1) := by decide +kernel
theorem s183_55 {l0 : Nat} {l1 : Int} {l2 : Int} {l3 : Int} {l4 : Int} {l5 : Int} {l6 : AV} {x0 : Int} : WP m183 55 [.inr (.inl l0), .inl l1, .inl l2, .inl l3, .inl l4, .inl l5, l6] [.inl x0] σ Q = WP m183 56 [.inr (.inl l0), .inl l1, .inl l2, .inl l3, .inl l4, .inl l5, l6] [.inl (4), .inl x0] σ Q := w_iconst d183_55 (by decide)
theorem d183_56 : adec m183 56 = some (.if_icmp .ne (27), 3) := by decide +kernel
theorem s183_56 {l0 : Nat} {l1 : Int} {l2 : Int} {l3 : Int} {l4 : Int} {l5 : Int} {l6 : AV} {x0 : Int} {x1 : Int} : WP m183 56 [.inr (.inl l0), .inl l1, .inl l2, .inl l3, .inl l4, .inl l5, l6] [.inl x1, .inl x0] σ Q = (if x0 = x1 then WP m183 59 [.inr (.inl l0), .inl l1, .inl l2, .inl l3, .inl l4, .inl l5, l6] [] σ Q else WP m183 83 [.inr (.inl l0), .inl l1, .inl l2, .inl l3, .inl l4, .inl l5, l6] [] σ Q) := w_icne d183_56 (by decide)
theorem d183_59 : adec m183 59 = some (.aload_n 0, 1) := by decide +kernel
theorem s183_59 {l0 : Nat} {l1 : Int} {l2 : Int} {l3 : Int} {l4 : Int} {l5 : Int} {l6 : AV} : WP m183 59 [.inr (.inl l0), .inl l1, .inl l2, .inl l3, .inl l4, .inl l5, l6] [] σ Q = WP m183 60 [.inr (.inl l0), .inl l1, .inl l2, .inl l3, .inl l4, .inl l5, l6] [.inr (.inl l0)] σ Q := w_ld d183_59 rfl
theorem d183_60 : adec m183 60 = some (.aload_n 0, 1) := by decide +kernel
theorem s183_60 {l0 : Nat} {l1 : Int} {l2 : Int} {l3 : Int} {l4 : Int} {l5 : Int} {l6 : AV} {x0 : Nat} : WP m183 60 [.inr (.inl l0), .inl l1, .inl l2, .inl l3, .inl l4, .inl l5, l6] [.inr (.inl x0)] σ Q = WP m183 61 [.inr (.inl l0), .inl l1, .inl l2, .inl l3, .inl l4, .inl l5, l6] [.inr (.inl l0), .inr (.inl x0)] σ Q := w_ld d183_60 rfl
theorem d183_61 : adec m183 61 = some (.iload_n 3, 1) := by decide +kernel
theorem s183_61 {l0 : Nat} {l1 : Int} {l2 : Int} {l3 : Int} {l4 : Int} {l5 : Int} {l6 : AV} {x0 : Nat} {x1 : Nat} : WP m183 61 [.inr (.inl l0), .inl l1, .inl l2, .inl l3, .inl l4, .inl l5, l6] [.inr (.inl x1), .inr (.inl x0)] σ Q = WP m183 62 [.inr (.inl l0), .inl l1, .inl l2, .inl l3, .inl l4, .inl l5, l6] [.inl l3, .inr (.inl x1), .inr (.inl x0)] σ Q := w_ld d183_61 rfl
theorem d183_62 : adec m183 62 = some (.iload 4, 2) := by decide +kernel
theorem s183_62 {l0 : Nat} {l1 : Int} {l2 : Int} {l3 : Int} {l4 : Int} {l5 : Int} {l6 : AV} {x0 : Nat} {x1 : Nat} {x2 : Int} : WP m183 62 [.inr (.inl l0), .inl l1, .inl l2, .inl l3, .inl l4, .inl l5, l6] [.inl x2, .inr (.inl x1), .inr (.inl x0)] σ Q = WP m183 64 [.inr (.inl l0), .inl l1, .inl l2, .inl l3, .inl l4, .inl l5, l6] [.inl l4, .inl x2, .inr (.inl x1), .inr (.inl x0)] σ Q := w_ld d183_62 rfl
theorem d183_64 : adec m183 64 = some (.invokevirtual 283, 3) := by decide +kernel
theorem s183_64 {l0 : Nat} {l1 : Int} {l2 : Int} {l3 : Int} {l4 : Int} {l5 : Int} {l6 : AV} {x0 : Nat} {x2 : Int} {x3 : Int} : WP m183 64 [.inr (.inl l0), .inl l1, .inl l2, .inl l3, .inl l4, .inl l5, l6] [.inl x3, .inl x2, .inr (.inl 130), .inr (.inl x0)] σ Q = CA m180 [.inr (.inl 130), .inl x2, .inl x3] σ (fun v σ2 => WP m183 67 [.inr (.inl l0), .inl l1, .inl l2, .inl l3, .inl l4, .inl l5, l6] (v ++ [.inr (.inl x0)]) σ2 Q) := (w_cV (k := 180) d183_64 (by decide +kernel) m180_at rfl rfl ⟨Nat.le_of_ble_eq_true rfl, Nat.le_of_ble_eq_true rfl, Nat.le_of_ble_eq_true rfl⟩ (by decide)).trans (g_and (isO_dec (by decide +kernel)))
theorem d183_67 : adec m183 67 = some (.aload_n 0, 1) := by decide +kernel
theorem s183_67 {l0 : Nat} {l1 : Int} {l2 : Int} {l3 : Int} {l4 : Int} {l5 : Int} {l6 : AV} {x0 : Nat} {x1 : Int} : WP m183 67 [.inr (.inl l0), .inl l1, .inl l2, .inl l3, .inl l4, .inl l5, l6] [.inl x1, .inr (.inl x0)] σ Q = WP m183 68 [.inr (.inl l0), .inl l1, .inl l2, .inl l3, .inl l4, .inl l5, l6] [.inr (.inl l0), .inl x1, .inr (.inl x0)] σ Q := w_ld d183_67 rfl
theorem d183_68 : adec m183 68 = some (.aload_n 0, 1) := by decide +kernel
theorem s183_68 {l0 : Nat} {l1 : Int} {l2 : Int} {l3 : Int} {l4 : Int} {l5 : Int} {l6 : AV} {x0 : Nat} {x1 : Int} {x2 : Nat} : WP m183 68 [.inr (.inl l0), .inl l1, .inl l2, .inl l3, .inl l4, .inl l5, l6] [.inr (.inl x2), .inl x1, .inr (.inl x0)] σ Q = WP m183 69 [.inr (.inl l0), .inl l1, .inl l2, .inl l3, .inl l4, .inl l5, l6] [.inr (.inl l0), .inr (.inl x2), .inl x1, .inr (.inl x0)] σ Q := w_ld d183_68 rfl
theorem d183_69 : adec m183 69 = some (.iload_n 2, 1) := by decide +kernel
theorem s183_69 {l0 : Nat} {l1 : Int} {l2 : Int} {l3 : Int} {l4 : Int} {l5 : Int} {l6 : AV} {x0 : Nat} {x1 : Int} {x2 : Nat} {x3 : Nat} : WP m183 69 [.inr (.inl l0), .inl l1, .inl l2, .inl l3, .inl l4, .inl l5, l6] [.inr (.inl x3), .inr (.inl x2), .inl x1, .inr (.inl x0)] σ Q = WP m183 70 [.inr (.inl l0), .inl l1, .inl l2, .inl l3, .inl l4, .inl l5, l6] [.inl l2, .inr (.inl x3), .inr (.inl x2), .inl x1, .inr (.inl x0)] σ Q := w_ld d183_69 rfl
theorem d183_70 : adec m183 70 = some (.iload_n 3, 1) := by decide +kernel
theorem s183_70 {l0 : Nat} {l1 : Int} {l2 : Int} {l3 : Int} {l4 : Int} {l5 : Int} {l6 : AV} {x0 : Nat} {x1 : Int} {x2 : Nat} {x3 : Nat} {x4 : Int} : WP m183 70 [.inr (.inl l0), .inl l1, .inl l2, .inl l3, .inl l4, .inl l5, l6] [.inl x4, .inr (.inl x3), .inr (.inl x2), .inl x1, .inr (.inl x0)] σ Q = WP m183 71 [.inr (.inl l0), .inl l1, .inl l2, .inl l3, .inl l4, .inl l5, l6] [.inl l3, .inl x4, .inr (.inl x3), .inr (.inl x2), .inl x1, .inr (.inl x0)] σ Q := w_ld d183_70 rfl
theorem d183_71 : adec m183 71 = some (.invokevirtual 283, 3) := by decide +kernel
theorem s183_71 {l0 : Nat} {l1 : Int} {l2 : Int} {l3 : Int} {l4 : Int} {l5 : Int} {l6 : AV} {x0 : Nat} {x1 : Int} {x2 : Nat} {x4 : Int} {x5 : Int} : WP m183 71 [.inr (.inl l0), .inl l1, .inl l2, .inl l3, .inl l4, .inl l5, l6] [.inl x5, .inl x4, .inr (.inl 130), .inr (.inl x2), .inl x1, .inr (.inl x0)] σ Q = CA m180 [.inr (.inl 130), .inl x4, .inl x5] σ (fun v σ2 => WP m183 74 [.inr (.inl l0), .inl l1, .inl l2, .inl l3, .inl l4, .inl l5, l6] (v ++ [.inr (.inl x2), .inl x1, .inr (.inl x0)]) σ2 Q) := (w_cV (k := 180) d183_71 (by decide +kernel) m180_at rfl rfl ⟨Nat.le_of_ble_eq_true rfl, Nat.le_of_ble_eq_true rfl, Nat.le_of_ble_eq_true rfl⟩ (by decide)).trans (g_and (isO_dec (by decide +kernel)))
theorem d183_74 : adec m183 74 = some (.iload 5, 2) := by decide +kernel
theorem s183_74 {l0 : Nat} {l1 : Int} {l2 : Int} {l3 : Int} {l4 : Int} {l5 : Int} {l6 : AV} {x0 : Nat} {x1 : Int} {x2 : Nat} {x3 : Int} : WP m183 74 [.inr (.inl l0), .inl l1, .inl l2, .inl l3, .inl l4, .inl l5, l6] [.inl x3, .inr (.inl x2), .inl x1, .inr (.inl x0)] σ Q = WP m183 76 [.inr (.inl l0), .inl l1, .inl l2, .inl l3, .inl l4, .inl l5, l6] [.inl l5, .inl x3, .inr (.inl x2), .inl x1, .inr (.inl x0)] σ Q := w_ld d183_74 rfl
theorem d183_76 : adec m183 76 = some (.invokevirtual 283, 3) := by decide +kernel
theorem s183_76 {l0 : Nat} {l1 : Int} {l2 : Int} {l3 : Int} {l4 : Int} {l5 : Int} {l6 : AV} {x0 : Nat} {x1 : Int} {x3 : Int} {x4 : Int} : WP m183 76 [.inr (.inl l0), .inl l1, .inl l2, .inl l3, .inl l4, .inl l5, l6] [.inl x4, .inl x3, .inr (.inl 130), .inl x1, .inr (.inl x0)] σ Q = CA m180 [.inr (.inl 130), .inl x3, .inl x4] σ (fun v σ2 => WP m183 79 [.inr (.inl l0), .inl l1, .inl l2, .inl l3, .inl l4, .inl l5, l6] (v ++ [.inl x1, .inr (.inl x0)]) σ2 Q) := (w_cV (k := 180) d183_76 (by decide +kernel) m180_at rfl rfl ⟨Nat.le_of_ble_eq_true rfl, Nat.le_of_ble_eq_true rfl, Nat.le_of_ble_eq_true rfl⟩ (by decide)).trans (g_and (isO_dec (by decide +kernel)))
theorem d183_79 : adec m183 79 = some (.invokevirtual 283, 3) := by decide +kernel
theorem s183_79 {l0 : Nat} {l1 : Int} {l2 : Int} {l3 : Int} {l4 : Int} {l5 : Int} {l6 : AV} {x1 : Int} {x2 : Int} : WP m183 79 [.inr (.inl l0), .inl l1, .inl l2, .inl l3, .inl l4, .inl l5, l6] [.inl x2, .inl x1, .inr (.inl 130)] σ Q = CA m180 [.inr (.inl 130), .inl x1, .inl x2] σ (fun v σ2 => WP m183 82 [.inr (.inl l0), .inl l1, .inl l2, .inl l3, .inl l4, .inl l5, l6] (v ++ []) σ2 Q) := (w_cV (k := 180) d183_79 (by decide +kernel) m180_at rfl rfl ⟨Nat.le_of_ble_eq_true rfl, Nat.le_of_ble_eq_true rfl, Nat.le_of_ble_eq_true rfl⟩ (by decide)).trans (g_and (isO_dec (by decide +kernel)))
theorem d183_82 : adec m183 82 = some (.ireturn, 1) := by decide +kernel
theorem s183_82 {l0 : Nat} {l1 : Int} {l2 : Int} {l3 : Int} {l4 : Int} {l5 : Int} {l6 : AV} {x0 : Int} : WP m183 82 [.inr (.inl l0), .inl l1, .inl l2, .inl l3, .inl l4, .inl l5, l6] [.inl x0] σ Q = Q [.inl x0] σ := w_ri d183_82 rfl
theorem d183_83 : adec m183 83 = some (.aload_n 0, 1) := by decide +kernel
theorem s183_83 {l0 : Nat} {l1 : Int} {l2 : Int} {l3 : Int} {l4 : Int} {l5 : Int} {l6 : AV} : WP m183 83 [.inr (.inl l0), .inl l1, .inl l2, .inl l3, .inl l4, .inl l5, l6] [] σ Q = WP m183 84 [.inr (.inl l0), .inl l1, .inl l2, .inl l3, .inl l4, .inl l5, l6] [.inr (.inl l0)] σ Q := w_ld d183_83 rfl
theorem d183_84 : adec m183 84 = some (.iload_n 2, 1) := by decide +kernel
theorem s183_84 {l0 : Nat} {l1 : Int} {l2 : Int} {l3 : Int} {l4 : Int} {l5 : Int} {l6 : AV} {x0 : Nat} : WP m183 84 [.inr (.inl l0), .inl l1, .inl l2, .inl l3, .inl l4, .inl l5, l6] [.inr (.inl x0)] σ Q = WP m183 85 [.inr (.inl l0), .inl l1, .inl l2, .inl l3, .inl l4, .inl l5, l6] [.inl l2, .inr (.inl x0)] σ Q := w_ld d183_84 rfl
theorem d183_85 : adec m183 85 = some (.aload_n 0, 1) := by decide +kernel
theorem s183_85 {l0 : Nat} {l1 : Int} {l2 : Int} {l3 : Int} {l4 : Int} {l5 : Int} {l6 : AV} {x0 : Nat} {x1 : Int} : WP m183 85 [.inr (.inl l0), .inl l1, .inl l2, .inl l3, .inl l4, .inl l5, l6] [.inl x1, .inr (.inl x0)] σ Q = WP m183 86 [.inr (.inl l0), .inl l1, .inl l2, .inl l3, .inl l4, .inl l5, l6] [.inr (.inl l0), .inl x1, .inr (.inl x0)] σ Q := w_ld d183_85 rfl
theorem d183_86 : adec m183 86 = some (.iload_n 3, 1) := by decide +kernel
theorem s183_86 {l0 : Nat} {l1 : Int} {l2 : Int} {l3 : Int} {l4 : Int} {l5 : Int} {l6 : AV} {x0 : Nat} {x1 : Int} {x2 : Nat} : WP m183 86 [.inr (.inl l0), .inl l1, .inl l2, .inl l3, .inl l4, .inl l5, l6] [.inr (.inl x2), .inl x1, .inr (.inl x0)] σ Q = WP m183 87 [.inr (.inl l0), .inl l1, .inl l2, .inl l3, .inl l4, .inl l5, l6] [.inl l3, .inr (.inl x2), .inl x1, .inr (.inl x0)] σ Q := w_ld d183_86 rfl
theorem d183_87 : adec m183 87 = some (.iload 4, 2) := by decide +kernel
theorem s183_87 {l0 : Nat} {l1 : Int} {l2 : Int} {l3 : Int} {l4 : Int} {l5 : Int} {l6 : AV} {x0 : Nat} {x1 : Int} {x2 : Nat} {x3 : Int} : WP m183 87 [.inr (.inl l0), .inl l1, .inl l2, .inl l3, .inl l4, .inl l5, l6] [.inl x3, .inr (.inl x2), .inl x1, .inr (.inl x0)] σ Q = WP m183 89 [.inr (.inl l0), .inl l1, .inl l2, .inl l3, .inl l4, .inl l5, l6] [.inl l4, .inl x3, .inr (.inl x2), .inl x1, .inr (.inl x0)] σ Q := w_ld d183_87 rfl
theorem d183_89 : adec m183 89 = some (.invokevirtual 283, 3) := by decide +kernel
theorem s183_89 {l0 : Nat} {l1 : Int} {l2 : Int} {l3 : Int} {l4 : Int} {l5 : Int} {l6 : AV} {x0 : Nat} {x1 : Int} {x3 : Int} {x4 : Int} : WP m183 89 [.inr (.inl l0), .inl l1, .inl l2, .inl l3, .inl l4, .inl l5, l6] [.inl x4, .inl x3, .inr (.inl 130), .inl x1, .inr (.inl x0)] σ Q = CA m180 [.inr (.inl 130), .inl x3, .inl x4] σ (fun v σ2 => WP m183 92 [.inr (.inl l0), .inl l1, .inl l2, .inl l3, .inl l4, .inl l5, l6] (v ++ [.inl x1, .inr (.inl x0)]) σ2 Q) := (w_cV (k := 180) d183_89 (by decide +kernel) m180_at rfl rfl ⟨Nat.le_of_ble_eq_true rfl, Nat.le_of_ble_eq_true rfl, Nat.le_of_ble_eq_true rfl⟩ (by decide)).trans (g_and (isO_dec (by decide +kernel)))
theorem d183_92 : adec m183 92 = some (.invokevirtual 283, 3) := by decide +kernel
theorem s183_92 {l0 : Nat} {l1 : Int} {l2 : Int} {l3 : Int} {l4 : Int} {l5 : Int} {l6 : AV} {x1 : Int} {x2 : Int} : WP m183 92 [.inr (.inl l0), .inl l1, .inl l2, .inl l3, .inl l4, .inl l5, l6] [.inl x2, .inl x1, .inr (.inl 130)] σ Q = CA m180 [.inr (.inl 130), .inl x1, .inl x2] σ (fun v σ2 => WP m183 95 [.inr (.inl l0), .inl l1, .inl l2, .inl l3, .inl l4, .inl l5, l6] (v ++ []) σ2 Q) := (w_cV (k := 180) d183_92 (by decide +kernel) m180_at rfl rfl ⟨Nat.le_of_ble_eq_true rfl, Nat.le_of_ble_eq_true rfl, Nat.le_of_ble_eq_true rfl⟩ (by decide)).trans (g_and (isO_dec (by decide +kernel)))
theorem d183_95 : adec m183 95 = some (.istore 6, 2) := by decide +kernel
theorem s183_95 {l0 : Nat} {l1 : Int} {l2 : Int} {l3 : Int} {l4 : Int} {l5 : Int} {l6 : AV} {x0 : Int} : WP m183 95 [.inr (.inl l0), .inl l1, .inl l2, .inl l3, .inl l4, .inl l5, l6] [.inl x0] σ Q = WP m183 97 [.inr (.inl l0), .inl l1, .inl l2, .inl l3, .inl l4, .inl l5, .inl x0] [] σ Q := w_st1 (j := 6) d183_95 rfl (Nat.le_of_ble_eq_true rfl) rfl
theorem d183_97 : adec m183 97 = some (.aload_n 0, 1) := by decide +kernel
theorem s183_97 {l0 : Nat} {l1 : Int} {l2 : Int} {l3 : Int} {l4 : Int} {l5 : Int} {l6 : Int} : WP m183 97 [.inr (.inl l0), .inl l1, .inl l2, .inl l3, .inl l4, .inl l5, .inl l6] [] σ Q = WP m183 98 [.inr (.inl l0), .inl l1, .inl l2, .inl l3, .inl l4, .inl l5, .inl l6] [.inr (.inl l0)] σ Q := w_ld d183_97 rfl
theorem d183_98 : adec m183 98 = some (.iload 6, 2) := by decide +kernel
theorem s183_98 {l0 : Nat} {l1 : Int} {l2 : Int} {l3 : Int} {l4 : Int} {l5 : Int} {l6 : Int} {x0 : Nat} : WP m183 98 [.inr (.inl l0), .inl l1, .inl l2, .inl l3, .inl l4, .inl l5, .inl l6] [.inr (.inl x0)] σ Q = WP m183 100 [.inr (.inl l0), .inl l1, .inl l2, .inl l3, .inl l4, .inl l5, .inl l6] [.inl l6, .inr (.inl x0)] σ Q := w_ld d183_98 rfl
theorem d183_100 : adec m183 100 = some (.iload_n 1, 1) := by decide +kernel
theorem s183_100 {l0 : Nat} {l1 : Int} {l2 : Int} {l3 : Int} {l4 : Int} {l5 : Int} {l6 : Int} {x0 : Nat} {x1 : Int} : WP m183 100 [.inr (.inl l0), .inl l1, .inl l2, .inl l3, .inl l4, .inl l5, .inl l6] [.inl x1, .inr (.inl x0)] σ Q = WP m183 101 [.inr (.inl l0), .inl l1, .inl l2, .inl l3, .inl l4, .inl l5, .inl l6] [.inl l1, .inl x1, .inr (.inl x0)] σ Q := w_ld d183_100 rfl
theorem d183_101 : adec m183 101 = some (.iconst (3), 1) := by decide +kernel
theorem s183_101 {l0 : Nat} {l1 : Int} {l2 : Int} {l3 : Int} {l4 : Int} {l5 : Int} {l6 : Int} {x0 : Nat} {x1 : Int} {x2 : Int} : WP m183 101 [.inr (.inl l0), .inl l1, .inl l2, .inl l3, .inl l4, .inl l5, .inl l6] [.inl x2, .inl x1, .inr (.inl x0)] σ Q = WP m183 102 [.inr (.inl l0), .inl l1, .inl l2, .inl l3, .inl l4, .inl l5, .inl l6] [.inl (3), .inl x2, .inl x1, .inr (.inl x0)] σ Q := w_iconst d183_101 (by decide)
theorem d183_102 : adec m183 102 = some (.if_icmp .ne (18), 3) := by decide +kernel
theorem s183_102 {l0 : Nat} {l1 : Int} {l2 : Int} {l3 : Int} {l4 : Int} {l5 : Int} {l6 : Int} {x0 : Nat} {x1 : Int} {x2 : Int} {x3 : Int} : WP m183 102 [.inr (.inl l0), .inl l1, .inl l2, .inl l3, .inl l4, .inl l5, .inl l6] [.inl x3, .inl x2, .inl x1, .inr (.inl x0)] σ Q = (if x2 = x3 then WP m183 105 [.inr (.inl l0), .inl l1, .inl l2, .inl l3, .inl l4, .inl l5, .inl l6] [.inl x1, .inr (.inl x0)] σ Q else WP m183 120 [.inr (.inl l0), .inl l1, .inl l2, .inl l3, .inl l4, .inl l5, .inl l6] [.inl x1, .inr (.inl x0)] σ Q) := w_icne d183_102 (by decide)
theorem d183_105 : adec m183 105 = some (.aload_n 0, 1) := by decide +kernel
theorem s183_105 {l0 : Nat} {l1 : Int} {l2 : Int} {l3 : Int} {l4 : Int} {l5 : Int} {l6 : Int} {x0 : Nat} {x1 : Int} : WP m183 105 [.inr (.inl l0), .inl l1, .inl l2, .inl l3, .inl l4, .inl l5, .inl l6] [.inl x1, .inr (.inl x0)] σ Q = WP m183 106 [.inr (.inl l0), .inl l1, .inl l2, .inl l3, .inl l4, .inl l5, .inl l6] [.inr (.inl l0), .inl x1, .inr (.inl x0)] σ Q := w_ld d183_105 rfl
theorem d183_106 : adec m183 106 = some (.aload_n 0, 1) := by decide +kernel
theorem s183_106 {l0 : Nat} {l1 : Int} {l2 : Int} {l3 : Int} {l4 : Int} {l5 : Int} {l6 : Int} {x0 : Nat} {x1 : Int} {x2 : Nat} : WP m183 106 [.inr (.inl l0), .inl l1, .inl l2, .inl l3, .inl l4, .inl l5, .inl l6] [.inr (.inl x2), .inl x1, .inr (.inl x0)] σ Q = WP m183 107 [.inr (.inl l0), .inl l1, .inl l2, .inl l3, .inl l4, .inl l5, .inl l6] [.inr (.inl l0), .inr (.inl x2), .inl x1, .inr (.inl x0)] σ Q := w_ld d183_106 rfl
theorem d183_107 : adec m183 107 = some (.iload_n 2, 1) := by decide +kernel
theorem s183_107 {l0 : Nat} {l1 : Int} {l2 : Int} {l3 : Int} {l4 : Int} {l5 : Int} {l6 : Int} {x0 : Nat} {x1 : Int} {x2 : Nat} {x3 : Nat} : WP m183 107 [.inr (.inl l0), .inl l1, .inl l2, .inl l3, .inl l4, .inl l5, .inl l6] [.inr (.inl x3), .inr (.inl x2), .inl x1, .inr (.inl x0)] σ Q = WP m183 108 [.inr (.inl l0), .inl l1, .inl l2, .inl l3, .inl l4, .inl l5, .inl l6] [.inl l2, .inr (.inl x3), .inr (.inl x2), .inl x1, .inr (.inl x0)] σ Q := w_ld d183_107 rfl
theorem d183_108 : adec m183 108 = some (.iload_n 3, 1) := by decide +kernel
theorem s183_108 {l0 : Nat} {l1 : Int} {l2 : Int} {l3 : Int} {l4 : Int} {l5 : Int} {l6 : Int} {x0 : Nat} {x1 : Int} {x2 : Nat} {x3 : Nat} {x4 : Int} : WP m183 108 [.inr (.inl l0), .inl l1, .inl l2, .inl l3, .inl l4, .inl l5, .inl l6] [.inl x4, .inr (.inl x3), .inr (.inl x2), .inl x1, .inr (.inl x0)] σ Q = WP m183 109 [.inr (.inl l0), .inl l1, .inl l2, .inl l3, .inl l4, .inl l5, .inl l6] [.inl l3, .inl x4, .inr (.inl x3), .inr (.inl x2), .inl x1, .inr (.inl x0)] σ Q := w_ld d183_108 rfl
theorem d183_109 : adec m183 109 = some (.invokevirtual 283, 3) := by decide +kernel
theorem s183_109 {l0 : Nat} {l1 : Int} {l2 : Int} {l3 : Int} {l4 : Int} {l5 : Int} {l6 : Int} {x0 : Nat} {x1 : Int} {x2 : Nat} {x4 : Int} {x5 : Int} : WP m183 109 [.inr (.inl l0), .inl l1, .inl l2, .inl l3, .inl l4, .inl l5, .inl l6] [.inl x5, .inl x4, .inr (.inl 130), .inr (.inl x2), .inl x1, .inr (.inl x0)] σ Q = CA m180 [.inr (.inl 130), .inl x4, .inl x5] σ (fun v σ2 => WP m183 112 [.inr (.inl l0), .inl l1, .inl l2, .inl l3, .inl l4, .inl l5, .inl l6] (v ++ [.inr (.inl x2), .inl x1, .inr (.inl x0)]) σ2 Q) := (w_cV (k := 180) d183_109 (by decide +kernel) m180_at rfl rfl ⟨Nat.le_of_ble_eq_true rfl, Nat.le_of_ble_eq_true rfl, Nat.le_of_ble_eq_true rfl⟩ (by decide)).trans (g_and (isO_dec (by decide +kernel)))
theorem d183_112 : adec m183 112 = some (.iload 5, 2) := by decide +kernel
theorem s183_112 {l0 : Nat} {l1 : Int} {l2 : Int} {l3 : Int} {l4 : Int} {l5 : Int} {l6 : Int} {x0 : Nat} {x1 : Int} {x2 : Nat} {x3 : Int} : WP m183 112 [.inr (.inl l0), .inl l1, .inl l2, .inl l3, .inl l4, .inl l5, .inl l6] [.inl x3, .inr (.inl x2), .inl x1, .inr (.inl x0)] σ Q = WP m183 114 [.inr (.inl l0), .inl l1, .inl l2, .inl l3, .inl l4, .inl l5, .inl l6] [.inl l5, .inl x3, .inr (.inl x2), .inl x1, .inr (.inl x0)] σ Q := w_ld d183_112 rfl
theorem d183_114 : adec m183 114 = some (.invokevirtual 283, 3) := by decide +kernel
theorem s183_114 {l0 : Nat} {l1 : Int} {l2 : Int} {l3 : Int} {l4 : Int} {l5 : Int} {l6 : Int} {x0 : Nat} {x1 : Int} {x3 : Int} {x4 : Int} : WP m183 114 [.inr (.inl l0), .inl l1, .inl l2, .inl l3, .inl l4, .inl l5, .inl l6] [.inl x4, .inl x3, .inr (.inl 130), .inl x1, .inr (.inl x0)] σ Q = CA m180 [.inr (.inl 130), .inl x3, .inl x4] σ (fun v σ2 => WP m183 117 [.inr (.inl l0), .inl l1, .inl l2, .inl l3, .inl l4, .inl l5, .inl l6] (v ++ [.inl x1, .inr (.inl x0)]) σ2 Q) := (w_cV (k := 180) d183_114 (by decide +kernel) m180_at rfl rfl ⟨Nat.le_of_ble_eq_true rfl, Nat.le_of_ble_eq_true rfl, Nat.le_of_ble_eq_true rfl⟩ (by decide)).trans (g_and (isO_dec (by decide +kernel)))
theorem d183_117 : adec m183 117 = some (.goto (10), 3) := by decide +kernel
theorem s183_117 {l0 : Nat} {l1 : Int} {l2 : Int} {l3 : Int} {l4 : Int} {l5 : Int} {l6 : Int} {x0 : Nat} {x1 : Int} {x2 : Int} : WP m183 117 [.inr (.inl l0), .inl l1, .inl l2, .inl l3, .inl l4, .inl l5, .inl l6] [.inl x2, .inl x1, .inr (.inl x0)] σ Q = WP m183 127 [.inr (.inl l0), .inl l1, .inl l2, .inl l3, .inl l4, .inl l5, .inl l6] [.inl x2, .inl x1, .inr (.inl x0)] σ Q := w_goto d183_117 (by decide)
theorem d183_120 : adec m183 120 = some (.aload_n 0, 1) := by decide +kernel
theorem s183_120 {l0 : Nat} {l1 : Int} {l2 : Int} {l3 : Int} {l4 : Int} {l5 : Int} {l6 : Int} {x0 : Nat} {x1 : Int} : WP m183 120 [.inr (.inl l0), .inl l1, .inl l2, .inl l3, .inl l4, .inl l5, .inl l6] [.inl x1, .inr (.inl x0)] σ Q = WP m183 121 [.inr (.inl l0), .inl l1, .inl l2, .inl l3, .inl l4, .inl l5, .inl l6] [.inr (.inl l0), .inl x1, .inr (.inl x0)] σ Q := w_ld d183_120 rfl
theorem d183_121 : adec m183 121 = some (.iload_n 3, 1) := by decide +kernel
theorem s183_121 {l0 : Nat} {l1 : Int} {l2 : Int} {l3 : Int} {l4 : Int} {l5 : Int} {l6 : Int} {x0 : Nat} {x1 : Int} {x2 : Nat} : WP m183 121 [.inr (.inl l0), .inl l1, .inl l2, .inl l3, .inl l4, .inl l5, .inl l6] [.inr (.inl x2), .inl x1, .inr (.inl x0)] σ Q = WP m183 122 [.inr (.inl l0), .inl l1, .inl l2, .inl l3, .inl l4, .inl l5, .inl l6] [.inl l3, .inr (.inl x2), .inl x1, .inr (.inl x0)] σ Q := w_ld d183_121 rfl
theorem d183_122 : adec m183 122 = some (.iload 5, 2) := by decide +kernel
theorem s183_122 {l0 : Nat} {l1 : Int} {l2 : Int} {l3 : Int} {l4 : Int} {l5 : Int} {l6 : Int} {x0 : Nat} {x1 : Int} {x2 : Nat} {x3 : Int} : WP m183 122 [.inr (.inl l0), .inl l1, .inl l2, .inl l3, .inl l4, .inl l5, .inl l6] [.inl x3, .inr (.inl x2), .inl x1, .inr (.inl x0)] σ Q = WP m183 124 [.inr (.inl l0), .inl l1, .inl l2, .inl l3, .inl l4, .inl l5, .inl l6] [.inl l5, .inl x3, .inr (.inl x2), .inl x1, .inr (.inl x0)] σ Q := w_ld d183_122 rfl
theorem d183_124 : adec m183 124 = some (.invokevirtual 283, 3) := by decide +kernel
theorem s183_124 {l0 : Nat} {l1 : Int} {l2 : Int} {l3 : Int} {l4 : Int} {l5 : Int} {l6 : Int} {x0 : Nat} {x1 : Int} {x3 : Int} {x4 : Int} : WP m183 124 [.inr (.inl l0), .inl l1, .inl l2, .inl l3, .inl l4, .inl l5, .inl l6] [.inl x4, .inl x3, .inr (.inl 130), .inl x1, .inr (.inl x0)] σ Q = CA m180 [.inr (.inl 130), .inl x3, .inl x4] σ (fun v σ2 => WP m183 127 [.inr (.inl l0), .inl l1, .inl l2, .inl l3, .inl l4, .inl l5, .inl l6] (v ++ [.inl x1, .inr (.inl x0)]) σ2 Q) := (w_cV (k := 180) d183_124 (by decide +kernel) m180_at rfl rfl ⟨Nat.le_of_ble_eq_true rfl, Nat.le_of_ble_eq_true rfl, Nat.le_of_ble_eq_true rfl⟩ (by decide)).trans (g_and (isO_dec (by decide +kernel)))
theorem d183_127 : adec m183 127 = some (.invokevirtual 283, 3) := by decide +kernel
theorem s183_127 {l0 : Nat} {l1 : Int} {l2 : Int} {l3 : Int} {l4 : Int} {l5 : Int} {l6 : Int} {x1 : Int} {x2 : Int} : WP m183 127 [.inr (.inl l0), .inl l1, .inl l2, .inl l3, .inl l4, .inl l5, .inl l6] [.inl x2, .inl x1, .inr (.inl 130)] σ Q = CA m180 [.inr (.inl 130), .inl x1, .inl x2] σ (fun v σ2 => WP m183 130 [.inr (.inl l0), .inl l1, .inl l2, .inl l3, .inl l4, .inl l5, .inl l6] (v ++ []) σ2 Q) := (w_cV (k := 180) d183_127 (by decide +kernel) m180_at rfl rfl ⟨Nat.le_of_ble_eq_true rfl, Nat.le_of_ble_eq_true rfl, Nat.le_of_ble_eq_true rfl⟩ (by decide)).trans (g_and (isO_dec (by decide +kernel)))
theorem d183_130 : adec m183 130 = some (.ireturn, 1) := by decide +kernel
theorem s183_130 {l0 : Nat} {l1 : Int} {l2 : Int} {l3 : Int} {l4 : Int} {l5 : Int} {l6 : Int} {x0 : Int} : WP m183 130 [.inr (.inl l0), .inl l1, .inl l2, .inl l3, .inl l4, .inl l5, .inl l6] [.inl x0] σ Q = Q [.inl x0] σ := w_ri d183_130 rfl
theorem e183 {p0 : Nat} {p1 : Int} : CA m183 [.inr (.inl p0), .inl p1] σ Q = WP m183 0 [.inr (.inl p0), .inl p1, vU, vU, vU, vU, vU] [] σ Q := rfl
-- BinderPressModel.kindOfName(I)I
theorem d184_0 : adec m184 0 = some (.aload_n 0, 1) := by decide +kernel
theorem s184_0 {l0 : Nat} {l1 : Int} {l2 : AV} {l3 : AV} : WP m184 0 [.inr (.inl l0), .inl l1, l2, l3] [] σ Q = WP m184 1 [.inr (.inl l0), .inl l1, l2, l3] [.inr (.inl l0)] σ Q := w_ld d184_0 rfl
theorem d184_1 : adec m184 1 = some (.getfield 24, 3) := by decide +kernel
theorem s184_1 {l0 : Nat} {l1 : Int} {l2 : AV} {l3 : AV} : WP m184 1 [.inr (.inl l0), .inl l1, l2, l3] [.inr (.inl 130)] σ Q = WP m184 4 [.inr (.inl l0), .inl l1, l2, l3] [.inr (.inl 134)] σ Q := (w_getR (c := 10) (n := 6) d184_1 (by decide +kernel) (by decide +kernel)).trans (g_and ⟨isO_dec (by decide +kernel), by decide +kernel⟩)
theorem d184_4 : adec m184 4 = some (.iload_n 1, 1) := by decide +kernel
theorem s184_4 {l0 : Nat} {l1 : Int} {l2 : AV} {l3 : AV} {x0 : Nat} : WP m184 4 [.inr (.inl l0), .inl l1, l2, l3] [.inr (.inl x0)] σ Q = WP m184 5 [.inr (.inl l0), .inl l1, l2, l3] [.inl l1, .inr (.inl x0)] σ Q := w_ld d184_4 rfl
theorem d184_5 : adec m184 5 = some (.iaload, 1) := by decide +kernel
theorem s184_5 {l0 : Nat} {l1 : Int} {l2 : AV} {l3 : AV} {x0 : Nat} {x1 : Int} : WP m184 5 [.inr (.inl l0), .inl l1, l2, l3] [.inl x1, .inr (.inl x0)] σ Q = ((kdS x0 = 20 ∧ 0 ≤ x1 ∧ x1 < ln x0) ∧ WP m184 6 [.inr (.inl l0), .inl l1, l2, l3] [.inl (σ x0 x1.toNat)] σ Q) := w_iald d184_5
theorem d184_6 : adec m184 6 = some (.istore_n 2, 1) := by decide +kernel
theorem s184_6 {l0 : Nat} {l1 : Int} {l2 : AV} {l3 : AV} {x0 : Int} : WP m184 6 [.inr (.inl l0), .inl l1, l2, l3] [.inl x0] σ Q = WP m184 7 [.inr (.inl l0), .inl l1, .inl x0, l3] [] σ Q := w_st1 (j := 2) d184_6 rfl (Nat.le_of_ble_eq_true rfl) rfl
theorem d184_7 : adec m184 7 = some (.iload_n 1, 1) := by decide +kernel
theorem s184_7 {l0 : Nat} {l1 : Int} {l2 : Int} {l3 : AV} : WP m184 7 [.inr (.inl l0), .inl l1, .inl l2, l3] [] σ Q = WP m184 8 [.inr (.inl l0), .inl l1, .inl l2, l3] [.inl l1] σ Q := w_ld d184_7 rfl
theorem d184_8 : adec m184 8 = some (.iconst (1), 1) := by decide +kernel
theorem s184_8 {l0 : Nat} {l1 : Int} {l2 : Int} {l3 : AV} {x0 : Int} : WP m184 8 [.inr (.inl l0), .inl l1, .inl l2, l3] [.inl x0] σ Q = WP m184 9 [.inr (.inl l0), .inl l1, .inl l2, l3] [.inl (1), .inl x0] σ Q := w_iconst d184_8 (by decide)
theorem d184_9 : adec m184 9 = some (.isub, 1) := by decide +kernel
theorem s184_9 {l0 : Nat} {l1 : Int} {l2 : Int} {l3 : AV} {x0 : Int} {x1 : Int} : WP m184 9 [.inr (.inl l0), .inl l1, .inl l2, l3] [.inl x1, .inl x0] σ Q = (inI (x0 - x1) ∧ WP m184 10 [.inr (.inl l0), .inl l1, .inl l2, l3] [.inl (x0 - x1)] σ Q) := w_isub d184_9
theorem d184_10 : adec m184 10 = some (.istore_n 3, 1) := by decide +kernel
theorem s184_10 {l0 : Nat} {l1 : Int} {l2 : Int} {l3 : AV} {x0 : Int} : WP m184 10 [.inr (.inl l0), .inl l1, .inl l2, l3] [.inl x0] σ Q = WP m184 11 [.inr (.inl l0), .inl l1, .inl l2, .inl x0] [] σ Q := w_st1 (j := 3) d184_10 rfl (Nat.le_of_ble_eq_true rfl) rfl
theorem d184_11 : adec m184 11 = some (.iload_n 3, 1) := by decide +kernel
theorem s184_11 {l0 : Nat} {l1 : Int} {l2 : Int} {l3 : Int} : WP m184 11 [.inr (.inl l0), .inl l1, .inl l2, .inl l3] [] σ Q = WP m184 12 [.inr (.inl l0), .inl l1, .inl l2, .inl l3] [.inl l3] σ Q := w_ld d184_11 rfl
theorem d184_12 : adec m184 12 = some (.ifCond .lt (39), 3) := by decide +kernel
theorem s184_12 {l0 : Nat} {l1 : Int} {l2 : Int} {l3 : Int} {x0 : Int} : WP m184 12 [.inr (.inl l0), .inl l1, .inl l2, .inl l3] [.inl x0] σ Q = (if x0 < 0 then WP m184 51 [.inr (.inl l0), .inl l1, .inl l2, .inl l3] [] σ Q else WP m184 15 [.inr (.inl l0), .inl l1, .inl l2, .inl l3] [] σ Q) := w_iflt d184_12 (by decide)
theorem d184_15 : adec m184 15 = some (.aload_n 0, 1) := by decide +kernel
theorem s184_15 {l0 : Nat} {l1 : Int} {l2 : Int} {l3 : Int} : WP m184 15 [.inr (.inl l0), .inl l1, .inl l2, .inl l3] [] σ Q = WP m184 16 [.inr (.inl l0), .inl l1, .inl l2, .inl l3] [.inr (.inl l0)] σ Q := w_ld d184_15 rfl
theorem d184_16 : adec m184 16 = some (.getfield 24, 3) := by decide +kernel
theorem s184_16 {l0 : Nat} {l1 : Int} {l2 : Int} {l3 : Int} : WP m184 16 [.inr (.inl l0), .inl l1, .inl l2, .inl l3] [.inr (.inl 130)] σ Q = WP m184 19 [.inr (.inl l0), .inl l1, .inl l2, .inl l3] [.inr (.inl 134)] σ Q := (w_getR (c := 10) (n := 6) d184_16 (by decide +kernel) (by decide +kernel)).trans (g_and ⟨isO_dec (by decide +kernel), by decide +kernel⟩)
theorem d184_19 : adec m184 19 = some (.iload_n 3, 1) := by decide +kernel
theorem s184_19 {l0 : Nat} {l1 : Int} {l2 : Int} {l3 : Int} {x0 : Nat} : WP m184 19 [.inr (.inl l0), .inl l1, .inl l2, .inl l3] [.inr (.inl x0)] σ Q = WP m184 20 [.inr (.inl l0), .inl l1, .inl l2, .inl l3] [.inl l3, .inr (.inl x0)] σ Q := w_ld d184_19 rfl
theorem d184_20 : adec m184 20 = some (.iaload, 1) := by decide +kernel
theorem s184_20 {l0 : Nat} {l1 : Int} {l2 : Int} {l3 : Int} {x0 : Nat} {x1 : Int} : WP m184 20 [.inr (.inl l0), .inl l1, .inl l2, .inl l3] [.inl x1, .inr (.inl x0)] σ Q = ((kdS x0 = 20 ∧ 0 ≤ x1 ∧ x1 < ln x0) ∧ WP m184 21 [.inr (.inl l0), .inl l1, .inl l2, .inl l3] [.inl (σ x0 x1.toNat)] σ Q) := w_iald d184_20
theorem d184_21 : adec m184 21 = some (.sipush (1000), 3) := by decide +kernel
theorem s184_21 {l0 : Nat} {l1 : Int} {l2 : Int} {l3 : Int} {x0 : Int} : WP m184 21 [.inr (.inl l0), .inl l1, .inl l2, .inl l3] [.inl x0] σ Q = WP m184 24 [.inr (.inl l0), .inl l1, .inl l2, .inl l3] [.inl (1000), .inl x0] σ Q := w_sipush d184_21 (by decide)
theorem d184_24 : adec m184 24 = some (.iload_n 2, 1) := by decide +kernel
theorem s184_24 {l0 : Nat} {l1 : Int} {l2 : Int} {l3 : Int} {x0 : Int} {x1 : Int} : WP m184 24 [.inr (.inl l0), .inl l1, .inl l2, .inl l3] [.inl x1, .inl x0] σ Q = WP m184 25 [.inr (.inl l0), .inl l1, .inl l2, .inl l3] [.inl l2, .inl x1, .inl x0] σ Q := w_ld d184_24 rfl
theorem d184_25 : adec m184 25 = some (.iadd, 1) := by decide +kernel
theorem s184_25 {l0 : Nat} {l1 : Int} {l2 : Int} {l3 : Int} {x0 : Int} {x1 : Int} {x2 : Int} : WP m184 25 [.inr (.inl l0), .inl l1, .inl l2, .inl l3] [.inl x2, .inl x1, .inl x0] σ Q = (inI (x1 + x2) ∧ WP m184 26 [.inr (.inl l0), .inl l1, .inl l2, .inl l3] [.inl (x1 + x2), .inl x0] σ Q) := w_iadd d184_25
theorem d184_26 : adec m184 26 = some (.if_icmp .ne (19), 3) := by decide +kernel
theorem s184_26 {l0 : Nat} {l1 : Int} {l2 : Int} {l3 : Int} {x0 : Int} {x1 : Int} : WP m184 26 [.inr (.inl l0), .inl l1, .inl l2, .inl l3] [.inl x1, .inl x0] σ Q = (if x0 = x1 then WP m184 29 [.inr (.inl l0), .inl l1, .inl l2, .inl l3] [] σ Q else WP m184 45 [.inr (.inl l0), .inl l1, .inl l2, .inl l3] [] σ Q) := w_icne d184_26 (by decide)
theorem d184_29 : adec m184 29 = some (.aload_n 0, 1) := by decide +kernel
theorem s184_29 {l0 : Nat} {l1 : Int} {l2 : Int} {l3 : Int} : WP m184 29 [.inr (.inl l0), .inl l1, .inl l2, .inl l3] [] σ Q = WP m184 30 [.inr (.inl l0), .inl l1, .inl l2, .inl l3] [.inr (.inl l0)] σ Q := w_ld d184_29 rfl
theorem d184_30 : adec m184 30 = some (.iload_n 3, 1) := by decide +kernel
theorem s184_30 {l0 : Nat} {l1 : Int} {l2 : Int} {l3 : Int} {x0 : Nat} : WP m184 30 [.inr (.inl l0), .inl l1, .inl l2, .inl l3] [.inr (.inl x0)] σ Q = WP m184 31 [.inr (.inl l0), .inl l1, .inl l2, .inl l3] [.inl l3, .inr (.inl x0)] σ Q := w_ld d184_30 rfl
theorem d184_31 : adec m184 31 = some (.invokevirtual 165, 3) := by decide +kernel
theorem s184_31 {l0 : Nat} {l1 : Int} {l2 : Int} {l3 : Int} {x1 : Int} : WP m184 31 [.inr (.inl l0), .inl l1, .inl l2, .inl l3] [.inl x1, .inr (.inl 130)] σ Q = CA m149 [.inr (.inl 130), .inl x1] σ (fun v σ2 => WP m184 34 [.inr (.inl l0), .inl l1, .inl l2, .inl l3] (v ++ []) σ2 Q) := (w_cV (k := 149) d184_31 (by decide +kernel) m149_at rfl rfl ⟨Nat.le_of_ble_eq_true rfl, Nat.le_of_ble_eq_true rfl, Nat.le_of_ble_eq_true rfl⟩ (by decide)).trans (g_and (isO_dec (by decide +kernel)))
theorem d184_34 : adec m184 34 = some (.iload_n 1, 1) := by decide +kernel
theorem s184_34 {l0 : Nat} {l1 : Int} {l2 : Int} {l3 : Int} {x0 : Int} : WP m184 34 [.inr (.inl l0), .inl l1, .inl l2, .inl l3] [.inl x0] σ Q = WP m184 35 [.inr (.inl l0), .inl l1, .inl l2, .inl l3] [.inl l1, .inl x0] σ Q := w_ld d184_34 rfl
theorem d184_35 : adec m184 35 = some (.if_icmp .le (10), 3) := by decide +kernel
theorem s184_35 {l0 : Nat} {l1 : Int} {l2 : Int} {l3 : Int} {x0 : Int} {x1 : Int} : WP m184 35 [.inr (.inl l0), .inl l1, .inl l2, .inl l3] [.inl x1, .inl x0] σ Q = (if x0 ≤ x1 then WP m184 45 [.inr (.inl l0), .inl l1, .inl l2, .inl l3] [] σ Q else WP m184 38 [.inr (.inl l0), .inl l1, .inl l2, .inl l3] [] σ Q) := w_icle d184_35 (by decide)
theorem d184_38 : adec m184 38 = some (.aload_n 0, 1) := by decide +kernel
theorem s184_38 {l0 : Nat} {l1 : Int} {l2 : Int} {l3 : Int} : WP m184 38 [.inr (.inl l0), .inl l1, .inl l2, .inl l3] [] σ Q = WP m184 39 [.inr (.inl l0), .inl l1, .inl l2, .inl l3] [.inr (.inl l0)] σ Q := w_ld d184_38 rfl
theorem d184_39 : adec m184 39 = some (.getfield 69, 3) := by decide +kernel
theorem s184_39 {l0 : Nat} {l1 : Int} {l2 : Int} {l3 : Int} : WP m184 39 [.inr (.inl l0), .inl l1, .inl l2, .inl l3] [.inr (.inl 130)] σ Q = WP m184 42 [.inr (.inl l0), .inl l1, .inl l2, .inl l3] [.inr (.inl 149)] σ Q := (w_getR (c := 10) (n := 31) d184_39 (by decide +kernel) (by decide +kernel)).trans (g_and ⟨isO_dec (by decide +kernel), by decide +kernel⟩)
theorem d184_42 : adec m184 42 = some (.iload_n 3, 1) := by decide +kernel
theorem s184_42 {l0 : Nat} {l1 : Int} {l2 : Int} {l3 : Int} {x0 : Nat} : WP m184 42 [.inr (.inl l0), .inl l1, .inl l2, .inl l3] [.inr (.inl x0)] σ Q = WP m184 43 [.inr (.inl l0), .inl l1, .inl l2, .inl l3] [.inl l3, .inr (.inl x0)] σ Q := w_ld d184_42 rfl
theorem d184_43 : adec m184 43 = some (.iaload, 1) := by decide +kernel
theorem s184_43 {l0 : Nat} {l1 : Int} {l2 : Int} {l3 : Int} {x0 : Nat} {x1 : Int} : WP m184 43 [.inr (.inl l0), .inl l1, .inl l2, .inl l3] [.inl x1, .inr (.inl x0)] σ Q = ((kdS x0 = 20 ∧ 0 ≤ x1 ∧ x1 < ln x0) ∧ WP m184 44 [.inr (.inl l0), .inl l1, .inl l2, .inl l3] [.inl (σ x0 x1.toNat)] σ Q) := w_iald d184_43
theorem d184_44 : adec m184 44 = some (.ireturn, 1) := by decide +kernel
theorem s184_44 {l0 : Nat} {l1 : Int} {l2 : Int} {l3 : Int} {x0 : Int} : WP m184 44 [.inr (.inl l0), .inl l1, .inl l2, .inl l3] [.inl x0] σ Q = Q [.inl x0] σ := w_ri d184_44 rfl
theorem d184_45 : adec m184 45 = some (.iinc 3 (-1), 3) := by decide +kernel
theorem s184_45 {l0 : Nat} {l1 : Int} {l2 : Int} {l3 : Int} : WP m184 45 [.inr (.inl l0), .inl l1, .inl l2, .inl l3] [] σ Q = (inI (l3 + (-1)) ∧ WP m184 48 [.inr (.inl l0), .inl l1, .inl l2, .inl (l3 + (-1))] [] σ Q) := w_iinc d184_45 rfl rfl
theorem d184_48 : adec m184 48 = some (.goto (-37), 3) := by decide +kernel
theorem s184_48 {l0 : Nat} {l1 : Int} {l2 : Int} {l3 : Int} : WP m184 48 [.inr (.inl l0), .inl l1, .inl l2, .inl l3] [] σ Q = WP m184 11 [.inr (.inl l0), .inl l1, .inl l2, .inl l3] [] σ Q := w_goto d184_48 (by decide)
theorem d184_51 : adec m184 51 = some (.aload_n 0, 1) := by decide +kernel
theorem s184_51 {l0 : Nat} {l1 : Int} {l2 : Int} {l3 : Int} : WP m184 51 [.inr (.inl l0), .inl l1, .inl l2, .inl l3] [] σ Q = WP m184 52 [.inr (.inl l0), .inl l1, .inl l2, .inl l3] [.inr (.inl l0)] σ Q := w_ld d184_51 rfl
theorem d184_52 : adec m184 52 = some (.getfield 66, 3) := by decide +kernel
theorem s184_52 {l0 : Nat} {l1 : Int} {l2 : Int} {l3 : Int} : WP m184 52 [.inr (.inl l0), .inl l1, .inl l2, .inl l3] [.inr (.inl 130)] σ Q = WP m184 55 [.inr (.inl l0), .inl l1, .inl l2, .inl l3] [.inr (.inl 148)] σ Q := (w_getR (c := 10) (n := 30) d184_52 (by decide +kernel) (by decide +kernel)).trans (g_and ⟨isO_dec (by decide +kernel), by decide +kernel⟩)
theorem d184_55 : adec m184 55 = some (.iload_n 2, 1) := by decide +kernel
theorem s184_55 {l0 : Nat} {l1 : Int} {l2 : Int} {l3 : Int} {x0 : Nat} : WP m184 55 [.inr (.inl l0), .inl l1, .inl l2, .inl l3] [.inr (.inl x0)] σ Q = WP m184 56 [.inr (.inl l0), .inl l1, .inl l2, .inl l3] [.inl l2, .inr (.inl x0)] σ Q := w_ld d184_55 rfl
theorem d184_56 : adec m184 56 = some (.bipush (97), 2) := by decide +kernel
theorem s184_56 {l0 : Nat} {l1 : Int} {l2 : Int} {l3 : Int} {x0 : Nat} {x1 : Int} : WP m184 56 [.inr (.inl l0), .inl l1, .inl l2, .inl l3] [.inl x1, .inr (.inl x0)] σ Q = WP m184 58 [.inr (.inl l0), .inl l1, .inl l2, .inl l3] [.inl (97), .inl x1, .inr (.inl x0)] σ Q := w_bipush d184_56 (by decide)
theorem d184_58 : adec m184 58 = some (.isub, 1) := by decide +kernel
theorem s184_58 {l0 : Nat} {l1 : Int} {l2 : Int} {l3 : Int} {x0 : Nat} {x1 : Int} {x2 : Int} : WP m184 58 [.inr (.inl l0), .inl l1, .inl l2, .inl l3] [.inl x2, .inl x1, .inr (.inl x0)] σ Q = (inI (x1 - x2) ∧ WP m184 59 [.inr (.inl l0), .inl l1, .inl l2, .inl l3] [.inl (x1 - x2), .inr (.inl x0)] σ Q) := w_isub d184_58
theorem d184_59 : adec m184 59 = some (.iaload, 1) := by decide +kernel
theorem s184_59 {l0 : Nat} {l1 : Int} {l2 : Int} {l3 : Int} {x0 : Nat} {x1 : Int} : WP m184 59 [.inr (.inl l0), .inl l1, .inl l2, .inl l3] [.inl x1, .inr (.inl x0)] σ Q = ((kdS x0 = 20 ∧ 0 ≤ x1 ∧ x1 < ln x0) ∧ WP m184 60 [.inr (.inl l0), .inl l1, .inl l2, .inl l3] [.inl (σ x0 x1.toNat)] σ Q) := w_iald d184_59
theorem d184_60 : adec m184 60 = some (.ireturn, 1) := by decide +kernel
theorem s184_60 {l0 : Nat} {l1 : Int} {l2 : Int} {l3 : Int} {x0 : Int} : WP m184 60 [.inr (.inl l0), .inl l1, .inl l2, .inl l3] [.inl x0] σ Q = Q [.inl x0] σ := w_ri d184_60 rfl
theorem e184 {p0 : Nat} {p1 : Int} : CA m184 [.inr (.inl p0), .inl p1] σ Q = WP m184 0 [.inr (.inl p0), .inl p1, vU, vU] [] σ Q := rfl
-- BinderPressModel.meet(II)V
theorem d185_0 : adec m185 0 = some (.iconst (2), 1) := by decide +kernel
theorem s185_0 {l0 : Nat} {l1 : Int} {l2 : Int} {l3 : AV} {l4 : AV} {l5 : AV} {l6 : AV} : WP m185 0 [.inr (.inl l0), .inl l1, .inl l2, l3, l4, l5, l6] [] σ Q = WP m185 1 [.inr (.inl l0), .inl l1, .inl l2, l3, l4, l5, l6] [.inl (2)] σ Q := w_iconst d185_0 (by decide)
theorem d185_1 : adec m185 1 = some (.istore_n 3, 1) := by decide +kernel
theorem s185_1 {l0 : Nat} {l1 : Int} {l2 : Int} {l3 : AV} {l4 : AV} {l5 : AV} {l6 : AV} {x0 : Int} : WP m185 1 [.inr (.inl l0), .inl l1, .inl l2, l3, l4, l5, l6] [.inl x0] σ Q = WP m185 2 [.inr (.inl l0), .inl l1, .inl l2, .inl x0, l4, l5, l6] [] σ Q := w_st1 (j := 3) d185_1 rfl (Nat.le_of_ble_eq_true rfl) rfl
theorem d185_2 : adec m185 2 = some (.aload_n 0, 1) := by decide +kernel
theorem s185_2 {l0 : Nat} {l1 : Int} {l2 : Int} {l3 : Int} {l4 : AV} {l5 : AV} {l6 : AV} : WP m185 2 [.inr (.inl l0), .inl l1, .inl l2, .inl l3, l4, l5, l6] [] σ Q = WP m185 3 [.inr (.inl l0), .inl l1, .inl l2, .inl l3, l4, l5, l6] [.inr (.inl l0)] σ Q := w_ld d185_2 rfl
theorem d185_3 : adec m185 3 = some (.getfield 72, 3) := by decide +kernel
theorem s185_3 {l0 : Nat} {l1 : Int} {l2 : Int} {l3 : Int} {l4 : AV} {l5 : AV} {l6 : AV} : WP m185 3 [.inr (.inl l0), .inl l1, .inl l2, .inl l3, l4, l5, l6] [.inr (.inl 130)] σ Q = WP m185 6 [.inr (.inl l0), .inl l1, .inl l2, .inl l3, l4, l5, l6] [.inr (.inl 150)] σ Q := (w_getR (c := 10) (n := 32) d185_3 (by decide +kernel) (by decide +kernel)).trans (g_and ⟨isO_dec (by decide +kernel), by decide +kernel⟩)
theorem d185_6 : adec m185 6 = some (.iconst (0), 1) := by decide +kernel
theorem s185_6 {l0 : Nat} {l1 : Int} {l2 : Int} {l3 : Int} {l4 : AV} {l5 : AV} {l6 : AV} {x0 : Nat} : WP m185 6 [.inr (.inl l0), .inl l1, .inl l2, .inl l3, l4, l5, l6] [.inr (.inl x0)] σ Q = WP m185 7 [.inr (.inl l0), .inl l1, .inl l2, .inl l3, l4, l5, l6] [.inl (0), .inr (.inl x0)] σ Q := w_iconst d185_6 (by decide)
theorem d185_7 : adec m185 7 = some (.iload_n 1, 1) := by decide +kernel
theorem s185_7 {l0 : Nat} {l1 : Int} {l2 : Int} {l3 : Int} {l4 : AV} {l5 : AV} {l6 : AV} {x0 : Nat} {x1 : Int} : WP m185 7 [.inr (.inl l0), .inl l1, .inl l2, .inl l3, l4, l5, l6] [.inl x1, .inr (.inl x0)] σ Q = WP m185 8 [.inr (.inl l0), .inl l1, .inl l2, .inl l3, l4, l5, l6] [.inl l1, .inl x1, .inr (.inl x0)] σ Q := w_ld d185_7 rfl
theorem d185_8 : adec m185 8 = some (.iastore, 1) := by decide +kernel
theorem s185_8 {l0 : Nat} {l1 : Int} {l2 : Int} {l3 : Int} {l4 : AV} {l5 : AV} {l6 : AV} {x0 : Nat} {x1 : Int} {x2 : Int} : WP m185 8 [.inr (.inl l0), .inl l1, .inl l2, .inl l3, l4, l5, l6] [.inl x2, .inl x1, .inr (.inl x0)] σ Q = ((kdS x0 = 20 ∧ 0 ≤ x1 ∧ x1 < ln x0) ∧ WP m185 9 [.inr (.inl l0), .inl l1, .inl l2, .inl l3, l4, l5, l6] [] (aup σ x0 x1.toNat x2) Q) := w_iast d185_8
theorem d185_9 : adec m185 9 = some (.aload_n 0, 1) := by decide +kernel
theorem s185_9 {l0 : Nat} {l1 : Int} {l2 : Int} {l3 : Int} {l4 : AV} {l5 : AV} {l6 : AV} : WP m185 9 [.inr (.inl l0), .inl l1, .inl l2, .inl l3, l4, l5, l6] [] σ Q = WP m185 10 [.inr (.inl l0), .inl l1, .inl l2, .inl l3, l4, l5, l6] [.inr (.inl l0)] σ Q := w_ld d185_9 rfl
theorem d185_10 : adec m185 10 = some (.getfield 72, 3) := by decide +kernel
theorem s185_10 {l0 : Nat} {l1 : Int} {l2 : Int} {l3 : Int} {l4 : AV} {l5 : AV} {l6 : AV} : WP m185 10 [.inr (.inl l0), .inl l1, .inl l2, .inl l3, l4, l5, l6] [.inr (.inl 130)] σ Q = WP m185 13 [.inr (.inl l0), .inl l1, .inl l2, .inl l3, l4, l5, l6] [.inr (.inl 150)] σ Q := (w_getR (c := 10) (n := 32) d185_10 (by decide +kernel) (by decide +kernel)).trans (g_and ⟨isO_dec (by decide +kernel), by decide +kernel⟩)
theorem d185_13 : adec m185 13 = some (.iconst (1), 1) := by decide +kernel
theorem s185_13 {l0 : Nat} {l1 : Int} {l2 : Int} {l3 : Int} {l4 : AV} {l5 : AV} {l6 : AV} {x0 : Nat} : WP m185 13 [.inr (.inl l0), .inl l1, .inl l2, .inl l3, l4, l5, l6] [.inr (.inl x0)] σ Q = WP m185 14 [.inr (.inl l0), .inl l1, .inl l2, .inl l3, l4, l5, l6] [.inl (1), .inr (.inl x0)] σ Q := w_iconst d185_13 (by decide)
theorem d185_14 : adec m185 14 = some (.iload_n 2, 1) := by decide +kernel
theorem s185_14 {l0 : Nat} {l1 : Int} {l2 : Int} {l3 : Int} {l4 : AV} {l5 : AV} {l6 : AV} {x0 : Nat} {x1 : Int} : WP m185 14 [.inr (.inl l0), .inl l1, .inl l2, .inl l3, l4, l5, l6] [.inl x1, .inr (.inl x0)] σ Q = WP m185 15 [.inr (.inl l0), .inl l1, .inl l2, .inl l3, l4, l5, l6] [.inl l2, .inl x1, .inr (.inl x0)] σ Q := w_ld d185_14 rfl
theorem d185_15 : adec m185 15 = some (.iastore, 1) := by decide +kernel
theorem s185_15 {l0 : Nat} {l1 : Int} {l2 : Int} {l3 : Int} {l4 : AV} {l5 : AV} {l6 : AV} {x0 : Nat} {x1 : Int} {x2 : Int} : WP m185 15 [.inr (.inl l0), .inl l1, .inl l2, .inl l3, l4, l5, l6] [.inl x2, .inl x1, .inr (.inl x0)] σ Q = ((kdS x0 = 20 ∧ 0 ≤ x1 ∧ x1 < ln x0) ∧ WP m185 16 [.inr (.inl l0), .inl l1, .inl l2, .inl l3, l4, l5, l6] [] (aup σ x0 x1.toNat x2) Q) := w_iast d185_15
theorem d185_16 : adec m185 16 = some (.iload_n 3, 1) := by decide +kernel
theorem s185_16 {l0 : Nat} {l1 : Int} {l2 : Int} {l3 : Int} {l4 : AV} {l5 : AV} {l6 : AV} : WP m185 16 [.inr (.inl l0), .inl l1, .inl l2, .inl l3, l4, l5, l6] [] σ Q = WP m185 17 [.inr (.inl l0), .inl l1, .inl l2, .inl l3, l4, l5, l6] [.inl l3] σ Q := w_ld d185_16 rfl
theorem d185_17 : adec m185 17 = some (.ifCond .le (166), 3) := by decide +kernel
theorem s185_17 {l0 : Nat} {l1 : Int} {l2 : Int} {l3 : Int} {l4 : AV} {l5 : AV} {l6 : AV} {x0 : Int} : WP m185 17 [.inr (.inl l0), .inl l1, .inl l2, .inl l3, l4, l5, l6] [.inl x0] σ Q = (if x0 ≤ 0 then WP m185 183 [.inr (.inl l0), .inl l1, .inl l2, .inl l3, l4, l5, l6] [] σ Q else WP m185 20 [.inr (.inl l0), .inl l1, .inl l2, .inl l3, l4, l5, l6] [] σ Q) := w_ifle d185_17 (by decide)
theorem d185_20 : adec m185 20 = some (.iinc 3 (-2), 3) := by decide +kernel
theorem s185_20 {l0 : Nat} {l1 : Int} {l2 : Int} {l3 : Int} {l4 : AV} {l5 : AV} {l6 : AV} : WP m185 20 [.inr (.inl l0), .inl l1, .inl l2, .inl l3, l4, l5, l6] [] σ Q = (inI (l3 + (-2)) ∧ WP m185 23 [.inr (.inl l0), .inl l1, .inl l2, .inl (l3 + (-2)), l4, l5, l6] [] σ Q) := w_iinc d185_20 rfl rfl
theorem d185_23 : adec m185 23 = some (.aload_n 0, 1) := by decide +kernel
theorem s185_23 {l0 : Nat} {l1 : Int} {l2 : Int} {l3 : Int} {l4 : AV} {l5 : AV} {l6 : AV} : WP m185 23 [.inr (.inl l0), .inl l1, .inl l2, .inl l3, l4, l5, l6] [] σ Q = WP m185 24 [.inr (.inl l0), .inl l1, .inl l2, .inl l3, l4, l5, l6] [.inr (.inl l0)] σ Q := w_ld d185_23 rfl
theorem d185_24 : adec m185 24 = some (.aload_n 0, 1) := by decide +kernel
theorem s185_24 {l0 : Nat} {l1 : Int} {l2 : Int} {l3 : Int} {l4 : AV} {l5 : AV} {l6 : AV} {x0 : Nat} : WP m185 24 [.inr (.inl l0), .inl l1, .inl l2, .inl l3, l4, l5, l6] [.inr (.inl x0)] σ Q = WP m185 25 [.inr (.inl l0), .inl l1, .inl l2, .inl l3, l4, l5, l6] [.inr (.inl l0), .inr (.inl x0)] σ Q := w_ld d185_24 rfl
theorem d185_25 : adec m185 25 = some (.getfield 72, 3) := by decide +kernel
theorem s185_25 {l0 : Nat} {l1 : Int} {l2 : Int} {l3 : Int} {l4 : AV} {l5 : AV} {l6 : AV} {x0 : Nat} : WP m185 25 [.inr (.inl l0), .inl l1, .inl l2, .inl l3, l4, l5, l6] [.inr (.inl 130), .inr (.inl x0)] σ Q = WP m185 28 [.inr (.inl l0), .inl l1, .inl l2, .inl l3, l4, l5, l6] [.inr (.inl 150), .inr (.inl x0)] σ Q := (w_getR (c := 10) (n := 32) d185_25 (by decide +kernel) (by decide +kernel)).trans (g_and ⟨isO_dec (by decide +kernel), by decide +kernel⟩)
theorem d185_28 : adec m185 28 = some (.iload_n 3, 1) := by decide +kernel
theorem s185_28 {l0 : Nat} {l1 : Int} {l2 : Int} {l3 : Int} {l4 : AV} {l5 : AV} {l6 : AV} {x0 : Nat} {x1 : Nat} : WP m185 28 [.inr (.inl l0), .inl l1, .inl l2, .inl l3, l4, l5, l6] [.inr (.inl x1), .inr (.inl x0)] σ Q = WP m185 29 [.inr (.inl l0), .inl l1, .inl l2, .inl l3, l4, l5, l6] [.inl l3, .inr (.inl x1), .inr (.inl x0)] σ Q := w_ld d185_28 rfl
theorem d185_29 : adec m185 29 = some (.iaload, 1) := by decide +kernel
theorem s185_29 {l0 : Nat} {l1 : Int} {l2 : Int} {l3 : Int} {l4 : AV} {l5 : AV} {l6 : AV} {x0 : Nat} {x1 : Nat} {x2 : Int} : WP m185 29 [.inr (.inl l0), .inl l1, .inl l2, .inl l3, l4, l5, l6] [.inl x2, .inr (.inl x1), .inr (.inl x0)] σ Q = ((kdS x1 = 20 ∧ 0 ≤ x2 ∧ x2 < ln x1) ∧ WP m185 30 [.inr (.inl l0), .inl l1, .inl l2, .inl l3, l4, l5, l6] [.inl (σ x1 x2.toNat), .inr (.inl x0)] σ Q) := w_iald d185_29
theorem d185_30 : adec m185 30 = some (.invokevirtual 289, 3) := by decide +kernel
theorem s185_30 {l0 : Nat} {l1 : Int} {l2 : Int} {l3 : Int} {l4 : AV} {l5 : AV} {l6 : AV} {x1 : Int} : WP m185 30 [.inr (.inl l0), .inl l1, .inl l2, .inl l3, l4, l5, l6] [.inl x1, .inr (.inl 130)] σ Q = CA m182 [.inr (.inl 130), .inl x1] σ (fun v σ2 => WP m185 33 [.inr (.inl l0), .inl l1, .inl l2, .inl l3, l4, l5, l6] (v ++ []) σ2 Q) := (w_cV (k := 182) d185_30 (by decide +kernel) m182_at rfl rfl ⟨Nat.le_of_ble_eq_true rfl, Nat.le_of_ble_eq_true rfl, Nat.le_of_ble_eq_true rfl⟩ (by decide)).trans (g_and (isO_dec (by decide +kernel)))
theorem d185_33 : adec m185 33 = some (.istore 4, 2) := by decide +kernel
theorem s185_33 {l0 : Nat} {l1 : Int} {l2 : Int} {l3 : Int} {l4 : AV} {l5 : AV} {l6 : AV} {x0 : Int} : WP m185 33 [.inr (.inl l0), .inl l1, .inl l2, .inl l3, l4, l5, l6] [.inl x0] σ Q = WP m185 35 [.inr (.inl l0), .inl l1, .inl l2, .inl l3, .inl x0, l5, l6] [] σ Q := w_st1 (j := 4) d185_33 rfl (Nat.le_of_ble_eq_true rfl) rfl
theorem d185_35 : adec m185 35 = some (.aload_n 0, 1) := by decide +kernel
theorem s185_35 {l0 : Nat} {l1 : Int} {l2 : Int} {l3 : Int} {l4 : Int} {l5 : AV} {l6 : AV} : WP m185 35 [.inr (.inl l0), .inl l1, .inl l2, .inl l3, .inl l4, l5, l6] [] σ Q = WP m185 36 [.inr (.inl l0), .inl l1, .inl l2, .inl l3, .inl l4, l5, l6] [.inr (.inl l0)] σ Q := w_ld d185_35 rfl
theorem d185_36 : adec m185 36 = some (.aload_n 0, 1) := by decide +kernel
theorem s185_36 {l0 : Nat} {l1 : Int} {l2 : Int} {l3 : Int} {l4 : Int} {l5 : AV} {l6 : AV} {x0 : Nat} : WP m185 36 [.inr (.inl l0), .inl l1, .inl l2, .inl l3, .inl l4, l5, l6] [.inr (.inl x0)] σ Q = WP m185 37 [.inr (.inl l0), .inl l1, .inl l2, .inl l3, .inl l4, l5, l6] [.inr (.inl l0), .inr (.inl x0)] σ Q := w_ld d185_36 rfl
theorem d185_37 : adec m185 37 = some (.getfield 72, 3) := by decide +kernel
theorem s185_37 {l0 : Nat} {l1 : Int} {l2 : Int} {l3 : Int} {l4 : Int} {l5 : AV} {l6 : AV} {x0 : Nat} : WP m185 37 [.inr (.inl l0), .inl l1, .inl l2, .inl l3, .inl l4, l5, l6] [.inr (.inl 130), .inr (.inl x0)] σ Q = WP m185 40 [.inr (.inl l0), .inl l1, .inl l2, .inl l3, .inl l4, l5, l6] [.inr (.inl 150), .inr (.inl x0)] σ Q := (w_getR (c := 10) (n := 32) d185_37 (by decide +kernel) (by decide +kernel)).trans (g_and ⟨isO_dec (by decide +kernel), by decide +kernel⟩)
theorem d185_40 : adec m185 40 = some (.iload_n 3, 1) := by decide +kernel
theorem s185_40 {l0 : Nat} {l1 : Int} {l2 : Int} {l3 : Int} {l4 : Int} {l5 : AV} {l6 : AV} {x0 : Nat} {x1 : Nat} : WP m185 40 [.inr (.inl l0), .inl l1, .inl l2, .inl l3, .inl l4, l5, l6] [.inr (.inl x1), .inr (.inl x0)] σ Q = WP m185 41 [.inr (.inl l0), .inl l1, .inl l2, .inl l3, .inl l4, l5, l6] [.inl l3, .inr (.inl x1), .inr (.inl x0)] σ Q := w_ld d185_40 rfl
theorem d185_41 : adec m185 41 = some (.iconst (1), 1) := by decide +kernel
theorem s185_41 {l0 : Nat} {l1 : Int} {l2 : Int} {l3 : Int} {l4 : Int} {l5 : AV} {l6 : AV} {x0 : Nat} {x1 : Nat} {x2 : Int} : WP m185 41 [.inr (.inl l0), .inl l1, .inl l2, .inl l3, .inl l4, l5, l6] [.inl x2, .inr (.inl x1), .inr (.inl x0)] σ Q = WP m185 42 [.inr (.inl l0), .inl l1, .inl l2, .inl l3, .inl l4, l5, l6] [.inl (1), .inl x2, .inr (.inl x1), .inr (.inl x0)] σ Q := w_iconst d185_41 (by decide)
theorem d185_42 : adec m185 42 = some (.iadd, 1) := by decide +kernel
theorem s185_42 {l0 : Nat} {l1 : Int} {l2 : Int} {l3 : Int} {l4 : Int} {l5 : AV} {l6 : AV} {x0 : Nat} {x1 : Nat} {x2 : Int} {x3 : Int} : WP m185 42 [.inr (.inl l0), .inl l1, .inl l2, .inl l3, .inl l4, l5, l6] [.inl x3, .inl x2, .inr (.inl x1), .inr (.inl x0)] σ Q = (inI (x2 + x3) ∧ WP m185 43 [.inr (.inl l0), .inl l1, .inl l2, .inl l3, .inl l4, l5, l6] [.inl (x2 + x3), .inr (.inl x1), .inr (.inl x0)] σ Q) := w_iadd d185_42
theorem d185_43 : adec m185 43 = some (.iaload, 1) := by decide +kernel
theorem s185_43 {l0 : Nat} {l1 : Int} {l2 : Int} {l3 : Int} {l4 : Int} {l5 : AV} {l6 : AV} {x0 : Nat} {x1 : Nat} {x2 : Int} : WP m185 43 [.inr (.inl l0), .inl l1, .inl l2, .inl l3, .inl l4, l5, l6] [.inl x2, .inr (.inl x1), .inr (.inl x0)] σ Q = ((kdS x1 = 20 ∧ 0 ≤ x2 ∧ x2 < ln x1) ∧ WP m185 44 [.inr (.inl l0), .inl l1, .inl l2, .inl l3, .inl l4, l5, l6] [.inl (σ x1 x2.toNat), .inr (.inl x0)] σ Q) := w_iald d185_43
theorem d185_44 : adec m185 44 = some (.invokevirtual 289, 3) := by decide +kernel
theorem s185_44 {l0 : Nat} {l1 : Int} {l2 : Int} {l3 : Int} {l4 : Int} {l5 : AV} {l6 : AV} {x1 : Int} : WP m185 44 [.inr (.inl l0), .inl l1, .inl l2, .inl l3, .inl l4, l5, l6] [.inl x1, .inr (.inl 130)] σ Q = CA m182 [.inr (.inl 130), .inl x1] σ (fun v σ2 => WP m185 47 [.inr (.inl l0), .inl l1, .inl l2, .inl l3, .inl l4, l5, l6] (v ++ []) σ2 Q) := (w_cV (k := 182) d185_44 (by decide +kernel) m182_at rfl rfl ⟨Nat.le_of_ble_eq_true rfl, Nat.le_of_ble_eq_true rfl, Nat.le_of_ble_eq_true rfl⟩ (by decide)).trans (g_and (isO_dec (by decide +kernel)))
theorem d185_47 : adec m185 47 = some (.istore 5, 2) := by decide +kernel
theorem s185_47 {l0 : Nat} {l1 : Int} {l2 : Int} {l3 : Int} {l4 : Int} {l5 : AV} {l6 : AV} {x0 : Int} : WP m185 47 [.inr (.inl l0), .inl l1, .inl l2, .inl l3, .inl l4, l5, l6] [.inl x0] σ Q = WP m185 49 [.inr (.inl l0), .inl l1, .inl l2, .inl l3, .inl l4, .inl x0, l6] [] σ Q := w_st1 (j := 5) d185_47 rfl (Nat.le_of_ble_eq_true rfl) rfl
theorem d185_49 : adec m185 49 = some (.iload 4, 2) := by decide +kernel
theorem s185_49 {l0 : Nat} {l1 : Int} {l2 : Int} {l3 : Int} {l4 : Int} {l5 : Int} {l6 : AV} : WP m185 49 [.inr (.inl l0), .inl l1, .inl l2, .inl l3, .inl l4, .inl l5, l6] [] σ Q = WP m185 51 [.inr (.inl l0), .inl l1, .inl l2, .inl l3, .inl l4, .inl l5, l6] [.inl l4] σ Q := w_ld d185_49 rfl
theorem d185_51 : adec m185 51 = some (.iload 5, 2) := by decide +kernel
theorem s185_51 {l0 : Nat} {l1 : Int} {l2 : Int} {l3 : Int} {l4 : Int} {l5 : Int} {l6 : AV} {x0 : Int} : WP m185 51 [.inr (.inl l0), .inl l1, .inl l2, .inl l3, .inl l4, .inl l5, l6] [.inl x0] σ Q = WP m185 53 [.inr (.inl l0), .inl l1, .inl l2, .inl l3, .inl l4, .inl l5, l6] [.inl l5, .inl x0] σ Q := w_ld d185_51 rfl
theorem d185_53 : adec m185 53 = some (.if_icmp .eq (127), 3) := by decide +kernel
theorem s185_53 {l0 : Nat} {l1 : Int} {l2 : Int} {l3 : Int} {l4 : Int} {l5 : Int} {l6 : AV} {x0 : Int} {x1 : Int} : WP m185 53 [.inr (.inl l0), .inl l1, .inl l2, .inl l3, .inl l4, .inl l5, l6] [.inl x1, .inl x0] σ Q = (if x0 = x1 then WP m185 180 [.inr (.inl l0), .inl l1, .inl l2, .inl l3, .inl l4, .inl l5, l6] [] σ Q else WP m185 56 [.inr (.inl l0), .inl l1, .inl l2, .inl l3, .inl l4, .inl l5, l6] [] σ Q) := w_iceq d185_53 (by decide)
theorem d185_56 : adec m185 56 = some (.aload_n 0, 1) := by decide +kernel
theorem s185_56 {l0 : Nat} {l1 : Int} {l2 : Int} {l3 : Int} {l4 : Int} {l5 : Int} {l6 : AV} : WP m185 56 [.inr (.inl l0), .inl l1, .inl l2, .inl l3, .inl l4, .inl l5, l6] [] σ Q = WP m185 57 [.inr (.inl l0), .inl l1, .inl l2, .inl l3, .inl l4, .inl l5, l6] [.inr (.inl l0)] σ Q := w_ld d185_56 rfl
theorem d185_57 : adec m185 57 = some (.getfield 54, 3) := by decide +kernel
theorem s185_57 {l0 : Nat} {l1 : Int} {l2 : Int} {l3 : Int} {l4 : Int} {l5 : Int} {l6 : AV} : WP m185 57 [.inr (.inl l0), .inl l1, .inl l2, .inl l3, .inl l4, .inl l5, l6] [.inr (.inl 130)] σ Q = WP m185 60 [.inr (.inl l0), .inl l1, .inl l2, .inl l3, .inl l4, .inl l5, l6] [.inr (.inl 144)] σ Q := (w_getR (c := 10) (n := 25) d185_57 (by decide +kernel) (by decide +kernel)).trans (g_and ⟨isO_dec (by decide +kernel), by decide +kernel⟩)
theorem d185_60 : adec m185 60 = some (.iload 4, 2) := by decide +kernel
theorem s185_60 {l0 : Nat} {l1 : Int} {l2 : Int} {l3 : Int} {l4 : Int} {l5 : Int} {l6 : AV} {x0 : Nat} : WP m185 60 [.inr (.inl l0), .inl l1, .inl l2, .inl l3, .inl l4, .inl l5, l6] [.inr (.inl x0)] σ Q = WP m185 62 [.inr (.inl l0), .inl l1, .inl l2, .inl l3, .inl l4, .inl l5, l6] [.inl l4, .inr (.inl x0)] σ Q := w_ld d185_60 rfl
theorem d185_62 : adec m185 62 = some (.iaload, 1) := by decide +kernel
theorem s185_62 {l0 : Nat} {l1 : Int} {l2 : Int} {l3 : Int} {l4 : Int} {l5 : Int} {l6 : AV} {x0 : Nat} {x1 : Int} : WP m185 62 [.inr (.inl l0), .inl l1, .inl l2, .inl l3, .inl l4, .inl l5, l6] [.inl x1, .inr (.inl x0)] σ Q = ((kdS x0 = 20 ∧ 0 ≤ x1 ∧ x1 < ln x0) ∧ WP m185 63 [.inr (.inl l0), .inl l1, .inl l2, .inl l3, .inl l4, .inl l5, l6] [.inl (σ x0 x1.toNat)] σ Q) := w_iald d185_62
theorem d185_63 : adec m185 63 = some (.iconst (-1), 1) := by decide +kernel
theorem s185_63 {l0 : Nat} {l1 : Int} {l2 : Int} {l3 : Int} {l4 : Int} {l5 : Int} {l6 : AV} {x0 : Int} : WP m185 63 [.inr (.inl l0), .inl l1, .inl l2, .inl l3, .inl l4, .inl l5, l6] [.inl x0] σ Q = WP m185 64 [.inr (.inl l0), .inl l1, .inl l2, .inl l3, .inl l4, .inl l5, l6] [.inl (-1), .inl x0] σ Q := w_iconst d185_63 (by decide)
theorem d185_64 : adec m185 64 = some (.if_icmp .ne (7), 3) := by decide +kernel
theorem s185_64 {l0 : Nat} {l1 : Int} {l2 : Int} {l3 : Int} {l4 : Int} {l5 : Int} {l6 : AV} {x0 : Int} {x1 : Int} : WP m185 64 [.inr (.inl l0), .inl l1, .inl l2, .inl l3, .inl l4, .inl l5, l6] [.inl x1, .inl x0] σ Q = (if x0 = x1 then WP m185 67 [.inr (.inl l0), .inl l1, .inl l2, .inl l3, .inl l4, .inl l5, l6] [] σ Q else WP m185 71 [.inr (.inl l0), .inl l1, .inl l2, .inl l3, .inl l4, .inl l5, l6] [] σ Q) := w_icne d185_64 (by decide)
theorem d185_67 : adec m185 67 = some (.iconst (1), 1) := by decide +kernel
theorem s185_67 {l0 : Nat} {l1 : Int} {l2 : Int} {l3 : Int} {l4 : Int} {l5 : Int} {l6 : AV} : WP m185 67 [.inr (.inl l0), .inl l1, .inl l2, .inl l3, .inl l4, .inl l5, l6] [] σ Q = WP m185 68 [.inr (.inl l0), .inl l1, .inl l2, .inl l3, .inl l4, .inl l5, l6] [.inl (1)] σ Q := w_iconst d185_67 (by decide)
theorem d185_68 : adec m185 68 = some (.goto (4), 3) := by decide +kernel
theorem s185_68 {l0 : Nat} {l1 : Int} {l2 : Int} {l3 : Int} {l4 : Int} {l5 : Int} {l6 : AV} {x0 : Int} : WP m185 68 [.inr (.inl l0), .inl l1, .inl l2, .inl l3, .inl l4, .inl l5, l6] [.inl x0] σ Q = WP m185 72 [.inr (.inl l0), .inl l1, .inl l2, .inl l3, .inl l4, .inl l5, l6] [.inl x0] σ Q := w_goto d185_68 (by decide)
theorem d185_71 : adec m185 71 = some (.iconst (0), 1) := by decide +kernel
theorem s185_71 {l0 : Nat} {l1 : Int} {l2 : Int} {l3 : Int} {l4 : Int} {l5 : Int} {l6 : AV} : WP m185 71 [.inr (.inl l0), .inl l1, .inl l2, .inl l3, .inl l4, .inl l5, l6] [] σ Q = WP m185 72 [.inr (.inl l0), .inl l1, .inl l2, .inl l3, .inl l4, .inl l5, l6] [.inl (0)] σ Q := w_iconst d185_71 (by decide)
theorem d185_72 : adec m185 72 = some (.istore 6, 2) := by decide +kernel
theorem s185_72 {l0 : Nat} {l1 : Int} {l2 : Int} {l3 : Int} {l4 : Int} {l5 : Int} {l6 : AV} {x0 : Int} : WP m185 72 [.inr (.inl l0), .inl l1, .inl l2, .inl l3, .inl l4, .inl l5, l6] [.inl x0] σ Q = WP m185 74 [.inr (.inl l0), .inl l1, .inl l2, .inl l3, .inl l4, .inl l5, .inl x0] [] σ Q := w_st1 (j := 6) d185_72 rfl (Nat.le_of_ble_eq_true rfl) rfl
theorem d185_74 : adec m185 74 = some (.aload_n 0, 1) := by decide +kernel
theorem s185_74 {l0 : Nat} {l1 : Int} {l2 : Int} {l3 : Int} {l4 : Int} {l5 : Int} {l6 : Int} : WP m185 74 [.inr (.inl l0), .inl l1, .inl l2, .inl l3, .inl l4, .inl l5, .inl l6] [] σ Q = WP m185 75 [.inr (.inl l0), .inl l1, .inl l2, .inl l3, .inl l4, .inl l5, .inl l6] [.inr (.inl l0)] σ Q := w_ld d185_74 rfl
theorem d185_75 : adec m185 75 = some (.getfield 60, 3) := by decide +kernel
theorem s185_75 {l0 : Nat} {l1 : Int} {l2 : Int} {l3 : Int} {l4 : Int} {l5 : Int} {l6 : Int} : WP m185 75 [.inr (.inl l0), .inl l1, .inl l2, .inl l3, .inl l4, .inl l5, .inl l6] [.inr (.inl 130)] σ Q = WP m185 78 [.inr (.inl l0), .inl l1, .inl l2, .inl l3, .inl l4, .inl l5, .inl l6] [.inr (.inl 146)] σ Q := (w_getR (c := 10) (n := 27) d185_75 (by decide +kernel) (by decide +kernel)).trans (g_and ⟨isO_dec (by decide +kernel), by decide +kernel⟩)
theorem d185_78 : adec m185 78 = some (.iload 6, 2) := by decide +kernel
theorem s185_78 {l0 : Nat} {l1 : Int} {l2 : Int} {l3 : Int} {l4 : Int} {l5 : Int} {l6 : Int} {x0 : Nat} : WP m185 78 [.inr (.inl l0), .inl l1, .inl l2, .inl l3, .inl l4, .inl l5, .inl l6] [.inr (.inl x0)] σ Q = WP m185 80 [.inr (.inl l0), .inl l1, .inl l2, .inl l3, .inl l4, .inl l5, .inl l6] [.inl l6, .inr (.inl x0)] σ Q := w_ld d185_78 rfl
theorem d185_80 : adec m185 80 = some (.ifCond .eq (8), 3) := by decide +kernel
theorem s185_80 {l0 : Nat} {l1 : Int} {l2 : Int} {l3 : Int} {l4 : Int} {l5 : Int} {l6 : Int} {x0 : Nat} {x1 : Int} : WP m185 80 [.inr (.inl l0), .inl l1, .inl l2, .inl l3, .inl l4, .inl l5, .inl l6] [.inl x1, .inr (.inl x0)] σ Q = (if x1 = 0 then WP m185 88 [.inr (.inl l0), .inl l1, .inl l2, .inl l3, .inl l4, .inl l5, .inl l6] [.inr (.inl x0)] σ Q else WP m185 83 [.inr (.inl l0), .inl l1, .inl l2, .inl l3, .inl l4, .inl l5, .inl l6] [.inr (.inl x0)] σ Q) := w_ifeq d185_80 (by decide)
theorem d185_83 : adec m185 83 = some (.iload 4, 2) := by decide +kernel
theorem s185_83 {l0 : Nat} {l1 : Int} {l2 : Int} {l3 : Int} {l4 : Int} {l5 : Int} {l6 : Int} {x0 : Nat} : WP m185 83 [.inr (.inl l0), .inl l1, .inl l2, .inl l3, .inl l4, .inl l5, .inl l6] [.inr (.inl x0)] σ Q = WP m185 85 [.inr (.inl l0), .inl l1, .inl l2, .inl l3, .inl l4, .inl l5, .inl l6] [.inl l4, .inr (.inl x0)] σ Q := w_ld d185_83 rfl
theorem d185_85 : adec m185 85 = some (.goto (5), 3) := by decide +kernel
theorem s185_85 {l0 : Nat} {l1 : Int} {l2 : Int} {l3 : Int} {l4 : Int} {l5 : Int} {l6 : Int} {x0 : Nat} {x1 : Int} : WP m185 85 [.inr (.inl l0), .inl l1, .inl l2, .inl l3, .inl l4, .inl l5, .inl l6] [.inl x1, .inr (.inl x0)] σ Q = WP m185 90 [.inr (.inl l0), .inl l1, .inl l2, .inl l3, .inl l4, .inl l5, .inl l6] [.inl x1, .inr (.inl x0)] σ Q := w_goto d185_85 (by decide)
theorem d185_88 : adec m185 88 = some (.iload 5, 2) := by decide +kernel
theorem s185_88 {l0 : Nat} {l1 : Int} {l2 : Int} {l3 : Int} {l4 : Int} {l5 : Int} {l6 : Int} {x0 : Nat} : WP m185 88 [.inr (.inl l0), .inl l1, .inl l2, .inl l3, .inl l4, .inl l5, .inl l6] [.inr (.inl x0)] σ Q = WP m185 90 [.inr (.inl l0), .inl l1, .inl l2, .inl l3, .inl l4, .inl l5, .inl l6] [.inl l5, .inr (.inl x0)] σ Q := w_ld d185_88 rfl
theorem d185_90 : adec m185 90 = some (.iload 6, 2) := by decide +kernel
theorem s185_90 {l0 : Nat} {l1 : Int} {l2 : Int} {l3 : Int} {l4 : Int} {l5 : Int} {l6 : Int} {x0 : Nat} {x1 : Int} : WP m185 90 [.inr (.inl l0), .inl l1, .inl l2, .inl l3, .inl l4, .inl l5, .inl l6] [.inl x1, .inr (.inl x0)] σ Q = WP m185 92 [.inr (.inl l0), .inl l1, .inl l2, .inl l3, .inl l4, .inl l5, .inl l6] [.inl l6, .inl x1, .inr (.inl x0)] σ Q := w_ld d185_90 rfl
theorem d185_92 : adec m185 92 = some (.ifCond .eq (8), 3) := by decide +kernel
theorem s185_92 {l0 : Nat} {l1 : Int} {l2 : Int} {l3 : Int} {l4 : Int} {l5 : Int} {l6 : Int} {x0 : Nat} {x1 : Int} {x2 : Int} : WP m185 92 [.inr (.inl l0), .inl l1, .inl l2, .inl l3, .inl l4, .inl l5, .inl l6] [.inl x2, .inl x1, .inr (.inl x0)] σ Q = (if x2 = 0 then WP m185 100 [.inr (.inl l0), .inl l1, .inl l2, .inl l3, .inl l4, .inl l5, .inl l6] [.inl x1, .inr (.inl x0)] σ Q else WP m185 95 [.inr (.inl l0), .inl l1, .inl l2, .inl l3, .inl l4, .inl l5, .inl l6] [.inl x1, .inr (.inl x0)] σ Q) := w_ifeq d185_92 (by decide)
theorem d185_95 : adec m185 95 = some (.iload 5, 2) := by decide +kernel
theorem s185_95 {l0 : Nat} {l1 : Int} {l2 : Int} {l3 : Int} {l4 : Int} {l5 : Int} {l6 : Int} {x0 : Nat} {x1 : Int} : WP m185 95 [.inr (.inl l0), .inl l1, .inl l2, .inl l3, .inl l4, .inl l5, .inl l6] [.inl x1, .inr (.inl x0)] σ Q = WP m185 97 [.inr (.inl l0), .inl l1, .inl l2, .inl l3, .inl l4, .inl l5, .inl l6] [.inl l5, .inl x1, .inr (.inl x0)] σ Q := w_ld d185_95 rfl
theorem d185_97 : adec m185 97 = some (.goto (5), 3) := by decide +kernel
theorem s185_97 {l0 : Nat} {l1 : Int} {l2 : Int} {l3 : Int} {l4 : Int} {l5 : Int} {l6 : Int} {x0 : Nat} {x1 : Int} {x2 : Int} : WP m185 97 [.inr (.inl l0), .inl l1, .inl l2, .inl l3, .inl l4, .inl l5, .inl l6] [.inl x2, .inl x1, .inr (.inl x0)] σ Q = WP m185 102 [.inr (.inl l0), .inl l1, .inl l2, .inl l3, .inl l4, .inl l5, .inl l6] [.inl x2, .inl x1, .inr (.inl x0)] σ Q := w_goto d185_97 (by decide)
theorem d185_100 : adec m185 100 = some (.iload 4, 2) := by decide +kernel
theorem s185_100 {l0 : Nat} {l1 : Int} {l2 : Int} {l3 : Int} {l4 : Int} {l5 : Int} {l6 : Int} {x0 : Nat} {x1 : Int} : WP m185 100 [.inr (.inl l0), .inl l1, .inl l2, .inl l3, .inl l4, .inl l5, .inl l6] [.inl x1, .inr (.inl x0)] σ Q = WP m185 102 [.inr (.inl l0), .inl l1, .inl l2, .inl l3, .inl l4, .inl l5, .inl l6] [.inl l4, .inl x1, .inr (.inl x0)] σ Q := w_ld d185_100 rfl
theorem d185_102 : adec m185 102 = some (.iastore, 1) := by decide +kernel
theorem s185_102 {l0 : Nat} {l1 : Int} {l2 : Int} {l3 : Int} {l4 : Int} {l5 : Int} {l6 : Int} {x0 : Nat} {x1 : Int} {x2 : Int} : WP m185 102 [.inr (.inl l0), .inl l1, .inl l2, .inl l3, .inl l4, .inl l5, .inl l6] [.inl x2, .inl x1, .inr (.inl x0)] σ Q = ((kdS x0 = 20 ∧ 0 ≤ x1 ∧ x1 < ln x0) ∧ WP m185 103 [.inr (.inl l0), .inl l1, .inl l2, .inl l3, .inl l4, .inl l5, .inl l6] [] (aup σ x0 x1.toNat x2) Q) := w_iast d185_102
theorem d185_103 : adec m185 103 = some (.iload 6, 2) := by decide +kernel
theorem s185_103 {l0 : Nat} {l1 : Int} {l2 : Int} {l3 : Int} {l4 : Int} {l5 : Int} {l6 : Int} : WP m185 103 [.inr (.inl l0), .inl l1, .inl l2, .inl l3, .inl l4, .inl l5, .inl l6] [] σ Q = WP m185 105 [.inr (.inl l0), .inl l1, .inl l2, .inl l3, .inl l4, .inl l5, .inl l6] [.inl l6] σ Q := w_ld d185_103 rfl
theorem d185_105 : adec m185 105 = some (.ifCond .ne (75), 3) := by decide +kernel
theorem s185_105 {l0 : Nat} {l1 : Int} {l2 : Int} {l3 : Int} {l4 : Int} {l5 : Int} {l6 : Int} {x0 : Int} : WP m185 105 [.inr (.inl l0), .inl l1, .inl l2, .inl l3, .inl l4, .inl l5, .inl l6] [.inl x0] σ Q = (if x0 = 0 then WP m185 108 [.inr (.inl l0), .inl l1, .inl l2, .inl l3, .inl l4, .inl l5, .inl l6] [] σ Q else WP m185 180 [.inr (.inl l0), .inl l1, .inl l2, .inl l3, .inl l4, .inl l5, .inl l6] [] σ Q) := w_ifne d185_105 (by decide)
theorem d185_108 : adec m185 108 = some (.aload_n 0, 1) := by decide +kernel
theorem s185_108 {l0 : Nat} {l1 : Int} {l2 : Int} {l3 : Int} {l4 : Int} {l5 : Int} {l6 : Int} : WP m185 108 [.inr (.inl l0), .inl l1, .inl l2, .inl l3, .inl l4, .inl l5, .inl l6] [] σ Q = WP m185 109 [.inr (.inl l0), .inl l1, .inl l2, .inl l3, .inl l4, .inl l5, .inl l6] [.inr (.inl l0)] σ Q := w_ld d185_108 rfl
theorem d185_109 : adec m185 109 = some (.getfield 54, 3) := by decide +kernel
theorem s185_109 {l0 : Nat} {l1 : Int} {l2 : Int} {l3 : Int} {l4 : Int} {l5 : Int} {l6 : Int} : WP m185 109 [.inr (.inl l0), .inl l1, .inl l2, .inl l3, .inl l4, .inl l5, .inl l6] [.inr (.inl 130)] σ Q = WP m185 112 [.inr (.inl l0), .inl l1, .inl l2, .inl l3, .inl l4, .inl l5, .inl l6] [.inr (.inl 144)] σ Q := (w_getR (c := 10) (n := 25) d185_109 (by decide +kernel) (by decide +kernel)).trans (g_and ⟨isO_dec (by decide +kernel), by decide +kernel⟩)
theorem d185_112 : adec m185 112 = some (.iload 5, 2) := by decide +kernel
theorem s185_112 {l0 : Nat} {l1 : Int} {l2 : Int} {l3 : Int} {l4 : Int} {l5 : Int} {l6 : Int} {x0 : Nat} : WP m185 112 [.inr (.inl l0), .inl l1, .inl l2, .inl l3, .inl l4, .inl l5, .inl l6] [.inr (.inl x0)] σ Q = WP m185 114 [.inr (.inl l0), .inl l1, .inl l2, .inl l3, .inl l4, .inl l5, .inl l6] [.inl l5, .inr (.inl x0)] σ Q := w_ld d185_112 rfl
theorem d185_114 : adec m185 114 = some (.iaload, 1) := by decide +kernel
theorem s185_114 {l0 : Nat} {l1 : Int} {l2 : Int} {l3 : Int} {l4 : Int} {l5 : Int} {l6 : Int} {x0 : Nat} {x1 : Int} : WP m185 114 [.inr (.inl l0), .inl l1, .inl l2, .inl l3, .inl l4, .inl l5, .inl l6] [.inl x1, .inr (.inl x0)] σ Q = ((kdS x0 = 20 ∧ 0 ≤ x1 ∧ x1 < ln x0) ∧ WP m185 115 [.inr (.inl l0), .inl l1, .inl l2, .inl l3, .inl l4, .inl l5, .inl l6] [.inl (σ x0 x1.toNat)] σ Q) := w_iald d185_114
theorem d185_115 : adec m185 115 = some (.iconst (-1), 1) := by decide +kernel
theorem s185_115 {l0 : Nat} {l1 : Int} {l2 : Int} {l3 : Int} {l4 : Int} {l5 : Int} {l6 : Int} {x0 : Int} : WP m185 115 [.inr (.inl l0), .inl l1, .inl l2, .inl l3, .inl l4, .inl l5, .inl l6] [.inl x0] σ Q = WP m185 116 [.inr (.inl l0), .inl l1, .inl l2, .inl l3, .inl l4, .inl l5, .inl l6] [.inl (-1), .inl x0] σ Q := w_iconst d185_115 (by decide)
theorem d185_116 : adec m185 116 = some (.if_icmp .eq (64), 3) := by decide +kernel
theorem s185_116 {l0 : Nat} {l1 : Int} {l2 : Int} {l3 : Int} {l4 : Int} {l5 : Int} {l6 : Int} {x0 : Int} {x1 : Int} : WP m185 116 [.inr (.inl l0), .inl l1, .inl l2, .inl l3, .inl l4, .inl l5, .inl l6] [.inl x1, .inl x0] σ Q = (if x0 = x1 then WP m185 180 [.inr (.inl l0), .inl l1, .inl l2, .inl l3, .inl l4, .inl l5, .inl l6] [] σ Q else WP m185 119 [.inr (.inl l0), .inl l1, .inl l2, .inl l3, .inl l4, .inl l5, .inl l6] [] σ Q) := w_iceq d185_116 (by decide)
theorem d185_119 : adec m185 119 = some (.aload_n 0, 1) := by decide +kernel
theorem s185_119 {l0 : Nat} {l1 : Int} {l2 : Int} {l3 : Int} {l4 : Int} {l5 : Int} {l6 : Int} : WP m185 119 [.inr (.inl l0), .inl l1, .inl l2, .inl l3, .inl l4, .inl l5, .inl l6] [] σ Q = WP m185 120 [.inr (.inl l0), .inl l1, .inl l2, .inl l3, .inl l4, .inl l5, .inl l6] [.inr (.inl l0)] σ Q := w_ld d185_119 rfl
theorem d185_120 : adec m185 120 = some (.getfield 72, 3) := by decide +kernel
theorem s185_120 {l0 : Nat} {l1 : Int} {l2 : Int} {l3 : Int} {l4 : Int} {l5 : Int} {l6 : Int} : WP m185 120 [.inr (.inl l0), .inl l1, .inl l2, .inl l3, .inl l4, .inl l5, .inl l6] [.inr (.inl 130)] σ Q = WP m185 123 [.inr (.inl l0), .inl l1, .inl l2, .inl l3, .inl l4, .inl l5, .inl l6] [.inr (.inl 150)] σ Q := (w_getR (c := 10) (n := 32) d185_120 (by decide +kernel) (by decide +kernel)).trans (g_and ⟨isO_dec (by decide +kernel), by decide +kernel⟩)
theorem d185_123 : adec m185 123 = some (.iload_n 3, 1) := by decide +kernel
theorem s185_123 {l0 : Nat} {l1 : Int} {l2 : Int} {l3 : Int} {l4 : Int} {l5 : Int} {l6 : Int} {x0 : Nat} : WP m185 123 [.inr (.inl l0), .inl l1, .inl l2, .inl l3, .inl l4, .inl l5, .inl l6] [.inr (.inl x0)] σ Q = WP m185 124 [.inr (.inl l0), .inl l1, .inl l2, .inl l3, .inl l4, .inl l5, .inl l6] [.inl l3, .inr (.inl x0)] σ Q := w_ld d185_123 rfl
theorem d185_124 : adec m185 124 = some (.aload_n 0, 1) := by decide +kernel
theorem s185_124 {l0 : Nat} {l1 : Int} {l2 : Int} {l3 : Int} {l4 : Int} {l5 : Int} {l6 : Int} {x0 : Nat} {x1 : Int} : WP m185 124 [.inr (.inl l0), .inl l1, .inl l2, .inl l3, .inl l4, .inl l5, .inl l6] [.inl x1, .inr (.inl x0)] σ Q = WP m185 125 [.inr (.inl l0), .inl l1, .inl l2, .inl l3, .inl l4, .inl l5, .inl l6] [.inr (.inl l0), .inl x1, .inr (.inl x0)] σ Q := w_ld d185_124 rfl
theorem d185_125 : adec m185 125 = some (.getfield 54, 3) := by decide +kernel
theorem s185_125 {l0 : Nat} {l1 : Int} {l2 : Int} {l3 : Int} {l4 : Int} {l5 : Int} {l6 : Int} {x0 : Nat} {x1 : Int} : WP m185 125 [.inr (.inl l0), .inl l1, .inl l2, .inl l3, .inl l4, .inl l5, .inl l6] [.inr (.inl 130), .inl x1, .inr (.inl x0)] σ Q = WP m185 128 [.inr (.inl l0), .inl l1, .inl l2, .inl l3, .inl l4, .inl l5, .inl l6] [.inr (.inl 144), .inl x1, .inr (.inl x0)] σ Q := (w_getR (c := 10) (n := 25) d185_125 (by decide +kernel) (by decide +kernel)).trans (g_and ⟨isO_dec (by decide +kernel), by decide +kernel⟩)
theorem d185_128 : adec m185 128 = some (.iload 4, 2) := by decide +kernel
theorem s185_128 {l0 : Nat} {l1 : Int} {l2 : Int} {l3 : Int} {l4 : Int} {l5 : Int} {l6 : Int} {x0 : Nat} {x1 : Int} {x2 : Nat} : WP m185 128 [.inr (.inl l0), .inl l1, .inl l2, .inl l3, .inl l4, .inl l5, .inl l6] [.inr (.inl x2), .inl x1, .inr (.inl x0)] σ Q = WP m185 130 [.inr (.inl l0), .inl l1, .inl l2, .inl l3, .inl l4, .inl l5, .inl l6] [.inl l4, .inr (.inl x2), .inl x1, .inr (.inl x0)] σ Q := w_ld d185_128 rfl
theorem d185_130 : adec m185 130 = some (.iaload, 1) := by decide +kernel
theorem s185_130 {l0 : Nat} {l1 : Int} {l2 : Int} {l3 : Int} {l4 : Int} {l5 : Int} {l6 : Int} {x0 : Nat} {x1 : Int} {x2 : Nat} {x3 : Int} : WP m185 130 [.inr (.inl l0), .inl l1, .inl l2, .inl l3, .inl l4, .inl l5, .inl l6] [.inl x3, .inr (.inl x2), .inl x1, .inr (.inl x0)] σ Q = ((kdS x2 = 20 ∧ 0 ≤ x3 ∧ x3 < ln x2) ∧ WP m185 131 [.inr (.inl l0), .inl l1, .inl l2, .inl l3, .inl l4, .inl l5, .inl l6] [.inl (σ x2 x3.toNat), .inl x1, .inr (.inl x0)] σ Q) := w_iald d185_130
theorem d185_131 : adec m185 131 = some (.iastore, 1) := by decide +kernel
theorem s185_131 {l0 : Nat} {l1 : Int} {l2 : Int} {l3 : Int} {l4 : Int} {l5 : Int} {l6 : Int} {x0 : Nat} {x1 : Int} {x2 : Int} : WP m185 131 [.inr (.inl l0), .inl l1, .inl l2, .inl l3, .inl l4, .inl l5, .inl l6] [.inl x2, .inl x1, .inr (.inl x0)] σ Q = ((kdS x0 = 20 ∧ 0 ≤ x1 ∧ x1 < ln x0) ∧ WP m185 132 [.inr (.inl l0), .inl l1, .inl l2, .inl l3, .inl l4, .inl l5, .inl l6] [] (aup σ x0 x1.toNat x2) Q) := w_iast d185_131
theorem d185_132 : adec m185 132 = some (.aload_n 0, 1) := by decide +kernel
theorem s185_132 {l0 : Nat} {l1 : Int} {l2 : Int} {l3 : Int} {l4 : Int} {l5 : Int} {l6 : Int} : WP m185 132 [.inr (.inl l0), .inl l1, .inl l2, .inl l3, .inl l4, .inl l5, .inl l6] [] σ Q = WP m185 133 [.inr (.inl l0), .inl l1, .inl l2, .inl l3, .inl l4, .inl l5, .inl l6] [.inr (.inl l0)] σ Q := w_ld d185_132 rfl
theorem d185_133 : adec m185 133 = some (.getfield 72, 3) := by decide +kernel
theorem s185_133 {l0 : Nat} {l1 : Int} {l2 : Int} {l3 : Int} {l4 : Int} {l5 : Int} {l6 : Int} : WP m185 133 [.inr (.inl l0), .inl l1, .inl l2, .inl l3, .inl l4, .inl l5, .inl l6] [.inr (.inl 130)] σ Q = WP m185 136 [.inr (.inl l0), .inl l1, .inl l2, .inl l3, .inl l4, .inl l5, .inl l6] [.inr (.inl 150)] σ Q := (w_getR (c := 10) (n := 32) d185_133 (by decide +kernel) (by decide +kernel)).trans (g_and ⟨isO_dec (by decide +kernel), by decide +kernel⟩)
theorem d185_136 : adec m185 136 = some (.iload_n 3, 1) := by decide +kernel
theorem s185_136 {l0 : Nat} {l1 : Int} {l2 : Int} {l3 : Int} {l4 : Int} {l5 : Int} {l6 : Int} {x0 : Nat} : WP m185 136 [.inr (.inl l0), .inl l1, .inl l2, .inl l3, .inl l4, .inl l5, .inl l6] [.inr (.inl x0)] σ Q = WP m185 137 [.inr (.inl l0), .inl l1, .inl l2, .inl l3, .inl l4, .inl l5, .inl l6] [.inl l3, .inr (.inl x0)] σ Q := w_ld d185_136 rfl
theorem d185_137 : adec m185 137 = some (.iconst (1), 1) := by decide +kernel
theorem s185_137 {l0 : Nat} {l1 : Int} {l2 : Int} {l3 : Int} {l4 : Int} {l5 : Int} {l6 : Int} {x0 : Nat} {x1 : Int} : WP m185 137 [.inr (.inl l0), .inl l1, .inl l2, .inl l3, .inl l4, .inl l5, .inl l6] [.inl x1, .inr (.inl x0)] σ Q = WP m185 138 [.inr (.inl l0), .inl l1, .inl l2, .inl l3, .inl l4, .inl l5, .inl l6] [.inl (1), .inl x1, .inr (.inl x0)] σ Q := w_iconst d185_137 (by decide)
theorem d185_138 : adec m185 138 = some (.iadd, 1) := by decide +kernel
theorem s185_138 {l0 : Nat} {l1 : Int} {l2 : Int} {l3 : Int} {l4 : Int} {l5 : Int} {l6 : Int} {x0 : Nat} {x1 : Int} {x2 : Int} : WP m185 138 [.inr (.inl l0), .inl l1, .inl l2, .inl l3, .inl l4, .inl l5, .inl l6] [.inl x2, .inl x1, .inr (.inl x0)] σ Q = (inI (x1 + x2) ∧ WP m185 139 [.inr (.inl l0), .inl l1, .inl l2, .inl l3, .inl l4, .inl l5, .inl l6] [.inl (x1 + x2), .inr (.inl x0)] σ Q) := w_iadd d185_138
theorem d185_139 : adec m185 139 = some (.aload_n 0, 1) := by decide +kernel
theorem s185_139 {l0 : Nat} {l1 : Int} {l2 : Int} {l3 : Int} {l4 : Int} {l5 : Int} {l6 : Int} {x0 : Nat} {x1 : Int} : WP m185 139 [.inr (.inl l0), .inl l1, .inl l2, .inl l3, .inl l4, .inl l5, .inl l6] [.inl x1, .inr (.inl x0)] σ Q = WP m185 140 [.inr (.inl l0), .inl l1, .inl l2, .inl l3, .inl l4, .inl l5, .inl l6] [.inr (.inl l0), .inl x1, .inr (.inl x0)] σ Q := w_ld d185_139 rfl
theorem d185_140 : adec m185 140 = some (.getfield 54, 3) := by decide +kernel
theorem s185_140 {l0 : Nat} {l1 : Int} {l2 : Int} {l3 : Int} {l4 : Int} {l5 : Int} {l6 : Int} {x0 : Nat} {x1 : Int} : WP m185 140 [.inr (.inl l0), .inl l1, .inl l2, .inl l3, .inl l4, .inl l5, .inl l6] [.inr (.inl 130), .inl x1, .inr (.inl x0)] σ Q = WP m185 143 [.inr (.inl l0), .inl l1, .inl l2, .inl l3, .inl l4, .inl l5, .inl l6] [.inr (.inl 144), .inl x1, .inr (.inl x0)] σ Q := (w_getR (c := 10) (n := 25) d185_140 (by decide +kernel) (by decide +kernel)).trans (g_and ⟨isO_dec (by decide +kernel), by decide +kernel⟩)
theorem d185_143 : adec m185 143 = some (.iload 5, 2) := by decide +kernel
theorem s185_143 {l0 : Nat} {l1 : Int} {l2 : Int} {l3 : Int} {l4 : Int} {l5 : Int} {l6 : Int} {x0 : Nat} {x1 : Int} {x2 : Nat} : WP m185 143 [.inr (.inl l0), .inl l1, .inl l2, .inl l3, .inl l4, .inl l5, .inl l6] [.inr (.inl x2), .inl x1, .inr (.inl x0)] σ Q = WP m185 145 [.inr (.inl l0), .inl l1, .inl l2, .inl l3, .inl l4, .inl l5, .inl l6] [.inl l5, .inr (.inl x2), .inl x1, .inr (.inl x0)] σ Q := w_ld d185_143 rfl
theorem d185_145 : adec m185 145 = some (.iaload, 1) := by decide +kernel
theorem s185_145 {l0 : Nat} {l1 : Int} {l2 : Int} {l3 : Int} {l4 : Int} {l5 : Int} {l6 : Int} {x0 : Nat} {x1 : Int} {x2 : Nat} {x3 : Int} : WP m185 145 [.inr (.inl l0), .inl l1, .inl l2, .inl l3, .inl l4, .inl l5, .inl l6] [.inl x3, .inr (.inl x2), .inl x1, .inr (.inl x0)] σ Q = ((kdS x2 = 20 ∧ 0 ≤ x3 ∧ x3 < ln x2) ∧ WP m185 146 [.inr (.inl l0), .inl l1, .inl l2, .inl l3, .inl l4, .inl l5, .inl l6] [.inl (σ x2 x3.toNat), .inl x1, .inr (.inl x0)] σ Q) := w_iald d185_145
theorem d185_146 : adec m185 146 = some (.iastore, 1) := by decide +kernel
theorem s185_146 {l0 : Nat} {l1 : Int} {l2 : Int} {l3 : Int} {l4 : Int} {l5 : Int} {l6 : Int} {x0 : Nat} {x1 : Int} {x2 : Int} : WP m185 146 [.inr (.inl l0), .inl l1, .inl l2, .inl l3, .inl l4, .inl l5, .inl l6] [.inl x2, .inl x1, .inr (.inl x0)] σ Q = ((kdS x0 = 20 ∧ 0 ≤ x1 ∧ x1 < ln x0) ∧ WP m185 147 [.inr (.inl l0), .inl l1, .inl l2, .inl l3, .inl l4, .inl l5, .inl l6] [] (aup σ x0 x1.toNat x2) Q) := w_iast d185_146
theorem d185_147 : adec m185 147 = some (.aload_n 0, 1) := by decide +kernel
theorem s185_147 {l0 : Nat} {l1 : Int} {l2 : Int} {l3 : Int} {l4 : Int} {l5 : Int} {l6 : Int} : WP m185 147 [.inr (.inl l0), .inl l1, .inl l2, .inl l3, .inl l4, .inl l5, .inl l6] [] σ Q = WP m185 148 [.inr (.inl l0), .inl l1, .inl l2, .inl l3, .inl l4, .inl l5, .inl l6] [.inr (.inl l0)] σ Q := w_ld d185_147 rfl
theorem d185_148 : adec m185 148 = some (.getfield 72, 3) := by decide +kernel
theorem s185_148 {l0 : Nat} {l1 : Int} {l2 : Int} {l3 : Int} {l4 : Int} {l5 : Int} {l6 : Int} : WP m185 148 [.inr (.inl l0), .inl l1, .inl l2, .inl l3, .inl l4, .inl l5, .inl l6] [.inr (.inl 130)] σ Q = WP m185 151 [.inr (.inl l0), .inl l1, .inl l2, .inl l3, .inl l4, .inl l5, .inl l6] [.inr (.inl 150)] σ Q := (w_getR (c := 10) (n := 32) d185_148 (by decide +kernel) (by decide +kernel)).trans (g_and ⟨isO_dec (by decide +kernel), by decide +kernel⟩)
theorem d185_151 : adec m185 151 = some (.iload_n 3, 1) := by decide +kernel
theorem s185_151 {l0 : Nat} {l1 : Int} {l2 : Int} {l3 : Int} {l4 : Int} {l5 : Int} {l6 : Int} {x0 : Nat} : WP m185 151 [.inr (.inl l0), .inl l1, .inl l2, .inl l3, .inl l4, .inl l5, .inl l6] [.inr (.inl x0)] σ Q = WP m185 152 [.inr (.inl l0), .inl l1, .inl l2, .inl l3, .inl l4, .inl l5, .inl l6] [.inl l3, .inr (.inl x0)] σ Q := w_ld d185_151 rfl
theorem d185_152 : adec m185 152 = some (.iconst (2), 1) := by decide +kernel
theorem s185_152 {l0 : Nat} {l1 : Int} {l2 : Int} {l3 : Int} {l4 : Int} {l5 : Int} {l6 : Int} {x0 : Nat} {x1 : Int} : WP m185 152 [.inr (.inl l0), .inl l1, .inl l2, .inl l3, .inl l4, .inl l5, .inl l6] [.inl x1, .inr (.inl x0)] σ Q = WP m185 153 [.inr (.inl l0), .inl l1, .inl l2, .inl l3, .inl l4, .inl l5, .inl l6] [.inl (2), .inl x1, .inr (.inl x0)] σ Q := w_iconst d185_152 (by decide)
theorem d185_153 : adec m185 153 = some (.iadd, 1) := by decide +kernel
theorem s185_153 {l0 : Nat} {l1 : Int} {l2 : Int} {l3 : Int} {l4 : Int} {l5 : Int} {l6 : Int} {x0 : Nat} {x1 : Int} {x2 : Int} : WP m185 153 [.inr (.inl l0), .inl l1, .inl l2, .inl l3, .inl l4, .inl l5, .inl l6] [.inl x2, .inl x1, .inr (.inl x0)] σ Q = (inI (x1 + x2) ∧ WP m185 154 [.inr (.inl l0), .inl l1, .inl l2, .inl l3, .inl l4, .inl l5, .inl l6] [.inl (x1 + x2), .inr (.inl x0)] σ Q) := w_iadd d185_153
theorem d185_154 : adec m185 154 = some (.aload_n 0, 1) := by decide +kernel
theorem s185_154 {l0 : Nat} {l1 : Int} {l2 : Int} {l3 : Int} {l4 : Int} {l5 : Int} {l6 : Int} {x0 : Nat} {x1 : Int} : WP m185 154 [.inr (.inl l0), .inl l1, .inl l2, .inl l3, .inl l4, .inl l5, .inl l6] [.inl x1, .inr (.inl x0)] σ Q = WP m185 155 [.inr (.inl l0), .inl l1, .inl l2, .inl l3, .inl l4, .inl l5, .inl l6] [.inr (.inl l0), .inl x1, .inr (.inl x0)] σ Q := w_ld d185_154 rfl
theorem d185_155 : adec m185 155 = some (.getfield 57, 3) := by decide +kernel
theorem s185_155 {l0 : Nat} {l1 : Int} {l2 : Int} {l3 : Int} {l4 : Int} {l5 : Int} {l6 : Int} {x0 : Nat} {x1 : Int} : WP m185 155 [.inr (.inl l0), .inl l1, .inl l2, .inl l3, .inl l4, .inl l5, .inl l6] [.inr (.inl 130), .inl x1, .inr (.inl x0)] σ Q = WP m185 158 [.inr (.inl l0), .inl l1, .inl l2, .inl l3, .inl l4, .inl l5, .inl l6] [.inr (.inl 145), .inl x1, .inr (.inl x0)] σ Q := (w_getR (c := 10) (n := 26) d185_155 (by decide +kernel) (by decide +kernel)).trans (g_and ⟨isO_dec (by decide +kernel), by decide +kernel⟩)
theorem d185_158 : adec m185 158 = some (.iload 4, 2) := by decide +kernel
theorem s185_158 {l0 : Nat} {l1 : Int} {l2 : Int} {l3 : Int} {l4 : Int} {l5 : Int} {l6 : Int} {x0 : Nat} {x1 : Int} {x2 : Nat} : WP m185 158 [.inr (.inl l0), .inl l1, .inl l2, .inl l3, .inl l4, .inl l5, .inl l6] [.inr (.inl x2), .inl x1, .inr (.inl x0)] σ Q = WP m185 160 [.inr (.inl l0), .inl l1, .inl l2, .inl l3, .inl l4, .inl l5, .inl l6] [.inl l4, .inr (.inl x2), .inl x1, .inr (.inl x0)] σ Q := w_ld d185_158 rfl
theorem d185_160 : adec m185 160 = some (.iaload, 1) := by decide +kernel
theorem s185_160 {l0 : Nat} {l1 : Int} {l2 : Int} {l3 : Int} {l4 : Int} {l5 : Int} {l6 : Int} {x0 : Nat} {x1 : Int} {x2 : Nat} {x3 : Int} : WP m185 160 [.inr (.inl l0), .inl l1, .inl l2, .inl l3, .inl l4, .inl l5, .inl l6] [.inl x3, .inr (.inl x2), .inl x1, .inr (.inl x0)] σ Q = ((kdS x2 = 20 ∧ 0 ≤ x3 ∧ x3 < ln x2) ∧ WP m185 161 [.inr (.inl l0), .inl l1, .inl l2, .inl l3, .inl l4, .inl l5, .inl l6] [.inl (σ x2 x3.toNat), .inl x1, .inr (.inl x0)] σ Q) := w_iald d185_160
theorem d185_161 : adec m185 161 = some (.iastore, 1) := by decide +kernel
theorem s185_161 {l0 : Nat} {l1 : Int} {l2 : Int} {l3 : Int} {l4 : Int} {l5 : Int} {l6 : Int} {x0 : Nat} {x1 : Int} {x2 : Int} : WP m185 161 [.inr (.inl l0), .inl l1, .inl l2, .inl l3, .inl l4, .inl l5, .inl l6] [.inl x2, .inl x1, .inr (.inl x0)] σ Q = ((kdS x0 = 20 ∧ 0 ≤ x1 ∧ x1 < ln x0) ∧ WP m185 162 [.inr (.inl l0), .inl l1, .inl l2, .inl l3, .inl l4, .inl l5, .inl l6] [] (aup σ x0 x1.toNat x2) Q) := w_iast d185_161
theorem d185_162 : adec m185 162 = some (.aload_n 0, 1) := by decide +kernel
theorem s185_162 {l0 : Nat} {l1 : Int} {l2 : Int} {l3 : Int} {l4 : Int} {l5 : Int} {l6 : Int} : WP m185 162 [.inr (.inl l0), .inl l1, .inl l2, .inl l3, .inl l4, .inl l5, .inl l6] [] σ Q = WP m185 163 [.inr (.inl l0), .inl l1, .inl l2, .inl l3, .inl l4, .inl l5, .inl l6] [.inr (.inl l0)] σ Q := w_ld d185_162 rfl
theorem d185_163 : adec m185 163 = some (.getfield 72, 3) := by decide +kernel
theorem s185_163 {l0 : Nat} {l1 : Int} {l2 : Int} {l3 : Int} {l4 : Int} {l5 : Int} {l6 : Int} : WP m185 163 [.inr (.inl l0), .inl l1, .inl l2, .inl l3, .inl l4, .inl l5, .inl l6] [.inr (.inl 130)] σ Q = WP m185 166 [.inr (.inl l0), .inl l1, .inl l2, .inl l3, .inl l4, .inl l5, .inl l6] [.inr (.inl 150)] σ Q := (w_getR (c := 10) (n := 32) d185_163 (by decide +kernel) (by decide +kernel)).trans (g_and ⟨isO_dec (by decide +kernel), by decide +kernel⟩)
theorem d185_166 : adec m185 166 = some (.iload_n 3, 1) := by decide +kernel
theorem s185_166 {l0 : Nat} {l1 : Int} {l2 : Int} {l3 : Int} {l4 : Int} {l5 : Int} {l6 : Int} {x0 : Nat} : WP m185 166 [.inr (.inl l0), .inl l1, .inl l2, .inl l3, .inl l4, .inl l5, .inl l6] [.inr (.inl x0)] σ Q = WP m185 167 [.inr (.inl l0), .inl l1, .inl l2, .inl l3, .inl l4, .inl l5, .inl l6] [.inl l3, .inr (.inl x0)] σ Q := w_ld d185_166 rfl
theorem d185_167 : adec m185 167 = some (.iconst (3), 1) := by decide +kernel
theorem s185_167 {l0 : Nat} {l1 : Int} {l2 : Int} {l3 : Int} {l4 : Int} {l5 : Int} {l6 : Int} {x0 : Nat} {x1 : Int} : WP m185 167 [.inr (.inl l0), .inl l1, .inl l2, .inl l3, .inl l4, .inl l5, .inl l6] [.inl x1, .inr (.inl x0)] σ Q = WP m185 168 [.inr (.inl l0), .inl l1, .inl l2, .inl l3, .inl l4, .inl l5, .inl l6] [.inl (3), .inl x1, .inr (.inl x0)] σ Q := w_iconst d185_167 (by decide)
theorem d185_168 : adec m185 168 = some (.iadd, 1) := by decide +kernel
theorem s185_168 {l0 : Nat} {l1 : Int} {l2 : Int} {l3 : Int} {l4 : Int} {l5 : Int} {l6 : Int} {x0 : Nat} {x1 : Int} {x2 : Int} : WP m185 168 [.inr (.inl l0), .inl l1, .inl l2, .inl l3, .inl l4, .inl l5, .inl l6] [.inl x2, .inl x1, .inr (.inl x0)] σ Q = (inI (x1 + x2) ∧ WP m185 169 [.inr (.inl l0), .inl l1, .inl l2, .inl l3, .inl l4, .inl l5, .inl l6] [.inl (x1 + x2), .inr (.inl x0)] σ Q) := w_iadd d185_168
theorem d185_169 : adec m185 169 = some (.aload_n 0, 1) := by decide +kernel
theorem s185_169 {l0 : Nat} {l1 : Int} {l2 : Int} {l3 : Int} {l4 : Int} {l5 : Int} {l6 : Int} {x0 : Nat} {x1 : Int} : WP m185 169 [.inr (.inl l0), .inl l1, .inl l2, .inl l3, .inl l4, .inl l5, .inl l6] [.inl x1, .inr (.inl x0)] σ Q = WP m185 170 [.inr (.inl l0), .inl l1, .inl l2, .inl l3, .inl l4, .inl l5, .inl l6] [.inr (.inl l0), .inl x1, .inr (.inl x0)] σ Q := w_ld d185_169 rfl
theorem d185_170 : adec m185 170 = some (.getfield 57, 3) := by decide +kernel
theorem s185_170 {l0 : Nat} {l1 : Int} {l2 : Int} {l3 : Int} {l4 : Int} {l5 : Int} {l6 : Int} {x0 : Nat} {x1 : Int} : WP m185 170 [.inr (.inl l0), .inl l1, .inl l2, .inl l3, .inl l4, .inl l5, .inl l6] [.inr (.inl 130), .inl x1, .inr (.inl x0)] σ Q = WP m185 173 [.inr (.inl l0), .inl l1, .inl l2, .inl l3, .inl l4, .inl l5, .inl l6] [.inr (.inl 145), .inl x1, .inr (.inl x0)] σ Q := (w_getR (c := 10) (n := 26) d185_170 (by decide +kernel) (by decide +kernel)).trans (g_and ⟨isO_dec (by decide +kernel), by decide +kernel⟩)
theorem d185_173 : adec m185 173 = some (.iload 5, 2) := by decide +kernel
theorem s185_173 {l0 : Nat} {l1 : Int} {l2 : Int} {l3 : Int} {l4 : Int} {l5 : Int} {l6 : Int} {x0 : Nat} {x1 : Int} {x2 : Nat} : WP m185 173 [.inr (.inl l0), .inl l1, .inl l2, .inl l3, .inl l4, .inl l5, .inl l6] [.inr (.inl x2), .inl x1, .inr (.inl x0)] σ Q = WP m185 175 [.inr (.inl l0), .inl l1, .inl l2, .inl l3, .inl l4, .inl l5, .inl l6] [.inl l5, .inr (.inl x2), .inl x1, .inr (.inl x0)] σ Q := w_ld d185_173 rfl
theorem d185_175 : adec m185 175 = some (.iaload, 1) := by decide +kernel
theorem s185_175 {l0 : Nat} {l1 : Int} {l2 : Int} {l3 : Int} {l4 : Int} {l5 : Int} {l6 : Int} {x0 : Nat} {x1 : Int} {x2 : Nat} {x3 : Int} : WP m185 175 [.inr (.inl l0), .inl l1, .inl l2, .inl l3, .inl l4, .inl l5, .inl l6] [.inl x3, .inr (.inl x2), .inl x1, .inr (.inl x0)] σ Q = ((kdS x2 = 20 ∧ 0 ≤ x3 ∧ x3 < ln x2) ∧ WP m185 176 [.inr (.inl l0), .inl l1, .inl l2, .inl l3, .inl l4, .inl l5, .inl l6] [.inl (σ x2 x3.toNat), .inl x1, .inr (.inl x0)] σ Q) := w_iald d185_175
theorem d185_176 : adec m185 176 = some (.iastore, 1) := by decide +kernel
theorem s185_176 {l0 : Nat} {l1 : Int} {l2 : Int} {l3 : Int} {l4 : Int} {l5 : Int} {l6 : Int} {x0 : Nat} {x1 : Int} {x2 : Int} : WP m185 176 [.inr (.inl l0), .inl l1, .inl l2, .inl l3, .inl l4, .inl l5, .inl l6] [.inl x2, .inl x1, .inr (.inl x0)] σ Q = ((kdS x0 = 20 ∧ 0 ≤ x1 ∧ x1 < ln x0) ∧ WP m185 177 [.inr (.inl l0), .inl l1, .inl l2, .inl l3, .inl l4, .inl l5, .inl l6] [] (aup σ x0 x1.toNat x2) Q) := w_iast d185_176
theorem d185_177 : adec m185 177 = some (.iinc 3 (4), 3) := by decide +kernel
theorem s185_177 {l0 : Nat} {l1 : Int} {l2 : Int} {l3 : Int} {l4 : Int} {l5 : Int} {l6 : Int} : WP m185 177 [.inr (.inl l0), .inl l1, .inl l2, .inl l3, .inl l4, .inl l5, .inl l6] [] σ Q = (inI (l3 + (4)) ∧ WP m185 180 [.inr (.inl l0), .inl l1, .inl l2, .inl (l3 + (4)), .inl l4, .inl l5, .inl l6] [] σ Q) := w_iinc d185_177 rfl rfl
theorem d185_180 : adec m185 180 = some (.goto (-164), 3) := by decide +kernel
theorem s185_180 {l0 : Nat} {l1 : Int} {l2 : Int} {l3 : Int} {l4 : Int} {l5 : Int} {l6 : AV} : WP m185 180 [.inr (.inl l0), .inl l1, .inl l2, .inl l3, .inl l4, .inl l5, l6] [] σ Q = WP m185 16 [.inr (.inl l0), .inl l1, .inl l2, .inl l3, .inl l4, .inl l5, l6] [] σ Q := w_goto d185_180 (by decide)
theorem d185_183 : adec m185 183 = some (.return_, 1) := by decide +kernel
theorem s185_183 {l0 : Nat} {l1 : Int} {l2 : Int} {l3 : Int} {l4 : AV} {l5 : AV} {l6 : AV} : WP m185 183 [.inr (.inl l0), .inl l1, .inl l2, .inl l3, l4, l5, l6] [] σ Q = Q [] σ := w_rv d185_183 rfl
theorem e185 {p0 : Nat} {p1 : Int} {p2 : Int} : CA m185 [.inr (.inl p0), .inl p1, .inl p2] σ Q = WP m185 0 [.inr (.inl p0), .inl p1, .inl p2, vU, vU, vU, vU] [] σ Q := rfl
-- BinderPressModel.areSound()Z
theorem d186_0 : adec m186 0 = some (.iconst (1), 1) := by decide +kernel
theorem s186_0 {l0 : Nat} {l1 : AV} {l2 : AV} {l3 : AV} {l4 : AV} : WP m186 0 [.inr (.inl l0), l1, l2, l3, l4] [] σ Q = WP m186 1 [.inr (.inl l0), l1, l2, l3, l4] [.inl (1)] σ Q := w_iconst d186_0 (by decide)
theorem d186_1 : adec m186 1 = some (.istore_n 1, 1) := by decide +kernel
theorem s186_1 {l0 : Nat} {l1 : AV} {l2 : AV} {l3 : AV} {l4 : AV} {x0 : Int} : WP m186 1 [.inr (.inl l0), l1, l2, l3, l4] [.inl x0] σ Q = WP m186 2 [.inr (.inl l0), .inl x0, l2, l3, l4] [] σ Q := w_st1 (j := 1) d186_1 rfl (Nat.le_of_ble_eq_true rfl) rfl
theorem d186_2 : adec m186 2 = some (.iconst (0), 1) := by decide +kernel
theorem s186_2 {l0 : Nat} {l1 : Int} {l2 : AV} {l3 : AV} {l4 : AV} : WP m186 2 [.inr (.inl l0), .inl l1, l2, l3, l4] [] σ Q = WP m186 3 [.inr (.inl l0), .inl l1, l2, l3, l4] [.inl (0)] σ Q := w_iconst d186_2 (by decide)
theorem d186_3 : adec m186 3 = some (.istore_n 2, 1) := by decide +kernel
theorem s186_3 {l0 : Nat} {l1 : Int} {l2 : AV} {l3 : AV} {l4 : AV} {x0 : Int} : WP m186 3 [.inr (.inl l0), .inl l1, l2, l3, l4] [.inl x0] σ Q = WP m186 4 [.inr (.inl l0), .inl l1, .inl x0, l3, l4] [] σ Q := w_st1 (j := 2) d186_3 rfl (Nat.le_of_ble_eq_true rfl) rfl
theorem d186_4 : adec m186 4 = some (.iload_n 2, 1) := by decide +kernel
theorem s186_4 {l0 : Nat} {l1 : Int} {l2 : Int} {l3 : AV} {l4 : AV} : WP m186 4 [.inr (.inl l0), .inl l1, .inl l2, l3, l4] [] σ Q = WP m186 5 [.inr (.inl l0), .inl l1, .inl l2, l3, l4] [.inl l2] σ Q := w_ld d186_4 rfl
theorem d186_5 : adec m186 5 = some (.aload_n 0, 1) := by decide +kernel
theorem s186_5 {l0 : Nat} {l1 : Int} {l2 : Int} {l3 : AV} {l4 : AV} {x0 : Int} : WP m186 5 [.inr (.inl l0), .inl l1, .inl l2, l3, l4] [.inl x0] σ Q = WP m186 6 [.inr (.inl l0), .inl l1, .inl l2, l3, l4] [.inr (.inl l0), .inl x0] σ Q := w_ld d186_5 rfl
theorem d186_6 : adec m186 6 = some (.getfield 280, 3) := by decide +kernel
theorem s186_6 {l0 : Nat} {l1 : Int} {l2 : Int} {l3 : AV} {l4 : AV} {x0 : Int} : WP m186 6 [.inr (.inl l0), .inl l1, .inl l2, l3, l4] [.inr (.inl 130), .inl x0] σ Q = WP m186 9 [.inr (.inl l0), .inl l1, .inl l2, l3, l4] [.inl (σ 130 29), .inl x0] σ Q := (w_getI (c := 10) (n := 29) d186_6 (by decide +kernel) (by decide +kernel)).trans (g_and (isO_dec (by decide +kernel)))
theorem d186_9 : adec m186 9 = some (.if_icmp .ge (16), 3) := by decide +kernel
theorem s186_9 {l0 : Nat} {l1 : Int} {l2 : Int} {l3 : AV} {l4 : AV} {x0 : Int} {x1 : Int} : WP m186 9 [.inr (.inl l0), .inl l1, .inl l2, l3, l4] [.inl x1, .inl x0] σ Q = (if x1 ≤ x0 then WP m186 25 [.inr (.inl l0), .inl l1, .inl l2, l3, l4] [] σ Q else WP m186 12 [.inr (.inl l0), .inl l1, .inl l2, l3, l4] [] σ Q) := w_icge d186_9 (by decide)
theorem d186_12 : adec m186 12 = some (.aload_n 0, 1) := by decide +kernel
theorem s186_12 {l0 : Nat} {l1 : Int} {l2 : Int} {l3 : AV} {l4 : AV} : WP m186 12 [.inr (.inl l0), .inl l1, .inl l2, l3, l4] [] σ Q = WP m186 13 [.inr (.inl l0), .inl l1, .inl l2, l3, l4] [.inr (.inl l0)] σ Q := w_ld d186_12 rfl
theorem d186_13 : adec m186 13 = some (.getfield 63, 3) := by decide +kernel
theorem s186_13 {l0 : Nat} {l1 : Int} {l2 : Int} {l3 : AV} {l4 : AV} : WP m186 13 [.inr (.inl l0), .inl l1, .inl l2, l3, l4] [.inr (.inl 130)] σ Q = WP m186 16 [.inr (.inl l0), .inl l1, .inl l2, l3, l4] [.inr (.inl 147)] σ Q := (w_getR (c := 10) (n := 28) d186_13 (by decide +kernel) (by decide +kernel)).trans (g_and ⟨isO_dec (by decide +kernel), by decide +kernel⟩)
theorem d186_16 : adec m186 16 = some (.iload_n 2, 1) := by decide +kernel
theorem s186_16 {l0 : Nat} {l1 : Int} {l2 : Int} {l3 : AV} {l4 : AV} {x0 : Nat} : WP m186 16 [.inr (.inl l0), .inl l1, .inl l2, l3, l4] [.inr (.inl x0)] σ Q = WP m186 17 [.inr (.inl l0), .inl l1, .inl l2, l3, l4] [.inl l2, .inr (.inl x0)] σ Q := w_ld d186_16 rfl
theorem d186_17 : adec m186 17 = some (.iconst (0), 1) := by decide +kernel
theorem s186_17 {l0 : Nat} {l1 : Int} {l2 : Int} {l3 : AV} {l4 : AV} {x0 : Nat} {x1 : Int} : WP m186 17 [.inr (.inl l0), .inl l1, .inl l2, l3, l4] [.inl x1, .inr (.inl x0)] σ Q = WP m186 18 [.inr (.inl l0), .inl l1, .inl l2, l3, l4] [.inl (0), .inl x1, .inr (.inl x0)] σ Q := w_iconst d186_17 (by decide)
theorem d186_18 : adec m186 18 = some (.bastore, 1) := by decide +kernel
theorem s186_18 {l0 : Nat} {l1 : Int} {l2 : Int} {l3 : AV} {l4 : AV} {x0 : Nat} {x1 : Int} {x2 : Int} : WP m186 18 [.inr (.inl l0), .inl l1, .inl l2, l3, l4] [.inl x2, .inl x1, .inr (.inl x0)] σ Q = ((kdS x0 = 21 ∧ 0 ≤ x1 ∧ x1 < ln x0 ∧ (x2 = 0 ∨ x2 = 1)) ∧ WP m186 19 [.inr (.inl l0), .inl l1, .inl l2, l3, l4] [] (aup σ x0 x1.toNat x2) Q) := w_zast d186_18
theorem d186_19 : adec m186 19 = some (.iinc 2 (1), 3) := by decide +kernel
theorem s186_19 {l0 : Nat} {l1 : Int} {l2 : Int} {l3 : AV} {l4 : AV} : WP m186 19 [.inr (.inl l0), .inl l1, .inl l2, l3, l4] [] σ Q = (inI (l2 + (1)) ∧ WP m186 22 [.inr (.inl l0), .inl l1, .inl (l2 + (1)), l3, l4] [] σ Q) := w_iinc d186_19 rfl rfl
theorem d186_22 : adec m186 22 = some (.goto (-18), 3) := by decide +kernel
theorem s186_22 {l0 : Nat} {l1 : Int} {l2 : Int} {l3 : AV} {l4 : AV} : WP m186 22 [.inr (.inl l0), .inl l1, .inl l2, l3, l4] [] σ Q = WP m186 4 [.inr (.inl l0), .inl l1, .inl l2, l3, l4] [] σ Q := w_goto d186_22 (by decide)
theorem d186_25 : adec m186 25 = some (.iconst (0), 1) := by decide +kernel
theorem s186_25 {l0 : Nat} {l1 : Int} {l2 : Int} {l3 : AV} {l4 : AV} : WP m186 25 [.inr (.inl l0), .inl l1, .inl l2, l3, l4] [] σ Q = WP m186 26 [.inr (.inl l0), .inl l1, .inl l2, l3, l4] [.inl (0)] σ Q := w_iconst d186_25 (by decide)
theorem d186_26 : adec m186 26 = some (.istore_n 2, 1) := by decide +kernel
theorem s186_26 {l0 : Nat} {l1 : Int} {l2 : Int} {l3 : AV} {l4 : AV} {x0 : Int} : WP m186 26 [.inr (.inl l0), .inl l1, .inl l2, l3, l4] [.inl x0] σ Q = WP m186 27 [.inr (.inl l0), .inl l1, .inl x0, l3, l4] [] σ Q := w_st1 (j := 2) d186_26 rfl (Nat.le_of_ble_eq_true rfl) rfl
theorem d186_27 : adec m186 27 = some (.iload_n 1, 1) := by decide +kernel
theorem s186_27 {l0 : Nat} {l1 : Int} {l2 : Int} {l3 : AV} {l4 : AV} : WP m186 27 [.inr (.inl l0), .inl l1, .inl l2, l3, l4] [] σ Q = WP m186 28 [.inr (.inl l0), .inl l1, .inl l2, l3, l4] [.inl l1] σ Q := w_ld d186_27 rfl
theorem d186_28 : adec m186 28 = some (.ifCond .eq (114), 3) := by decide +kernel
theorem s186_28 {l0 : Nat} {l1 : Int} {l2 : Int} {l3 : AV} {l4 : AV} {x0 : Int} : WP m186 28 [.inr (.inl l0), .inl l1, .inl l2, l3, l4] [.inl x0] σ Q = (if x0 = 0 then WP m186 142 [.inr (.inl l0), .inl l1, .inl l2, l3, l4] [] σ Q else WP m186 31 [.inr (.inl l0), .inl l1, .inl l2, l3, l4] [] σ Q) := w_ifeq d186_28 (by decide)
theorem d186_31 : adec m186 31 = some (.iconst (0), 1) := by decide +kernel
theorem s186_31 {l0 : Nat} {l1 : Int} {l2 : Int} {l3 : AV} {l4 : AV} : WP m186 31 [.inr (.inl l0), .inl l1, .inl l2, l3, l4] [] σ Q = WP m186 32 [.inr (.inl l0), .inl l1, .inl l2, l3, l4] [.inl (0)] σ Q := w_iconst d186_31 (by decide)
theorem d186_32 : adec m186 32 = some (.istore_n 1, 1) := by decide +kernel
theorem s186_32 {l0 : Nat} {l1 : Int} {l2 : Int} {l3 : AV} {l4 : AV} {x0 : Int} : WP m186 32 [.inr (.inl l0), .inl l1, .inl l2, l3, l4] [.inl x0] σ Q = WP m186 33 [.inr (.inl l0), .inl x0, .inl l2, l3, l4] [] σ Q := w_st1 (j := 1) d186_32 rfl (Nat.le_of_ble_eq_true rfl) rfl
theorem d186_33 : adec m186 33 = some (.aload_n 0, 1) := by decide +kernel
theorem s186_33 {l0 : Nat} {l1 : Int} {l2 : Int} {l3 : AV} {l4 : AV} : WP m186 33 [.inr (.inl l0), .inl l1, .inl l2, l3, l4] [] σ Q = WP m186 34 [.inr (.inl l0), .inl l1, .inl l2, l3, l4] [.inr (.inl l0)] σ Q := w_ld d186_33 rfl
theorem d186_34 : adec m186 34 = some (.getfield 280, 3) := by decide +kernel
theorem s186_34 {l0 : Nat} {l1 : Int} {l2 : Int} {l3 : AV} {l4 : AV} : WP m186 34 [.inr (.inl l0), .inl l1, .inl l2, l3, l4] [.inr (.inl 130)] σ Q = WP m186 37 [.inr (.inl l0), .inl l1, .inl l2, l3, l4] [.inl (σ 130 29)] σ Q := (w_getI (c := 10) (n := 29) d186_34 (by decide +kernel) (by decide +kernel)).trans (g_and (isO_dec (by decide +kernel)))
theorem d186_37 : adec m186 37 = some (.iconst (1), 1) := by decide +kernel
theorem s186_37 {l0 : Nat} {l1 : Int} {l2 : Int} {l3 : AV} {l4 : AV} {x0 : Int} : WP m186 37 [.inr (.inl l0), .inl l1, .inl l2, l3, l4] [.inl x0] σ Q = WP m186 38 [.inr (.inl l0), .inl l1, .inl l2, l3, l4] [.inl (1), .inl x0] σ Q := w_iconst d186_37 (by decide)
theorem d186_38 : adec m186 38 = some (.isub, 1) := by decide +kernel
theorem s186_38 {l0 : Nat} {l1 : Int} {l2 : Int} {l3 : AV} {l4 : AV} {x0 : Int} {x1 : Int} : WP m186 38 [.inr (.inl l0), .inl l1, .inl l2, l3, l4] [.inl x1, .inl x0] σ Q = (inI (x0 - x1) ∧ WP m186 39 [.inr (.inl l0), .inl l1, .inl l2, l3, l4] [.inl (x0 - x1)] σ Q) := w_isub d186_38
theorem d186_39 : adec m186 39 = some (.istore_n 3, 1) := by decide +kernel
theorem s186_39 {l0 : Nat} {l1 : Int} {l2 : Int} {l3 : AV} {l4 : AV} {x0 : Int} : WP m186 39 [.inr (.inl l0), .inl l1, .inl l2, l3, l4] [.inl x0] σ Q = WP m186 40 [.inr (.inl l0), .inl l1, .inl l2, .inl x0, l4] [] σ Q := w_st1 (j := 3) d186_39 rfl (Nat.le_of_ble_eq_true rfl) rfl
theorem d186_40 : adec m186 40 = some (.iload_n 3, 1) := by decide +kernel
theorem s186_40 {l0 : Nat} {l1 : Int} {l2 : Int} {l3 : Int} {l4 : AV} : WP m186 40 [.inr (.inl l0), .inl l1, .inl l2, .inl l3, l4] [] σ Q = WP m186 41 [.inr (.inl l0), .inl l1, .inl l2, .inl l3, l4] [.inl l3] σ Q := w_ld d186_40 rfl
theorem d186_41 : adec m186 41 = some (.ifCond .lt (98), 3) := by decide +kernel
theorem s186_41 {l0 : Nat} {l1 : Int} {l2 : Int} {l3 : Int} {l4 : AV} {x0 : Int} : WP m186 41 [.inr (.inl l0), .inl l1, .inl l2, .inl l3, l4] [.inl x0] σ Q = (if x0 < 0 then WP m186 139 [.inr (.inl l0), .inl l1, .inl l2, .inl l3, l4] [] σ Q else WP m186 44 [.inr (.inl l0), .inl l1, .inl l2, .inl l3, l4] [] σ Q) := w_iflt d186_41 (by decide)
theorem d186_44 : adec m186 44 = some (.aload_n 0, 1) := by decide +kernel
theorem s186_44 {l0 : Nat} {l1 : Int} {l2 : Int} {l3 : Int} {l4 : AV} : WP m186 44 [.inr (.inl l0), .inl l1, .inl l2, .inl l3, l4] [] σ Q = WP m186 45 [.inr (.inl l0), .inl l1, .inl l2, .inl l3, l4] [.inr (.inl l0)] σ Q := w_ld d186_44 rfl
theorem d186_45 : adec m186 45 = some (.getfield 60, 3) := by decide +kernel
theorem s186_45 {l0 : Nat} {l1 : Int} {l2 : Int} {l3 : Int} {l4 : AV} : WP m186 45 [.inr (.inl l0), .inl l1, .inl l2, .inl l3, l4] [.inr (.inl 130)] σ Q = WP m186 48 [.inr (.inl l0), .inl l1, .inl l2, .inl l3, l4] [.inr (.inl 146)] σ Q := (w_getR (c := 10) (n := 27) d186_45 (by decide +kernel) (by decide +kernel)).trans (g_and ⟨isO_dec (by decide +kernel), by decide +kernel⟩)
theorem d186_48 : adec m186 48 = some (.iload_n 3, 1) := by decide +kernel
theorem s186_48 {l0 : Nat} {l1 : Int} {l2 : Int} {l3 : Int} {l4 : AV} {x0 : Nat} : WP m186 48 [.inr (.inl l0), .inl l1, .inl l2, .inl l3, l4] [.inr (.inl x0)] σ Q = WP m186 49 [.inr (.inl l0), .inl l1, .inl l2, .inl l3, l4] [.inl l3, .inr (.inl x0)] σ Q := w_ld d186_48 rfl
theorem d186_49 : adec m186 49 = some (.iaload, 1) := by decide +kernel
theorem s186_49 {l0 : Nat} {l1 : Int} {l2 : Int} {l3 : Int} {l4 : AV} {x0 : Nat} {x1 : Int} : WP m186 49 [.inr (.inl l0), .inl l1, .inl l2, .inl l3, l4] [.inl x1, .inr (.inl x0)] σ Q = ((kdS x0 = 20 ∧ 0 ≤ x1 ∧ x1 < ln x0) ∧ WP m186 50 [.inr (.inl l0), .inl l1, .inl l2, .inl l3, l4] [.inl (σ x0 x1.toNat)] σ Q) := w_iald d186_49
theorem d186_50 : adec m186 50 = some (.iload_n 3, 1) := by decide +kernel
theorem s186_50 {l0 : Nat} {l1 : Int} {l2 : Int} {l3 : Int} {l4 : AV} {x0 : Int} : WP m186 50 [.inr (.inl l0), .inl l1, .inl l2, .inl l3, l4] [.inl x0] σ Q = WP m186 51 [.inr (.inl l0), .inl l1, .inl l2, .inl l3, l4] [.inl l3, .inl x0] σ Q := w_ld d186_50 rfl
theorem d186_51 : adec m186 51 = some (.if_icmp .ne (49), 3) := by decide +kernel
theorem s186_51 {l0 : Nat} {l1 : Int} {l2 : Int} {l3 : Int} {l4 : AV} {x0 : Int} {x1 : Int} : WP m186 51 [.inr (.inl l0), .inl l1, .inl l2, .inl l3, l4] [.inl x1, .inl x0] σ Q = (if x0 = x1 then WP m186 54 [.inr (.inl l0), .inl l1, .inl l2, .inl l3, l4] [] σ Q else WP m186 100 [.inr (.inl l0), .inl l1, .inl l2, .inl l3, l4] [] σ Q) := w_icne d186_51 (by decide)
theorem d186_54 : adec m186 54 = some (.aload_n 0, 1) := by decide +kernel
theorem s186_54 {l0 : Nat} {l1 : Int} {l2 : Int} {l3 : Int} {l4 : AV} : WP m186 54 [.inr (.inl l0), .inl l1, .inl l2, .inl l3, l4] [] σ Q = WP m186 55 [.inr (.inl l0), .inl l1, .inl l2, .inl l3, l4] [.inr (.inl l0)] σ Q := w_ld d186_54 rfl
theorem d186_55 : adec m186 55 = some (.getfield 54, 3) := by decide +kernel
theorem s186_55 {l0 : Nat} {l1 : Int} {l2 : Int} {l3 : Int} {l4 : AV} : WP m186 55 [.inr (.inl l0), .inl l1, .inl l2, .inl l3, l4] [.inr (.inl 130)] σ Q = WP m186 58 [.inr (.inl l0), .inl l1, .inl l2, .inl l3, l4] [.inr (.inl 144)] σ Q := (w_getR (c := 10) (n := 25) d186_55 (by decide +kernel) (by decide +kernel)).trans (g_and ⟨isO_dec (by decide +kernel), by decide +kernel⟩)
theorem d186_58 : adec m186 58 = some (.iload_n 3, 1) := by decide +kernel
theorem s186_58 {l0 : Nat} {l1 : Int} {l2 : Int} {l3 : Int} {l4 : AV} {x0 : Nat} : WP m186 58 [.inr (.inl l0), .inl l1, .inl l2, .inl l3, l4] [.inr (.inl x0)] σ Q = WP m186 59 [.inr (.inl l0), .inl l1, .inl l2, .inl l3, l4] [.inl l3, .inr (.inl x0)] σ Q := w_ld d186_58 rfl
theorem d186_59 : adec m186 59 = some (.iaload, 1) := by decide +kernel
theorem s186_59 {l0 : Nat} {l1 : Int} {l2 : Int} {l3 : Int} {l4 : AV} {x0 : Nat} {x1 : Int} : WP m186 59 [.inr (.inl l0), .inl l1, .inl l2, .inl l3, l4] [.inl x1, .inr (.inl x0)] σ Q = ((kdS x0 = 20 ∧ 0 ≤ x1 ∧ x1 < ln x0) ∧ WP m186 60 [.inr (.inl l0), .inl l1, .inl l2, .inl l3, l4] [.inl (σ x0 x1.toNat)] σ Q) := w_iald d186_59
theorem d186_60 : adec m186 60 = some (.iconst (-1), 1) := by decide +kernel
theorem s186_60 {l0 : Nat} {l1 : Int} {l2 : Int} {l3 : Int} {l4 : AV} {x0 : Int} : WP m186 60 [.inr (.inl l0), .inl l1, .inl l2, .inl l3, l4] [.inl x0] σ Q = WP m186 61 [.inr (.inl l0), .inl l1, .inl l2, .inl l3, l4] [.inl (-1), .inl x0] σ Q := w_iconst d186_60 (by decide)
theorem d186_61 : adec m186 61 = some (.if_icmp .eq (39), 3) := by decide +kernel
theorem s186_61 {l0 : Nat} {l1 : Int} {l2 : Int} {l3 : Int} {l4 : AV} {x0 : Int} {x1 : Int} : WP m186 61 [.inr (.inl l0), .inl l1, .inl l2, .inl l3, l4] [.inl x1, .inl x0] σ Q = (if x0 = x1 then WP m186 100 [.inr (.inl l0), .inl l1, .inl l2, .inl l3, l4] [] σ Q else WP m186 64 [.inr (.inl l0), .inl l1, .inl l2, .inl l3, l4] [] σ Q) := w_iceq d186_61 (by decide)
theorem d186_64 : adec m186 64 = some (.aload_n 0, 1) := by decide +kernel
theorem s186_64 {l0 : Nat} {l1 : Int} {l2 : Int} {l3 : Int} {l4 : AV} : WP m186 64 [.inr (.inl l0), .inl l1, .inl l2, .inl l3, l4] [] σ Q = WP m186 65 [.inr (.inl l0), .inl l1, .inl l2, .inl l3, l4] [.inr (.inl l0)] σ Q := w_ld d186_64 rfl
theorem d186_65 : adec m186 65 = some (.getfield 63, 3) := by decide +kernel
theorem s186_65 {l0 : Nat} {l1 : Int} {l2 : Int} {l3 : Int} {l4 : AV} : WP m186 65 [.inr (.inl l0), .inl l1, .inl l2, .inl l3, l4] [.inr (.inl 130)] σ Q = WP m186 68 [.inr (.inl l0), .inl l1, .inl l2, .inl l3, l4] [.inr (.inl 147)] σ Q := (w_getR (c := 10) (n := 28) d186_65 (by decide +kernel) (by decide +kernel)).trans (g_and ⟨isO_dec (by decide +kernel), by decide +kernel⟩)
theorem d186_68 : adec m186 68 = some (.aload_n 0, 1) := by decide +kernel
theorem s186_68 {l0 : Nat} {l1 : Int} {l2 : Int} {l3 : Int} {l4 : AV} {x0 : Nat} : WP m186 68 [.inr (.inl l0), .inl l1, .inl l2, .inl l3, l4] [.inr (.inl x0)] σ Q = WP m186 69 [.inr (.inl l0), .inl l1, .inl l2, .inl l3, l4] [.inr (.inl l0), .inr (.inl x0)] σ Q := w_ld d186_68 rfl
theorem d186_69 : adec m186 69 = some (.aload_n 0, 1) := by decide +kernel
theorem s186_69 {l0 : Nat} {l1 : Int} {l2 : Int} {l3 : Int} {l4 : AV} {x0 : Nat} {x1 : Nat} : WP m186 69 [.inr (.inl l0), .inl l1, .inl l2, .inl l3, l4] [.inr (.inl x1), .inr (.inl x0)] σ Q = WP m186 70 [.inr (.inl l0), .inl l1, .inl l2, .inl l3, l4] [.inr (.inl l0), .inr (.inl x1), .inr (.inl x0)] σ Q := w_ld d186_69 rfl
theorem d186_70 : adec m186 70 = some (.getfield 54, 3) := by decide +kernel
theorem s186_70 {l0 : Nat} {l1 : Int} {l2 : Int} {l3 : Int} {l4 : AV} {x0 : Nat} {x1 : Nat} : WP m186 70 [.inr (.inl l0), .inl l1, .inl l2, .inl l3, l4] [.inr (.inl 130), .inr (.inl x1), .inr (.inl x0)] σ Q = WP m186 73 [.inr (.inl l0), .inl l1, .inl l2, .inl l3, l4] [.inr (.inl 144), .inr (.inl x1), .inr (.inl x0)] σ Q := (w_getR (c := 10) (n := 25) d186_70 (by decide +kernel) (by decide +kernel)).trans (g_and ⟨isO_dec (by decide +kernel), by decide +kernel⟩)
theorem d186_73 : adec m186 73 = some (.iload_n 3, 1) := by decide +kernel
theorem s186_73 {l0 : Nat} {l1 : Int} {l2 : Int} {l3 : Int} {l4 : AV} {x0 : Nat} {x1 : Nat} {x2 : Nat} : WP m186 73 [.inr (.inl l0), .inl l1, .inl l2, .inl l3, l4] [.inr (.inl x2), .inr (.inl x1), .inr (.inl x0)] σ Q = WP m186 74 [.inr (.inl l0), .inl l1, .inl l2, .inl l3, l4] [.inl l3, .inr (.inl x2), .inr (.inl x1), .inr (.inl x0)] σ Q := w_ld d186_73 rfl
theorem d186_74 : adec m186 74 = some (.iaload, 1) := by decide +kernel
theorem s186_74 {l0 : Nat} {l1 : Int} {l2 : Int} {l3 : Int} {l4 : AV} {x0 : Nat} {x1 : Nat} {x2 : Nat} {x3 : Int} : WP m186 74 [.inr (.inl l0), .inl l1, .inl l2, .inl l3, l4] [.inl x3, .inr (.inl x2), .inr (.inl x1), .inr (.inl x0)] σ Q = ((kdS x2 = 20 ∧ 0 ≤ x3 ∧ x3 < ln x2) ∧ WP m186 75 [.inr (.inl l0), .inl l1, .inl l2, .inl l3, l4] [.inl (σ x2 x3.toNat), .inr (.inl x1), .inr (.inl x0)] σ Q) := w_iald d186_74
theorem d186_75 : adec m186 75 = some (.invokevirtual 289, 3) := by decide +kernel
theorem s186_75 {l0 : Nat} {l1 : Int} {l2 : Int} {l3 : Int} {l4 : AV} {x0 : Nat} {x2 : Int} : WP m186 75 [.inr (.inl l0), .inl l1, .inl l2, .inl l3, l4] [.inl x2, .inr (.inl 130), .inr (.inl x0)] σ Q = CA m182 [.inr (.inl 130), .inl x2] σ (fun v σ2 => WP m186 78 [.inr (.inl l0), .inl l1, .inl l2, .inl l3, l4] (v ++ [.inr (.inl x0)]) σ2 Q) := (w_cV (k := 182) d186_75 (by decide +kernel) m182_at rfl rfl ⟨Nat.le_of_ble_eq_true rfl, Nat.le_of_ble_eq_true rfl, Nat.le_of_ble_eq_true rfl⟩ (by decide)).trans (g_and (isO_dec (by decide +kernel)))
theorem d186_78 : adec m186 78 = some (.baload, 1) := by decide +kernel
theorem s186_78 {l0 : Nat} {l1 : Int} {l2 : Int} {l3 : Int} {l4 : AV} {x0 : Nat} {x1 : Int} : WP m186 78 [.inr (.inl l0), .inl l1, .inl l2, .inl l3, l4] [.inl x1, .inr (.inl x0)] σ Q = ((kdS x0 = 21 ∧ 0 ≤ x1 ∧ x1 < ln x0) ∧ WP m186 79 [.inr (.inl l0), .inl l1, .inl l2, .inl l3, l4] [.inl (σ x0 x1.toNat)] σ Q) := w_zald d186_78
theorem d186_79 : adec m186 79 = some (.ifCond .eq (25), 3) := by decide +kernel
theorem s186_79 {l0 : Nat} {l1 : Int} {l2 : Int} {l3 : Int} {l4 : AV} {x0 : Int} : WP m186 79 [.inr (.inl l0), .inl l1, .inl l2, .inl l3, l4] [.inl x0] σ Q = (if x0 = 0 then WP m186 104 [.inr (.inl l0), .inl l1, .inl l2, .inl l3, l4] [] σ Q else WP m186 82 [.inr (.inl l0), .inl l1, .inl l2, .inl l3, l4] [] σ Q) := w_ifeq d186_79 (by decide)
theorem d186_82 : adec m186 82 = some (.aload_n 0, 1) := by decide +kernel
theorem s186_82 {l0 : Nat} {l1 : Int} {l2 : Int} {l3 : Int} {l4 : AV} : WP m186 82 [.inr (.inl l0), .inl l1, .inl l2, .inl l3, l4] [] σ Q = WP m186 83 [.inr (.inl l0), .inl l1, .inl l2, .inl l3, l4] [.inr (.inl l0)] σ Q := w_ld d186_82 rfl
theorem d186_83 : adec m186 83 = some (.getfield 63, 3) := by decide +kernel
theorem s186_83 {l0 : Nat} {l1 : Int} {l2 : Int} {l3 : Int} {l4 : AV} : WP m186 83 [.inr (.inl l0), .inl l1, .inl l2, .inl l3, l4] [.inr (.inl 130)] σ Q = WP m186 86 [.inr (.inl l0), .inl l1, .inl l2, .inl l3, l4] [.inr (.inl 147)] σ Q := (w_getR (c := 10) (n := 28) d186_83 (by decide +kernel) (by decide +kernel)).trans (g_and ⟨isO_dec (by decide +kernel), by decide +kernel⟩)
theorem d186_86 : adec m186 86 = some (.aload_n 0, 1) := by decide +kernel
theorem s186_86 {l0 : Nat} {l1 : Int} {l2 : Int} {l3 : Int} {l4 : AV} {x0 : Nat} : WP m186 86 [.inr (.inl l0), .inl l1, .inl l2, .inl l3, l4] [.inr (.inl x0)] σ Q = WP m186 87 [.inr (.inl l0), .inl l1, .inl l2, .inl l3, l4] [.inr (.inl l0), .inr (.inl x0)] σ Q := w_ld d186_86 rfl
theorem d186_87 : adec m186 87 = some (.aload_n 0, 1) := by decide +kernel
theorem s186_87 {l0 : Nat} {l1 : Int} {l2 : Int} {l3 : Int} {l4 : AV} {x0 : Nat} {x1 : Nat} : WP m186 87 [.inr (.inl l0), .inl l1, .inl l2, .inl l3, l4] [.inr (.inl x1), .inr (.inl x0)] σ Q = WP m186 88 [.inr (.inl l0), .inl l1, .inl l2, .inl l3, l4] [.inr (.inl l0), .inr (.inl x1), .inr (.inl x0)] σ Q := w_ld d186_87 rfl
theorem d186_88 : adec m186 88 = some (.getfield 57, 3) := by decide +kernel
theorem s186_88 {l0 : Nat} {l1 : Int} {l2 : Int} {l3 : Int} {l4 : AV} {x0 : Nat} {x1 : Nat} : WP m186 88 [.inr (.inl l0), .inl l1, .inl l2, .inl l3, l4] [.inr (.inl 130), .inr (.inl x1), .inr (.inl x0)] σ Q = WP m186 91 [.inr (.inl l0), .inl l1, .inl l2, .inl l3, l4] [.inr (.inl 145), .inr (.inl x1), .inr (.inl x0)] σ Q := (w_getR (c := 10) (n := 26) d186_88 (by decide +kernel) (by decide +kernel)).trans (g_and ⟨isO_dec (by decide +kernel), by decide +kernel⟩)
theorem d186_91 : adec m186 91 = some (.iload_n 3, 1) := by decide +kernel
theorem s186_91 {l0 : Nat} {l1 : Int} {l2 : Int} {l3 : Int} {l4 : AV} {x0 : Nat} {x1 : Nat} {x2 : Nat} : WP m186 91 [.inr (.inl l0), .inl l1, .inl l2, .inl l3, l4] [.inr (.inl x2), .inr (.inl x1), .inr (.inl x0)] σ Q = WP m186 92 [.inr (.inl l0), .inl l1, .inl l2, .inl l3, l4] [.inl l3, .inr (.inl x2), .inr (.inl x1), .inr (.inl x0)] σ Q := w_ld d186_91 rfl
theorem d186_92 : adec m186 92 = some (.iaload, 1) := by decide +kernel
theorem s186_92 {l0 : Nat} {l1 : Int} {l2 : Int} {l3 : Int} {l4 : AV} {x0 : Nat} {x1 : Nat} {x2 : Nat} {x3 : Int} : WP m186 92 [.inr (.inl l0), .inl l1, .inl l2, .inl l3, l4] [.inl x3, .inr (.inl x2), .inr (.inl x1), .inr (.inl x0)] σ Q = ((kdS x2 = 20 ∧ 0 ≤ x3 ∧ x3 < ln x2) ∧ WP m186 93 [.inr (.inl l0), .inl l1, .inl l2, .inl l3, l4] [.inl (σ x2 x3.toNat), .inr (.inl x1), .inr (.inl x0)] σ Q) := w_iald d186_92
theorem d186_93 : adec m186 93 = some (.invokevirtual 289, 3) := by decide +kernel
theorem s186_93 {l0 : Nat} {l1 : Int} {l2 : Int} {l3 : Int} {l4 : AV} {x0 : Nat} {x2 : Int} : WP m186 93 [.inr (.inl l0), .inl l1, .inl l2, .inl l3, l4] [.inl x2, .inr (.inl 130), .inr (.inl x0)] σ Q = CA m182 [.inr (.inl 130), .inl x2] σ (fun v σ2 => WP m186 96 [.inr (.inl l0), .inl l1, .inl l2, .inl l3, l4] (v ++ [.inr (.inl x0)]) σ2 Q) := (w_cV (k := 182) d186_93 (by decide +kernel) m182_at rfl rfl ⟨Nat.le_of_ble_eq_true rfl, Nat.le_of_ble_eq_true rfl, Nat.le_of_ble_eq_true rfl⟩ (by decide)).trans (g_and (isO_dec (by decide +kernel)))
theorem d186_96 : adec m186 96 = some (.baload, 1) := by decide +kernel
theorem s186_96 {l0 : Nat} {l1 : Int} {l2 : Int} {l3 : Int} {l4 : AV} {x0 : Nat} {x1 : Int} : WP m186 96 [.inr (.inl l0), .inl l1, .inl l2, .inl l3, l4] [.inl x1, .inr (.inl x0)] σ Q = ((kdS x0 = 21 ∧ 0 ≤ x1 ∧ x1 < ln x0) ∧ WP m186 97 [.inr (.inl l0), .inl l1, .inl l2, .inl l3, l4] [.inl (σ x0 x1.toNat)] σ Q) := w_zald d186_96
theorem d186_97 : adec m186 97 = some (.ifCond .eq (7), 3) := by decide +kernel
theorem s186_97 {l0 : Nat} {l1 : Int} {l2 : Int} {l3 : Int} {l4 : AV} {x0 : Int} : WP m186 97 [.inr (.inl l0), .inl l1, .inl l2, .inl l3, l4] [.inl x0] σ Q = (if x0 = 0 then WP m186 104 [.inr (.inl l0), .inl l1, .inl l2, .inl l3, l4] [] σ Q else WP m186 100 [.inr (.inl l0), .inl l1, .inl l2, .inl l3, l4] [] σ Q) := w_ifeq d186_97 (by decide)
theorem d186_100 : adec m186 100 = some (.iconst (1), 1) := by decide +kernel
theorem s186_100 {l0 : Nat} {l1 : Int} {l2 : Int} {l3 : Int} {l4 : AV} : WP m186 100 [.inr (.inl l0), .inl l1, .inl l2, .inl l3, l4] [] σ Q = WP m186 101 [.inr (.inl l0), .inl l1, .inl l2, .inl l3, l4] [.inl (1)] σ Q := w_iconst d186_100 (by decide)
theorem d186_101 : adec m186 101 = some (.goto (4), 3) := by decide +kernel
theorem s186_101 {l0 : Nat} {l1 : Int} {l2 : Int} {l3 : Int} {l4 : AV} {x0 : Int} : WP m186 101 [.inr (.inl l0), .inl l1, .inl l2, .inl l3, l4] [.inl x0] σ Q = WP m186 105 [.inr (.inl l0), .inl l1, .inl l2, .inl l3, l4] [.inl x0] σ Q := w_goto d186_101 (by decide)
theorem d186_104 : adec m186 104 = some (.iconst (0), 1) := by decide +kernel
theorem s186_104 {l0 : Nat} {l1 : Int} {l2 : Int} {l3 : Int} {l4 : AV} : WP m186 104 [.inr (.inl l0), .inl l1, .inl l2, .inl l3, l4] [] σ Q = WP m186 105 [.inr (.inl l0), .inl l1, .inl l2, .inl l3, l4] [.inl (0)] σ Q := w_iconst d186_104 (by decide)
theorem d186_105 : adec m186 105 = some (.istore 4, 2) := by decide +kernel
theorem s186_105 {l0 : Nat} {l1 : Int} {l2 : Int} {l3 : Int} {l4 : AV} {x0 : Int} : WP m186 105 [.inr (.inl l0), .inl l1, .inl l2, .inl l3, l4] [.inl x0] σ Q = WP m186 107 [.inr (.inl l0), .inl l1, .inl l2, .inl l3, .inl x0] [] σ Q := w_st1 (j := 4) d186_105 rfl (Nat.le_of_ble_eq_true rfl) rfl
theorem d186_107 : adec m186 107 = some (.iload 4, 2) := by decide +kernel
theorem s186_107 {l0 : Nat} {l1 : Int} {l2 : Int} {l3 : Int} {l4 : Int} : WP m186 107 [.inr (.inl l0), .inl l1, .inl l2, .inl l3, .inl l4] [] σ Q = WP m186 109 [.inr (.inl l0), .inl l1, .inl l2, .inl l3, .inl l4] [.inl l4] σ Q := w_ld d186_107 rfl
theorem d186_109 : adec m186 109 = some (.ifCond .eq (24), 3) := by decide +kernel
theorem s186_109 {l0 : Nat} {l1 : Int} {l2 : Int} {l3 : Int} {l4 : Int} {x0 : Int} : WP m186 109 [.inr (.inl l0), .inl l1, .inl l2, .inl l3, .inl l4] [.inl x0] σ Q = (if x0 = 0 then WP m186 133 [.inr (.inl l0), .inl l1, .inl l2, .inl l3, .inl l4] [] σ Q else WP m186 112 [.inr (.inl l0), .inl l1, .inl l2, .inl l3, .inl l4] [] σ Q) := w_ifeq d186_109 (by decide)
theorem d186_112 : adec m186 112 = some (.aload_n 0, 1) := by decide +kernel
theorem s186_112 {l0 : Nat} {l1 : Int} {l2 : Int} {l3 : Int} {l4 : Int} : WP m186 112 [.inr (.inl l0), .inl l1, .inl l2, .inl l3, .inl l4] [] σ Q = WP m186 113 [.inr (.inl l0), .inl l1, .inl l2, .inl l3, .inl l4] [.inr (.inl l0)] σ Q := w_ld d186_112 rfl
theorem d186_113 : adec m186 113 = some (.getfield 63, 3) := by decide +kernel
theorem s186_113 {l0 : Nat} {l1 : Int} {l2 : Int} {l3 : Int} {l4 : Int} : WP m186 113 [.inr (.inl l0), .inl l1, .inl l2, .inl l3, .inl l4] [.inr (.inl 130)] σ Q = WP m186 116 [.inr (.inl l0), .inl l1, .inl l2, .inl l3, .inl l4] [.inr (.inl 147)] σ Q := (w_getR (c := 10) (n := 28) d186_113 (by decide +kernel) (by decide +kernel)).trans (g_and ⟨isO_dec (by decide +kernel), by decide +kernel⟩)
theorem d186_116 : adec m186 116 = some (.iload_n 3, 1) := by decide +kernel
theorem s186_116 {l0 : Nat} {l1 : Int} {l2 : Int} {l3 : Int} {l4 : Int} {x0 : Nat} : WP m186 116 [.inr (.inl l0), .inl l1, .inl l2, .inl l3, .inl l4] [.inr (.inl x0)] σ Q = WP m186 117 [.inr (.inl l0), .inl l1, .inl l2, .inl l3, .inl l4] [.inl l3, .inr (.inl x0)] σ Q := w_ld d186_116 rfl
theorem d186_117 : adec m186 117 = some (.baload, 1) := by decide +kernel
theorem s186_117 {l0 : Nat} {l1 : Int} {l2 : Int} {l3 : Int} {l4 : Int} {x0 : Nat} {x1 : Int} : WP m186 117 [.inr (.inl l0), .inl l1, .inl l2, .inl l3, .inl l4] [.inl x1, .inr (.inl x0)] σ Q = ((kdS x0 = 21 ∧ 0 ≤ x1 ∧ x1 < ln x0) ∧ WP m186 118 [.inr (.inl l0), .inl l1, .inl l2, .inl l3, .inl l4] [.inl (σ x0 x1.toNat)] σ Q) := w_zald d186_117
theorem d186_118 : adec m186 118 = some (.ifCond .ne (15), 3) := by decide +kernel
theorem s186_118 {l0 : Nat} {l1 : Int} {l2 : Int} {l3 : Int} {l4 : Int} {x0 : Int} : WP m186 118 [.inr (.inl l0), .inl l1, .inl l2, .inl l3, .inl l4] [.inl x0] σ Q = (if x0 = 0 then WP m186 121 [.inr (.inl l0), .inl l1, .inl l2, .inl l3, .inl l4] [] σ Q else WP m186 133 [.inr (.inl l0), .inl l1, .inl l2, .inl l3, .inl l4] [] σ Q) := w_ifne d186_118 (by decide)
theorem d186_121 : adec m186 121 = some (.aload_n 0, 1) := by decide +kernel
theorem s186_121 {l0 : Nat} {l1 : Int} {l2 : Int} {l3 : Int} {l4 : Int} : WP m186 121 [.inr (.inl l0), .inl l1, .inl l2, .inl l3, .inl l4] [] σ Q = WP m186 122 [.inr (.inl l0), .inl l1, .inl l2, .inl l3, .inl l4] [.inr (.inl l0)] σ Q := w_ld d186_121 rfl
theorem d186_122 : adec m186 122 = some (.getfield 63, 3) := by decide +kernel
theorem s186_122 {l0 : Nat} {l1 : Int} {l2 : Int} {l3 : Int} {l4 : Int} : WP m186 122 [.inr (.inl l0), .inl l1, .inl l2, .inl l3, .inl l4] [.inr (.inl 130)] σ Q = WP m186 125 [.inr (.inl l0), .inl l1, .inl l2, .inl l3, .inl l4] [.inr (.inl 147)] σ Q := (w_getR (c := 10) (n := 28) d186_122 (by decide +kernel) (by decide +kernel)).trans (g_and ⟨isO_dec (by decide +kernel), by decide +kernel⟩)
theorem d186_125 : adec m186 125 = some (.iload_n 3, 1) := by decide +kernel
theorem s186_125 {l0 : Nat} {l1 : Int} {l2 : Int} {l3 : Int} {l4 : Int} {x0 : Nat} : WP m186 125 [.inr (.inl l0), .inl l1, .inl l2, .inl l3, .inl l4] [.inr (.inl x0)] σ Q = WP m186 126 [.inr (.inl l0), .inl l1, .inl l2, .inl l3, .inl l4] [.inl l3, .inr (.inl x0)] σ Q := w_ld d186_125 rfl
theorem d186_126 : adec m186 126 = some (.iconst (1), 1) := by decide +kernel
theorem s186_126 {l0 : Nat} {l1 : Int} {l2 : Int} {l3 : Int} {l4 : Int} {x0 : Nat} {x1 : Int} : WP m186 126 [.inr (.inl l0), .inl l1, .inl l2, .inl l3, .inl l4] [.inl x1, .inr (.inl x0)] σ Q = WP m186 127 [.inr (.inl l0), .inl l1, .inl l2, .inl l3, .inl l4] [.inl (1), .inl x1, .inr (.inl x0)] σ Q := w_iconst d186_126 (by decide)
theorem d186_127 : adec m186 127 = some (.bastore, 1) := by decide +kernel
theorem s186_127 {l0 : Nat} {l1 : Int} {l2 : Int} {l3 : Int} {l4 : Int} {x0 : Nat} {x1 : Int} {x2 : Int} : WP m186 127 [.inr (.inl l0), .inl l1, .inl l2, .inl l3, .inl l4] [.inl x2, .inl x1, .inr (.inl x0)] σ Q = ((kdS x0 = 21 ∧ 0 ≤ x1 ∧ x1 < ln x0 ∧ (x2 = 0 ∨ x2 = 1)) ∧ WP m186 128 [.inr (.inl l0), .inl l1, .inl l2, .inl l3, .inl l4] [] (aup σ x0 x1.toNat x2) Q) := w_zast d186_127
theorem d186_128 : adec m186 128 = some (.iinc 2 (1), 3) := by decide +kernel
theorem s186_128 {l0 : Nat} {l1 : Int} {l2 : Int} {l3 : Int} {l4 : Int} : WP m186 128 [.inr (.inl l0), .inl l1, .inl l2, .inl l3, .inl l4] [] σ Q = (inI (l2 + (1)) ∧ WP m186 131 [.inr (.inl l0), .inl l1, .inl (l2 + (1)), .inl l3, .inl l4] [] σ Q) := w_iinc d186_128 rfl rfl
theorem d186_131 : adec m186 131 = some (.iconst (1), 1) := by decide +kernel
theorem s186_131 {l0 : Nat} {l1 : Int} {l2 : Int} {l3 : Int} {l4 : Int} : WP m186 131 [.inr (.inl l0), .inl l1, .inl l2, .inl l3, .inl l4] [] σ Q = WP m186 132 [.inr (.inl l0), .inl l1, .inl l2, .inl l3, .inl l4] [.inl (1)] σ Q := w_iconst d186_131 (by decide)
theorem d186_132 : adec m186 132 = some (.istore_n 1, 1) := by decide +kernel
theorem s186_132 {l0 : Nat} {l1 : Int} {l2 : Int} {l3 : Int} {l4 : Int} {x0 : Int} : WP m186 132 [.inr (.inl l0), .inl l1, .inl l2, .inl l3, .inl l4] [.inl x0] σ Q = WP m186 133 [.inr (.inl l0), .inl x0, .inl l2, .inl l3, .inl l4] [] σ Q := w_st1 (j := 1) d186_132 rfl (Nat.le_of_ble_eq_true rfl) rfl
theorem d186_133 : adec m186 133 = some (.iinc 3 (-1), 3) := by decide +kernel
theorem s186_133 {l0 : Nat} {l1 : Int} {l2 : Int} {l3 : Int} {l4 : Int} : WP m186 133 [.inr (.inl l0), .inl l1, .inl l2, .inl l3, .inl l4] [] σ Q = (inI (l3 + (-1)) ∧ WP m186 136 [.inr (.inl l0), .inl l1, .inl l2, .inl (l3 + (-1)), .inl l4] [] σ Q) := w_iinc d186_133 rfl rfl
theorem d186_136 : adec m186 136 = some (.goto (-96), 3) := by decide +kernel
theorem s186_136 {l0 : Nat} {l1 : Int} {l2 : Int} {l3 : Int} {l4 : Int} : WP m186 136 [.inr (.inl l0), .inl l1, .inl l2, .inl l3, .inl l4] [] σ Q = WP m186 40 [.inr (.inl l0), .inl l1, .inl l2, .inl l3, .inl l4] [] σ Q := w_goto d186_136 (by decide)
theorem d186_139 : adec m186 139 = some (.goto (-112), 3) := by decide +kernel
theorem s186_139 {l0 : Nat} {l1 : Int} {l2 : Int} {l3 : Int} {l4 : AV} : WP m186 139 [.inr (.inl l0), .inl l1, .inl l2, .inl l3, l4] [] σ Q = WP m186 27 [.inr (.inl l0), .inl l1, .inl l2, .inl l3, l4] [] σ Q := w_goto d186_139 (by decide)
theorem d186_142 : adec m186 142 = some (.iload_n 2, 1) := by decide +kernel
theorem s186_142 {l0 : Nat} {l1 : Int} {l2 : Int} {l3 : AV} {l4 : AV} : WP m186 142 [.inr (.inl l0), .inl l1, .inl l2, l3, l4] [] σ Q = WP m186 143 [.inr (.inl l0), .inl l1, .inl l2, l3, l4] [.inl l2] σ Q := w_ld d186_142 rfl
theorem d186_143 : adec m186 143 = some (.aload_n 0, 1) := by decide +kernel
theorem s186_143 {l0 : Nat} {l1 : Int} {l2 : Int} {l3 : AV} {l4 : AV} {x0 : Int} : WP m186 143 [.inr (.inl l0), .inl l1, .inl l2, l3, l4] [.inl x0] σ Q = WP m186 144 [.inr (.inl l0), .inl l1, .inl l2, l3, l4] [.inr (.inl l0), .inl x0] σ Q := w_ld d186_143 rfl
theorem d186_144 : adec m186 144 = some (.getfield 280, 3) := by decide +kernel
theorem s186_144 {l0 : Nat} {l1 : Int} {l2 : Int} {l3 : AV} {l4 : AV} {x0 : Int} : WP m186 144 [.inr (.inl l0), .inl l1, .inl l2, l3, l4] [.inr (.inl 130), .inl x0] σ Q = WP m186 147 [.inr (.inl l0), .inl l1, .inl l2, l3, l4] [.inl (σ 130 29), .inl x0] σ Q := (w_getI (c := 10) (n := 29) d186_144 (by decide +kernel) (by decide +kernel)).trans (g_and (isO_dec (by decide +kernel)))
theorem d186_147 : adec m186 147 = some (.if_icmp .ne (7), 3) := by decide +kernel
theorem s186_147 {l0 : Nat} {l1 : Int} {l2 : Int} {l3 : AV} {l4 : AV} {x0 : Int} {x1 : Int} : WP m186 147 [.inr (.inl l0), .inl l1, .inl l2, l3, l4] [.inl x1, .inl x0] σ Q = (if x0 = x1 then WP m186 150 [.inr (.inl l0), .inl l1, .inl l2, l3, l4] [] σ Q else WP m186 154 [.inr (.inl l0), .inl l1, .inl l2, l3, l4] [] σ Q) := w_icne d186_147 (by decide)
theorem d186_150 : adec m186 150 = some (.iconst (1), 1) := by decide +kernel
theorem s186_150 {l0 : Nat} {l1 : Int} {l2 : Int} {l3 : AV} {l4 : AV} : WP m186 150 [.inr (.inl l0), .inl l1, .inl l2, l3, l4] [] σ Q = WP m186 151 [.inr (.inl l0), .inl l1, .inl l2, l3, l4] [.inl (1)] σ Q := w_iconst d186_150 (by decide)
theorem d186_151 : adec m186 151 = some (.goto (4), 3) := by decide +kernel
theorem s186_151 {l0 : Nat} {l1 : Int} {l2 : Int} {l3 : AV} {l4 : AV} {x0 : Int} : WP m186 151 [.inr (.inl l0), .inl l1, .inl l2, l3, l4] [.inl x0] σ Q = WP m186 155 [.inr (.inl l0), .inl l1, .inl l2, l3, l4] [.inl x0] σ Q := w_goto d186_151 (by decide)
theorem d186_154 : adec m186 154 = some (.iconst (0), 1) := by decide +kernel
theorem s186_154 {l0 : Nat} {l1 : Int} {l2 : Int} {l3 : AV} {l4 : AV} : WP m186 154 [.inr (.inl l0), .inl l1, .inl l2, l3, l4] [] σ Q = WP m186 155 [.inr (.inl l0), .inl l1, .inl l2, l3, l4] [.inl (0)] σ Q := w_iconst d186_154 (by decide)
theorem d186_155 : adec m186 155 = some (.ireturn, 1) := by decide +kernel
theorem s186_155 {l0 : Nat} {l1 : Int} {l2 : Int} {l3 : AV} {l4 : AV} {x0 : Int} : WP m186 155 [.inr (.inl l0), .inl l1, .inl l2, l3, l4] [.inl x0] σ Q = ((x0 = 0 ∨ x0 = 1) ∧ Q [.inl x0] σ) := w_rz d186_155 rfl
theorem e186 {p0 : Nat} : CA m186 [.inr (.inl p0)] σ Q = WP m186 0 [.inr (.inl p0), vU, vU, vU, vU] [] σ Q := rfl
-- BinderPressModel.kindOf(I)I
theorem d187_0 : adec m187 0 = some (.aload_n 0, 1) := by decide +kernel
theorem s187_0 {l0 : Nat} {l1 : Int} {l2 : AV} {l3 : AV} {l4 : AV} {l5 : AV} : WP m187 0 [.inr (.inl l0), .inl l1, l2, l3, l4, l5] [] σ Q = WP m187 1 [.inr (.inl l0), .inl l1, l2, l3, l4, l5] [.inr (.inl l0)] σ Q := w_ld d187_0 rfl
theorem d187_1 : adec m187 1 = some (.iload_n 1, 1) := by decide +kernel
theorem s187_1 {l0 : Nat} {l1 : Int} {l2 : AV} {l3 : AV} {l4 : AV} {l5 : AV} {x0 : Nat} : WP m187 1 [.inr (.inl l0), .inl l1, l2, l3, l4, l5] [.inr (.inl x0)] σ Q = WP m187 2 [.inr (.inl l0), .inl l1, l2, l3, l4, l5] [.inl l1, .inr (.inl x0)] σ Q := w_ld d187_1 rfl
theorem d187_2 : adec m187 2 = some (.invokevirtual 196, 3) := by decide +kernel
theorem s187_2 {l0 : Nat} {l1 : Int} {l2 : AV} {l3 : AV} {l4 : AV} {l5 : AV} {x1 : Int} : WP m187 2 [.inr (.inl l0), .inl l1, l2, l3, l4, l5] [.inl x1, .inr (.inl 130)] σ Q = CA m136 [.inr (.inl 130), .inl x1] σ (fun v σ2 => WP m187 5 [.inr (.inl l0), .inl l1, l2, l3, l4, l5] (v ++ []) σ2 Q) := (w_cV (k := 136) d187_2 (by decide +kernel) m136_at rfl rfl ⟨Nat.le_of_ble_eq_true rfl, Nat.le_of_ble_eq_true rfl, Nat.le_of_ble_eq_true rfl⟩ (by decide)).trans (g_and (isO_dec (by decide +kernel)))
theorem d187_5 : adec m187 5 = some (.aload_n 0, 1) := by decide +kernel
theorem s187_5 {l0 : Nat} {l1 : Int} {l2 : AV} {l3 : AV} {l4 : AV} {l5 : AV} : WP m187 5 [.inr (.inl l0), .inl l1, l2, l3, l4, l5] [] σ Q = WP m187 6 [.inr (.inl l0), .inl l1, l2, l3, l4, l5] [.inr (.inl l0)] σ Q := w_ld d187_5 rfl
theorem d187_6 : adec m187 6 = some (.iconst (0), 1) := by decide +kernel
theorem s187_6 {l0 : Nat} {l1 : Int} {l2 : AV} {l3 : AV} {l4 : AV} {l5 : AV} {x0 : Nat} : WP m187 6 [.inr (.inl l0), .inl l1, l2, l3, l4, l5] [.inr (.inl x0)] σ Q = WP m187 7 [.inr (.inl l0), .inl l1, l2, l3, l4, l5] [.inl (0), .inr (.inl x0)] σ Q := w_iconst d187_6 (by decide)
theorem d187_7 : adec m187 7 = some (.putfield 280, 3) := by decide +kernel
theorem s187_7 {l0 : Nat} {l1 : Int} {l2 : AV} {l3 : AV} {l4 : AV} {l5 : AV} {x1 : Int} : WP m187 7 [.inr (.inl l0), .inl l1, l2, l3, l4, l5] [.inl x1, .inr (.inl 130)] σ Q = WP m187 10 [.inr (.inl l0), .inl l1, l2, l3, l4, l5] [] (aup σ 130 29 x1) Q := (w_putI (c := 10) (n := 29) d187_7 (by decide +kernel) (by decide +kernel) (by decide +kernel)).trans (g_and (isO_dec (by decide +kernel)))
theorem d187_10 : adec m187 10 = some (.aload_n 0, 1) := by decide +kernel
theorem s187_10 {l0 : Nat} {l1 : Int} {l2 : AV} {l3 : AV} {l4 : AV} {l5 : AV} : WP m187 10 [.inr (.inl l0), .inl l1, l2, l3, l4, l5] [] σ Q = WP m187 11 [.inr (.inl l0), .inl l1, l2, l3, l4, l5] [.inr (.inl l0)] σ Q := w_ld d187_10 rfl
theorem d187_11 : adec m187 11 = some (.iconst (0), 1) := by decide +kernel
theorem s187_11 {l0 : Nat} {l1 : Int} {l2 : AV} {l3 : AV} {l4 : AV} {l5 : AV} {x0 : Nat} : WP m187 11 [.inr (.inl l0), .inl l1, l2, l3, l4, l5] [.inr (.inl x0)] σ Q = WP m187 12 [.inr (.inl l0), .inl l1, l2, l3, l4, l5] [.inl (0), .inr (.inl x0)] σ Q := w_iconst d187_11 (by decide)
theorem d187_12 : adec m187 12 = some (.putfield 94, 3) := by decide +kernel
theorem s187_12 {l0 : Nat} {l1 : Int} {l2 : AV} {l3 : AV} {l4 : AV} {l5 : AV} {x1 : Int} : WP m187 12 [.inr (.inl l0), .inl l1, l2, l3, l4, l5] [.inl x1, .inr (.inl 130)] σ Q = WP m187 15 [.inr (.inl l0), .inl l1, l2, l3, l4, l5] [] (aup σ 130 11 x1) Q := (w_putI (c := 10) (n := 11) d187_12 (by decide +kernel) (by decide +kernel) (by decide +kernel)).trans (g_and (isO_dec (by decide +kernel)))
theorem d187_15 : adec m187 15 = some (.iconst (0), 1) := by decide +kernel
theorem s187_15 {l0 : Nat} {l1 : Int} {l2 : AV} {l3 : AV} {l4 : AV} {l5 : AV} : WP m187 15 [.inr (.inl l0), .inl l1, l2, l3, l4, l5] [] σ Q = WP m187 16 [.inr (.inl l0), .inl l1, l2, l3, l4, l5] [.inl (0)] σ Q := w_iconst d187_15 (by decide)
theorem d187_16 : adec m187 16 = some (.istore_n 2, 1) := by decide +kernel
theorem s187_16 {l0 : Nat} {l1 : Int} {l2 : AV} {l3 : AV} {l4 : AV} {l5 : AV} {x0 : Int} : WP m187 16 [.inr (.inl l0), .inl l1, l2, l3, l4, l5] [.inl x0] σ Q = WP m187 17 [.inr (.inl l0), .inl l1, .inl x0, l3, l4, l5] [] σ Q := w_st1 (j := 2) d187_16 rfl (Nat.le_of_ble_eq_true rfl) rfl
theorem d187_17 : adec m187 17 = some (.iload_n 2, 1) := by decide +kernel
theorem s187_17 {l0 : Nat} {l1 : Int} {l2 : Int} {l3 : AV} {l4 : AV} {l5 : AV} : WP m187 17 [.inr (.inl l0), .inl l1, .inl l2, l3, l4, l5] [] σ Q = WP m187 18 [.inr (.inl l0), .inl l1, .inl l2, l3, l4, l5] [.inl l2] σ Q := w_ld d187_17 rfl
theorem d187_18 : adec m187 18 = some (.bipush (26), 2) := by decide +kernel
theorem s187_18 {l0 : Nat} {l1 : Int} {l2 : Int} {l3 : AV} {l4 : AV} {l5 : AV} {x0 : Int} : WP m187 18 [.inr (.inl l0), .inl l1, .inl l2, l3, l4, l5] [.inl x0] σ Q = WP m187 20 [.inr (.inl l0), .inl l1, .inl l2, l3, l4, l5] [.inl (26), .inl x0] σ Q := w_bipush d187_18 (by decide)
theorem d187_20 : adec m187 20 = some (.if_icmp .ge (19), 3) := by decide +kernel
theorem s187_20 {l0 : Nat} {l1 : Int} {l2 : Int} {l3 : AV} {l4 : AV} {l5 : AV} {x0 : Int} {x1 : Int} : WP m187 20 [.inr (.inl l0), .inl l1, .inl l2, l3, l4, l5] [.inl x1, .inl x0] σ Q = (if x1 ≤ x0 then WP m187 39 [.inr (.inl l0), .inl l1, .inl l2, l3, l4, l5] [] σ Q else WP m187 23 [.inr (.inl l0), .inl l1, .inl l2, l3, l4, l5] [] σ Q) := w_icge d187_20 (by decide)
theorem d187_23 : adec m187 23 = some (.aload_n 0, 1) := by decide +kernel
theorem s187_23 {l0 : Nat} {l1 : Int} {l2 : Int} {l3 : AV} {l4 : AV} {l5 : AV} : WP m187 23 [.inr (.inl l0), .inl l1, .inl l2, l3, l4, l5] [] σ Q = WP m187 24 [.inr (.inl l0), .inl l1, .inl l2, l3, l4, l5] [.inr (.inl l0)] σ Q := w_ld d187_23 rfl
theorem d187_24 : adec m187 24 = some (.getfield 66, 3) := by decide +kernel
theorem s187_24 {l0 : Nat} {l1 : Int} {l2 : Int} {l3 : AV} {l4 : AV} {l5 : AV} : WP m187 24 [.inr (.inl l0), .inl l1, .inl l2, l3, l4, l5] [.inr (.inl 130)] σ Q = WP m187 27 [.inr (.inl l0), .inl l1, .inl l2, l3, l4, l5] [.inr (.inl 148)] σ Q := (w_getR (c := 10) (n := 30) d187_24 (by decide +kernel) (by decide +kernel)).trans (g_and ⟨isO_dec (by decide +kernel), by decide +kernel⟩)
theorem d187_27 : adec m187 27 = some (.iload_n 2, 1) := by decide +kernel
theorem s187_27 {l0 : Nat} {l1 : Int} {l2 : Int} {l3 : AV} {l4 : AV} {l5 : AV} {x0 : Nat} : WP m187 27 [.inr (.inl l0), .inl l1, .inl l2, l3, l4, l5] [.inr (.inl x0)] σ Q = WP m187 28 [.inr (.inl l0), .inl l1, .inl l2, l3, l4, l5] [.inl l2, .inr (.inl x0)] σ Q := w_ld d187_27 rfl
theorem d187_28 : adec m187 28 = some (.aload_n 0, 1) := by decide +kernel
theorem s187_28 {l0 : Nat} {l1 : Int} {l2 : Int} {l3 : AV} {l4 : AV} {l5 : AV} {x0 : Nat} {x1 : Int} : WP m187 28 [.inr (.inl l0), .inl l1, .inl l2, l3, l4, l5] [.inl x1, .inr (.inl x0)] σ Q = WP m187 29 [.inr (.inl l0), .inl l1, .inl l2, l3, l4, l5] [.inr (.inl l0), .inl x1, .inr (.inl x0)] σ Q := w_ld d187_28 rfl
theorem d187_29 : adec m187 29 = some (.invokevirtual 286, 3) := by decide +kernel
theorem s187_29 {l0 : Nat} {l1 : Int} {l2 : Int} {l3 : AV} {l4 : AV} {l5 : AV} {x0 : Nat} {x1 : Int} : WP m187 29 [.inr (.inl l0), .inl l1, .inl l2, l3, l4, l5] [.inr (.inl 130), .inl x1, .inr (.inl x0)] σ Q = CA m181 [.inr (.inl 130)] σ (fun v σ2 => WP m187 32 [.inr (.inl l0), .inl l1, .inl l2, l3, l4, l5] (v ++ [.inl x1, .inr (.inl x0)]) σ2 Q) := (w_cV (k := 181) d187_29 (by decide +kernel) m181_at rfl rfl ⟨Nat.le_of_ble_eq_true rfl, Nat.le_of_ble_eq_true rfl, Nat.le_of_ble_eq_true rfl⟩ (by decide)).trans (g_and (isO_dec (by decide +kernel)))
theorem d187_32 : adec m187 32 = some (.iastore, 1) := by decide +kernel
theorem s187_32 {l0 : Nat} {l1 : Int} {l2 : Int} {l3 : AV} {l4 : AV} {l5 : AV} {x0 : Nat} {x1 : Int} {x2 : Int} : WP m187 32 [.inr (.inl l0), .inl l1, .inl l2, l3, l4, l5] [.inl x2, .inl x1, .inr (.inl x0)] σ Q = ((kdS x0 = 20 ∧ 0 ≤ x1 ∧ x1 < ln x0) ∧ WP m187 33 [.inr (.inl l0), .inl l1, .inl l2, l3, l4, l5] [] (aup σ x0 x1.toNat x2) Q) := w_iast d187_32
theorem d187_33 : adec m187 33 = some (.iinc 2 (1), 3) := by decide +kernel
theorem s187_33 {l0 : Nat} {l1 : Int} {l2 : Int} {l3 : AV} {l4 : AV} {l5 : AV} : WP m187 33 [.inr (.inl l0), .inl l1, .inl l2, l3, l4, l5] [] σ Q = (inI (l2 + (1)) ∧ WP m187 36 [.inr (.inl l0), .inl l1, .inl (l2 + (1)), l3, l4, l5] [] σ Q) := w_iinc d187_33 rfl rfl
theorem d187_36 : adec m187 36 = some (.goto (-19), 3) := by decide +kernel
theorem s187_36 {l0 : Nat} {l1 : Int} {l2 : Int} {l3 : AV} {l4 : AV} {l5 : AV} : WP m187 36 [.inr (.inl l0), .inl l1, .inl l2, l3, l4, l5] [] σ Q = WP m187 17 [.inr (.inl l0), .inl l1, .inl l2, l3, l4, l5] [] σ Q := w_goto d187_36 (by decide)
theorem d187_39 : adec m187 39 = some (.iconst (0), 1) := by decide +kernel
theorem s187_39 {l0 : Nat} {l1 : Int} {l2 : Int} {l3 : AV} {l4 : AV} {l5 : AV} : WP m187 39 [.inr (.inl l0), .inl l1, .inl l2, l3, l4, l5] [] σ Q = WP m187 40 [.inr (.inl l0), .inl l1, .inl l2, l3, l4, l5] [.inl (0)] σ Q := w_iconst d187_39 (by decide)
theorem d187_40 : adec m187 40 = some (.istore_n 2, 1) := by decide +kernel
theorem s187_40 {l0 : Nat} {l1 : Int} {l2 : Int} {l3 : AV} {l4 : AV} {l5 : AV} {x0 : Int} : WP m187 40 [.inr (.inl l0), .inl l1, .inl l2, l3, l4, l5] [.inl x0] σ Q = WP m187 41 [.inr (.inl l0), .inl l1, .inl x0, l3, l4, l5] [] σ Q := w_st1 (j := 2) d187_40 rfl (Nat.le_of_ble_eq_true rfl) rfl
theorem d187_41 : adec m187 41 = some (.iload_n 2, 1) := by decide +kernel
theorem s187_41 {l0 : Nat} {l1 : Int} {l2 : Int} {l3 : AV} {l4 : AV} {l5 : AV} : WP m187 41 [.inr (.inl l0), .inl l1, .inl l2, l3, l4, l5] [] σ Q = WP m187 42 [.inr (.inl l0), .inl l1, .inl l2, l3, l4, l5] [.inl l2] σ Q := w_ld d187_41 rfl
theorem d187_42 : adec m187 42 = some (.aload_n 0, 1) := by decide +kernel
theorem s187_42 {l0 : Nat} {l1 : Int} {l2 : Int} {l3 : AV} {l4 : AV} {l5 : AV} {x0 : Int} : WP m187 42 [.inr (.inl l0), .inl l1, .inl l2, l3, l4, l5] [.inl x0] σ Q = WP m187 43 [.inr (.inl l0), .inl l1, .inl l2, l3, l4, l5] [.inr (.inl l0), .inl x0] σ Q := w_ld d187_42 rfl
theorem d187_43 : adec m187 43 = some (.getfield 104, 3) := by decide +kernel
theorem s187_43 {l0 : Nat} {l1 : Int} {l2 : Int} {l3 : AV} {l4 : AV} {l5 : AV} {x0 : Int} : WP m187 43 [.inr (.inl l0), .inl l1, .inl l2, l3, l4, l5] [.inr (.inl 130), .inl x0] σ Q = WP m187 46 [.inr (.inl l0), .inl l1, .inl l2, l3, l4, l5] [.inl (σ 130 7), .inl x0] σ Q := (w_getI (c := 10) (n := 7) d187_43 (by decide +kernel) (by decide +kernel)).trans (g_and (isO_dec (by decide +kernel)))
theorem d187_46 : adec m187 46 = some (.if_icmp .ge (35), 3) := by decide +kernel
theorem s187_46 {l0 : Nat} {l1 : Int} {l2 : Int} {l3 : AV} {l4 : AV} {l5 : AV} {x0 : Int} {x1 : Int} : WP m187 46 [.inr (.inl l0), .inl l1, .inl l2, l3, l4, l5] [.inl x1, .inl x0] σ Q = (if x1 ≤ x0 then WP m187 81 [.inr (.inl l0), .inl l1, .inl l2, l3, l4, l5] [] σ Q else WP m187 49 [.inr (.inl l0), .inl l1, .inl l2, l3, l4, l5] [] σ Q) := w_icge d187_46 (by decide)
theorem d187_49 : adec m187 49 = some (.aload_n 0, 1) := by decide +kernel
theorem s187_49 {l0 : Nat} {l1 : Int} {l2 : Int} {l3 : AV} {l4 : AV} {l5 : AV} : WP m187 49 [.inr (.inl l0), .inl l1, .inl l2, l3, l4, l5] [] σ Q = WP m187 50 [.inr (.inl l0), .inl l1, .inl l2, l3, l4, l5] [.inr (.inl l0)] σ Q := w_ld d187_49 rfl
theorem d187_50 : adec m187 50 = some (.getfield 69, 3) := by decide +kernel
theorem s187_50 {l0 : Nat} {l1 : Int} {l2 : Int} {l3 : AV} {l4 : AV} {l5 : AV} : WP m187 50 [.inr (.inl l0), .inl l1, .inl l2, l3, l4, l5] [.inr (.inl 130)] σ Q = WP m187 53 [.inr (.inl l0), .inl l1, .inl l2, l3, l4, l5] [.inr (.inl 149)] σ Q := (w_getR (c := 10) (n := 31) d187_50 (by decide +kernel) (by decide +kernel)).trans (g_and ⟨isO_dec (by decide +kernel), by decide +kernel⟩)
theorem d187_53 : adec m187 53 = some (.iload_n 2, 1) := by decide +kernel
theorem s187_53 {l0 : Nat} {l1 : Int} {l2 : Int} {l3 : AV} {l4 : AV} {l5 : AV} {x0 : Nat} : WP m187 53 [.inr (.inl l0), .inl l1, .inl l2, l3, l4, l5] [.inr (.inl x0)] σ Q = WP m187 54 [.inr (.inl l0), .inl l1, .inl l2, l3, l4, l5] [.inl l2, .inr (.inl x0)] σ Q := w_ld d187_53 rfl
theorem d187_54 : adec m187 54 = some (.aload_n 0, 1) := by decide +kernel
theorem s187_54 {l0 : Nat} {l1 : Int} {l2 : Int} {l3 : AV} {l4 : AV} {l5 : AV} {x0 : Nat} {x1 : Int} : WP m187 54 [.inr (.inl l0), .inl l1, .inl l2, l3, l4, l5] [.inl x1, .inr (.inl x0)] σ Q = WP m187 55 [.inr (.inl l0), .inl l1, .inl l2, l3, l4, l5] [.inr (.inl l0), .inl x1, .inr (.inl x0)] σ Q := w_ld d187_54 rfl
theorem d187_55 : adec m187 55 = some (.getfield 24, 3) := by decide +kernel
theorem s187_55 {l0 : Nat} {l1 : Int} {l2 : Int} {l3 : AV} {l4 : AV} {l5 : AV} {x0 : Nat} {x1 : Int} : WP m187 55 [.inr (.inl l0), .inl l1, .inl l2, l3, l4, l5] [.inr (.inl 130), .inl x1, .inr (.inl x0)] σ Q = WP m187 58 [.inr (.inl l0), .inl l1, .inl l2, l3, l4, l5] [.inr (.inl 134), .inl x1, .inr (.inl x0)] σ Q := (w_getR (c := 10) (n := 6) d187_55 (by decide +kernel) (by decide +kernel)).trans (g_and ⟨isO_dec (by decide +kernel), by decide +kernel⟩)
theorem d187_58 : adec m187 58 = some (.iload_n 2, 1) := by decide +kernel
theorem s187_58 {l0 : Nat} {l1 : Int} {l2 : Int} {l3 : AV} {l4 : AV} {l5 : AV} {x0 : Nat} {x1 : Int} {x2 : Nat} : WP m187 58 [.inr (.inl l0), .inl l1, .inl l2, l3, l4, l5] [.inr (.inl x2), .inl x1, .inr (.inl x0)] σ Q = WP m187 59 [.inr (.inl l0), .inl l1, .inl l2, l3, l4, l5] [.inl l2, .inr (.inl x2), .inl x1, .inr (.inl x0)] σ Q := w_ld d187_58 rfl
theorem d187_59 : adec m187 59 = some (.iaload, 1) := by decide +kernel
theorem s187_59 {l0 : Nat} {l1 : Int} {l2 : Int} {l3 : AV} {l4 : AV} {l5 : AV} {x0 : Nat} {x1 : Int} {x2 : Nat} {x3 : Int} : WP m187 59 [.inr (.inl l0), .inl l1, .inl l2, l3, l4, l5] [.inl x3, .inr (.inl x2), .inl x1, .inr (.inl x0)] σ Q = ((kdS x2 = 20 ∧ 0 ≤ x3 ∧ x3 < ln x2) ∧ WP m187 60 [.inr (.inl l0), .inl l1, .inl l2, l3, l4, l5] [.inl (σ x2 x3.toNat), .inl x1, .inr (.inl x0)] σ Q) := w_iald d187_59
theorem d187_60 : adec m187 60 = some (.invokestatic 162, 3) := by decide +kernel
theorem s187_60 {l0 : Nat} {l1 : Int} {l2 : Int} {l3 : AV} {l4 : AV} {l5 : AV} {x0 : Nat} {x1 : Int} {x2 : Int} : WP m187 60 [.inr (.inl l0), .inl l1, .inl l2, l3, l4, l5] [.inl x2, .inl x1, .inr (.inl x0)] σ Q = CA m129 [.inl x2] σ (fun v σ2 => WP m187 63 [.inr (.inl l0), .inl l1, .inl l2, l3, l4, l5] (v ++ [.inl x1, .inr (.inl x0)]) σ2 Q) := w_cS (k := 129) d187_60 (by decide +kernel) (md := 1) (by decide +kernel) m129_at rfl rfl ⟨Nat.le_of_ble_eq_true rfl, Nat.le_of_ble_eq_true rfl, Nat.le_of_ble_eq_true rfl⟩ (by decide)
theorem d187_63 : adec m187 63 = some (.ifCond .eq (10), 3) := by decide +kernel
theorem s187_63 {l0 : Nat} {l1 : Int} {l2 : Int} {l3 : AV} {l4 : AV} {l5 : AV} {x0 : Nat} {x1 : Int} {x2 : Int} : WP m187 63 [.inr (.inl l0), .inl l1, .inl l2, l3, l4, l5] [.inl x2, .inl x1, .inr (.inl x0)] σ Q = (if x2 = 0 then WP m187 73 [.inr (.inl l0), .inl l1, .inl l2, l3, l4, l5] [.inl x1, .inr (.inl x0)] σ Q else WP m187 66 [.inr (.inl l0), .inl l1, .inl l2, l3, l4, l5] [.inl x1, .inr (.inl x0)] σ Q) := w_ifeq d187_63 (by decide)
theorem d187_66 : adec m187 66 = some (.aload_n 0, 1) := by decide +kernel
theorem s187_66 {l0 : Nat} {l1 : Int} {l2 : Int} {l3 : AV} {l4 : AV} {l5 : AV} {x0 : Nat} {x1 : Int} : WP m187 66 [.inr (.inl l0), .inl l1, .inl l2, l3, l4, l5] [.inl x1, .inr (.inl x0)] σ Q = WP m187 67 [.inr (.inl l0), .inl l1, .inl l2, l3, l4, l5] [.inr (.inl l0), .inl x1, .inr (.inl x0)] σ Q := w_ld d187_66 rfl
theorem d187_67 : adec m187 67 = some (.invokevirtual 286, 3) := by decide +kernel
theorem s187_67 {l0 : Nat} {l1 : Int} {l2 : Int} {l3 : AV} {l4 : AV} {l5 : AV} {x0 : Nat} {x1 : Int} : WP m187 67 [.inr (.inl l0), .inl l1, .inl l2, l3, l4, l5] [.inr (.inl 130), .inl x1, .inr (.inl x0)] σ Q = CA m181 [.inr (.inl 130)] σ (fun v σ2 => WP m187 70 [.inr (.inl l0), .inl l1, .inl l2, l3, l4, l5] (v ++ [.inl x1, .inr (.inl x0)]) σ2 Q) := (w_cV (k := 181) d187_67 (by decide +kernel) m181_at rfl rfl ⟨Nat.le_of_ble_eq_true rfl, Nat.le_of_ble_eq_true rfl, Nat.le_of_ble_eq_true rfl⟩ (by decide)).trans (g_and (isO_dec (by decide +kernel)))
theorem d187_70 : adec m187 70 = some (.goto (4), 3) := by decide +kernel
theorem s187_70 {l0 : Nat} {l1 : Int} {l2 : Int} {l3 : AV} {l4 : AV} {l5 : AV} {x0 : Nat} {x1 : Int} {x2 : Int} : WP m187 70 [.inr (.inl l0), .inl l1, .inl l2, l3, l4, l5] [.inl x2, .inl x1, .inr (.inl x0)] σ Q = WP m187 74 [.inr (.inl l0), .inl l1, .inl l2, l3, l4, l5] [.inl x2, .inl x1, .inr (.inl x0)] σ Q := w_goto d187_70 (by decide)
theorem d187_73 : adec m187 73 = some (.iconst (0), 1) := by decide +kernel
theorem s187_73 {l0 : Nat} {l1 : Int} {l2 : Int} {l3 : AV} {l4 : AV} {l5 : AV} {x0 : Nat} {x1 : Int} : WP m187 73 [.inr (.inl l0), .inl l1, .inl l2, l3, l4, l5] [.inl x1, .inr (.inl x0)] σ Q = WP m187 74 [.inr (.inl l0), .inl l1, .inl l2, l3, l4, l5] [.inl (0), .inl x1, .inr (.inl x0)] σ Q := w_iconst d187_73 (by decide)
theorem d187_74 : adec m187 74 = some (.iastore, 1) := by decide +kernel
theorem s187_74 {l0 : Nat} {l1 : Int} {l2 : Int} {l3 : AV} {l4 : AV} {l5 : AV} {x0 : Nat} {x1 : Int} {x2 : Int} : WP m187 74 [.inr (.inl l0), .inl l1, .inl l2, l3, l4, l5] [.inl x2, .inl x1, .inr (.inl x0)] σ Q = ((kdS x0 = 20 ∧ 0 ≤ x1 ∧ x1 < ln x0) ∧ WP m187 75 [.inr (.inl l0), .inl l1, .inl l2, l3, l4, l5] [] (aup σ x0 x1.toNat x2) Q) := w_iast d187_74
theorem d187_75 : adec m187 75 = some (.iinc 2 (1), 3) := by decide +kernel
theorem s187_75 {l0 : Nat} {l1 : Int} {l2 : Int} {l3 : AV} {l4 : AV} {l5 : AV} : WP m187 75 [.inr (.inl l0), .inl l1, .inl l2, l3, l4, l5] [] σ Q = (inI (l2 + (1)) ∧ WP m187 78 [.inr (.inl l0), .inl l1, .inl (l2 + (1)), l3, l4, l5] [] σ Q) := w_iinc d187_75 rfl rfl
theorem d187_78 : adec m187 78 = some (.goto (-37), 3) := by decide +kernel
theorem s187_78 {l0 : Nat} {l1 : Int} {l2 : Int} {l3 : AV} {l4 : AV} {l5 : AV} : WP m187 78 [.inr (.inl l0), .inl l1, .inl l2, l3, l4, l5] [] σ Q = WP m187 41 [.inr (.inl l0), .inl l1, .inl l2, l3, l4, l5] [] σ Q := w_goto d187_78 (by decide)
theorem d187_81 : adec m187 81 = some (.aload_n 0, 1) := by decide +kernel
theorem s187_81 {l0 : Nat} {l1 : Int} {l2 : Int} {l3 : AV} {l4 : AV} {l5 : AV} : WP m187 81 [.inr (.inl l0), .inl l1, .inl l2, l3, l4, l5] [] σ Q = WP m187 82 [.inr (.inl l0), .inl l1, .inl l2, l3, l4, l5] [.inr (.inl l0)] σ Q := w_ld d187_81 rfl
theorem d187_82 : adec m187 82 = some (.getfield 104, 3) := by decide +kernel
theorem s187_82 {l0 : Nat} {l1 : Int} {l2 : Int} {l3 : AV} {l4 : AV} {l5 : AV} : WP m187 82 [.inr (.inl l0), .inl l1, .inl l2, l3, l4, l5] [.inr (.inl 130)] σ Q = WP m187 85 [.inr (.inl l0), .inl l1, .inl l2, l3, l4, l5] [.inl (σ 130 7)] σ Q := (w_getI (c := 10) (n := 7) d187_82 (by decide +kernel) (by decide +kernel)).trans (g_and (isO_dec (by decide +kernel)))
theorem d187_85 : adec m187 85 = some (.iconst (1), 1) := by decide +kernel
theorem s187_85 {l0 : Nat} {l1 : Int} {l2 : Int} {l3 : AV} {l4 : AV} {l5 : AV} {x0 : Int} : WP m187 85 [.inr (.inl l0), .inl l1, .inl l2, l3, l4, l5] [.inl x0] σ Q = WP m187 86 [.inr (.inl l0), .inl l1, .inl l2, l3, l4, l5] [.inl (1), .inl x0] σ Q := w_iconst d187_85 (by decide)
theorem d187_86 : adec m187 86 = some (.isub, 1) := by decide +kernel
theorem s187_86 {l0 : Nat} {l1 : Int} {l2 : Int} {l3 : AV} {l4 : AV} {l5 : AV} {x0 : Int} {x1 : Int} : WP m187 86 [.inr (.inl l0), .inl l1, .inl l2, l3, l4, l5] [.inl x1, .inl x0] σ Q = (inI (x0 - x1) ∧ WP m187 87 [.inr (.inl l0), .inl l1, .inl l2, l3, l4, l5] [.inl (x0 - x1)] σ Q) := w_isub d187_86
theorem d187_87 : adec m187 87 = some (.istore_n 2, 1) := by decide +kernel
theorem s187_87 {l0 : Nat} {l1 : Int} {l2 : Int} {l3 : AV} {l4 : AV} {l5 : AV} {x0 : Int} : WP m187 87 [.inr (.inl l0), .inl l1, .inl l2, l3, l4, l5] [.inl x0] σ Q = WP m187 88 [.inr (.inl l0), .inl l1, .inl x0, l3, l4, l5] [] σ Q := w_st1 (j := 2) d187_87 rfl (Nat.le_of_ble_eq_true rfl) rfl
theorem d187_88 : adec m187 88 = some (.iload_n 2, 1) := by decide +kernel
theorem s187_88 {l0 : Nat} {l1 : Int} {l2 : Int} {l3 : AV} {l4 : AV} {l5 : AV} : WP m187 88 [.inr (.inl l0), .inl l1, .inl l2, l3, l4, l5] [] σ Q = WP m187 89 [.inr (.inl l0), .inl l1, .inl l2, l3, l4, l5] [.inl l2] σ Q := w_ld d187_88 rfl
theorem d187_89 : adec m187 89 = some (.ifCond .lt (124), 3) := by decide +kernel
theorem s187_89 {l0 : Nat} {l1 : Int} {l2 : Int} {l3 : AV} {l4 : AV} {l5 : AV} {x0 : Int} : WP m187 89 [.inr (.inl l0), .inl l1, .inl l2, l3, l4, l5] [.inl x0] σ Q = (if x0 < 0 then WP m187 213 [.inr (.inl l0), .inl l1, .inl l2, l3, l4, l5] [] σ Q else WP m187 92 [.inr (.inl l0), .inl l1, .inl l2, l3, l4, l5] [] σ Q) := w_iflt d187_89 (by decide)
theorem d187_92 : adec m187 92 = some (.aload_n 0, 1) := by decide +kernel
theorem s187_92 {l0 : Nat} {l1 : Int} {l2 : Int} {l3 : AV} {l4 : AV} {l5 : AV} : WP m187 92 [.inr (.inl l0), .inl l1, .inl l2, l3, l4, l5] [] σ Q = WP m187 93 [.inr (.inl l0), .inl l1, .inl l2, l3, l4, l5] [.inr (.inl l0)] σ Q := w_ld d187_92 rfl
theorem d187_93 : adec m187 93 = some (.getfield 24, 3) := by decide +kernel
theorem s187_93 {l0 : Nat} {l1 : Int} {l2 : Int} {l3 : AV} {l4 : AV} {l5 : AV} : WP m187 93 [.inr (.inl l0), .inl l1, .inl l2, l3, l4, l5] [.inr (.inl 130)] σ Q = WP m187 96 [.inr (.inl l0), .inl l1, .inl l2, l3, l4, l5] [.inr (.inl 134)] σ Q := (w_getR (c := 10) (n := 6) d187_93 (by decide +kernel) (by decide +kernel)).trans (g_and ⟨isO_dec (by decide +kernel), by decide +kernel⟩)
theorem d187_96 : adec m187 96 = some (.iload_n 2, 1) := by decide +kernel
theorem s187_96 {l0 : Nat} {l1 : Int} {l2 : Int} {l3 : AV} {l4 : AV} {l5 : AV} {x0 : Nat} : WP m187 96 [.inr (.inl l0), .inl l1, .inl l2, l3, l4, l5] [.inr (.inl x0)] σ Q = WP m187 97 [.inr (.inl l0), .inl l1, .inl l2, l3, l4, l5] [.inl l2, .inr (.inl x0)] σ Q := w_ld d187_96 rfl
theorem d187_97 : adec m187 97 = some (.iaload, 1) := by decide +kernel
theorem s187_97 {l0 : Nat} {l1 : Int} {l2 : Int} {l3 : AV} {l4 : AV} {l5 : AV} {x0 : Nat} {x1 : Int} : WP m187 97 [.inr (.inl l0), .inl l1, .inl l2, l3, l4, l5] [.inl x1, .inr (.inl x0)] σ Q = ((kdS x0 = 20 ∧ 0 ≤ x1 ∧ x1 < ln x0) ∧ WP m187 98 [.inr (.inl l0), .inl l1, .inl l2, l3, l4, l5] [.inl (σ x0 x1.toNat)] σ Q) := w_iald d187_97
theorem d187_98 : adec m187 98 = some (.ifCond .ne (42), 3) := by decide +kernel
theorem s187_98 {l0 : Nat} {l1 : Int} {l2 : Int} {l3 : AV} {l4 : AV} {l5 : AV} {x0 : Int} : WP m187 98 [.inr (.inl l0), .inl l1, .inl l2, l3, l4, l5] [.inl x0] σ Q = (if x0 = 0 then WP m187 101 [.inr (.inl l0), .inl l1, .inl l2, l3, l4, l5] [] σ Q else WP m187 140 [.inr (.inl l0), .inl l1, .inl l2, l3, l4, l5] [] σ Q) := w_ifne d187_98 (by decide)
theorem d187_101 : adec m187 101 = some (.aload_n 0, 1) := by decide +kernel
theorem s187_101 {l0 : Nat} {l1 : Int} {l2 : Int} {l3 : AV} {l4 : AV} {l5 : AV} : WP m187 101 [.inr (.inl l0), .inl l1, .inl l2, l3, l4, l5] [] σ Q = WP m187 102 [.inr (.inl l0), .inl l1, .inl l2, l3, l4, l5] [.inr (.inl l0)] σ Q := w_ld d187_101 rfl
theorem d187_102 : adec m187 102 = some (.invokevirtual 175, 3) := by decide +kernel
theorem s187_102 {l0 : Nat} {l1 : Int} {l2 : Int} {l3 : AV} {l4 : AV} {l5 : AV} : WP m187 102 [.inr (.inl l0), .inl l1, .inl l2, l3, l4, l5] [.inr (.inl 130)] σ Q = CA m133 [.inr (.inl 130)] σ (fun v σ2 => WP m187 105 [.inr (.inl l0), .inl l1, .inl l2, l3, l4, l5] (v ++ []) σ2 Q) := (w_cV (k := 133) d187_102 (by decide +kernel) m133_at rfl rfl ⟨Nat.le_of_ble_eq_true rfl, Nat.le_of_ble_eq_true rfl, Nat.le_of_ble_eq_true rfl⟩ (by decide)).trans (g_and (isO_dec (by decide +kernel)))
theorem d187_105 : adec m187 105 = some (.istore_n 3, 1) := by decide +kernel
theorem s187_105 {l0 : Nat} {l1 : Int} {l2 : Int} {l3 : AV} {l4 : AV} {l5 : AV} {x0 : Int} : WP m187 105 [.inr (.inl l0), .inl l1, .inl l2, l3, l4, l5] [.inl x0] σ Q = WP m187 106 [.inr (.inl l0), .inl l1, .inl l2, .inl x0, l4, l5] [] σ Q := w_st1 (j := 3) d187_105 rfl (Nat.le_of_ble_eq_true rfl) rfl
theorem d187_106 : adec m187 106 = some (.aload_n 0, 1) := by decide +kernel
theorem s187_106 {l0 : Nat} {l1 : Int} {l2 : Int} {l3 : Int} {l4 : AV} {l5 : AV} : WP m187 106 [.inr (.inl l0), .inl l1, .inl l2, .inl l3, l4, l5] [] σ Q = WP m187 107 [.inr (.inl l0), .inl l1, .inl l2, .inl l3, l4, l5] [.inr (.inl l0)] σ Q := w_ld d187_106 rfl
theorem d187_107 : adec m187 107 = some (.invokevirtual 175, 3) := by decide +kernel
theorem s187_107 {l0 : Nat} {l1 : Int} {l2 : Int} {l3 : Int} {l4 : AV} {l5 : AV} : WP m187 107 [.inr (.inl l0), .inl l1, .inl l2, .inl l3, l4, l5] [.inr (.inl 130)] σ Q = CA m133 [.inr (.inl 130)] σ (fun v σ2 => WP m187 110 [.inr (.inl l0), .inl l1, .inl l2, .inl l3, l4, l5] (v ++ []) σ2 Q) := (w_cV (k := 133) d187_107 (by decide +kernel) m133_at rfl rfl ⟨Nat.le_of_ble_eq_true rfl, Nat.le_of_ble_eq_true rfl, Nat.le_of_ble_eq_true rfl⟩ (by decide)).trans (g_and (isO_dec (by decide +kernel)))
theorem d187_110 : adec m187 110 = some (.istore 4, 2) := by decide +kernel
theorem s187_110 {l0 : Nat} {l1 : Int} {l2 : Int} {l3 : Int} {l4 : AV} {l5 : AV} {x0 : Int} : WP m187 110 [.inr (.inl l0), .inl l1, .inl l2, .inl l3, l4, l5] [.inl x0] σ Q = WP m187 112 [.inr (.inl l0), .inl l1, .inl l2, .inl l3, .inl x0, l5] [] σ Q := w_st1 (j := 4) d187_110 rfl (Nat.le_of_ble_eq_true rfl) rfl
theorem d187_112 : adec m187 112 = some (.aload_n 0, 1) := by decide +kernel
theorem s187_112 {l0 : Nat} {l1 : Int} {l2 : Int} {l3 : Int} {l4 : Int} {l5 : AV} : WP m187 112 [.inr (.inl l0), .inl l1, .inl l2, .inl l3, .inl l4, l5] [] σ Q = WP m187 113 [.inr (.inl l0), .inl l1, .inl l2, .inl l3, .inl l4, l5] [.inr (.inl l0)] σ Q := w_ld d187_112 rfl
theorem d187_113 : adec m187 113 = some (.invokevirtual 286, 3) := by decide +kernel
theorem s187_113 {l0 : Nat} {l1 : Int} {l2 : Int} {l3 : Int} {l4 : Int} {l5 : AV} : WP m187 113 [.inr (.inl l0), .inl l1, .inl l2, .inl l3, .inl l4, l5] [.inr (.inl 130)] σ Q = CA m181 [.inr (.inl 130)] σ (fun v σ2 => WP m187 116 [.inr (.inl l0), .inl l1, .inl l2, .inl l3, .inl l4, l5] (v ++ []) σ2 Q) := (w_cV (k := 181) d187_113 (by decide +kernel) m181_at rfl rfl ⟨Nat.le_of_ble_eq_true rfl, Nat.le_of_ble_eq_true rfl, Nat.le_of_ble_eq_true rfl⟩ (by decide)).trans (g_and (isO_dec (by decide +kernel)))
theorem d187_116 : adec m187 116 = some (.istore 5, 2) := by decide +kernel
theorem s187_116 {l0 : Nat} {l1 : Int} {l2 : Int} {l3 : Int} {l4 : Int} {l5 : AV} {x0 : Int} : WP m187 116 [.inr (.inl l0), .inl l1, .inl l2, .inl l3, .inl l4, l5] [.inl x0] σ Q = WP m187 118 [.inr (.inl l0), .inl l1, .inl l2, .inl l3, .inl l4, .inl x0] [] σ Q := w_st1 (j := 5) d187_116 rfl (Nat.le_of_ble_eq_true rfl) rfl
theorem d187_118 : adec m187 118 = some (.aload_n 0, 1) := by decide +kernel
theorem s187_118 {l0 : Nat} {l1 : Int} {l2 : Int} {l3 : Int} {l4 : Int} {l5 : Int} : WP m187 118 [.inr (.inl l0), .inl l1, .inl l2, .inl l3, .inl l4, .inl l5] [] σ Q = WP m187 119 [.inr (.inl l0), .inl l1, .inl l2, .inl l3, .inl l4, .inl l5] [.inr (.inl l0)] σ Q := w_ld d187_118 rfl
theorem d187_119 : adec m187 119 = some (.iload_n 3, 1) := by decide +kernel
theorem s187_119 {l0 : Nat} {l1 : Int} {l2 : Int} {l3 : Int} {l4 : Int} {l5 : Int} {x0 : Nat} : WP m187 119 [.inr (.inl l0), .inl l1, .inl l2, .inl l3, .inl l4, .inl l5] [.inr (.inl x0)] σ Q = WP m187 120 [.inr (.inl l0), .inl l1, .inl l2, .inl l3, .inl l4, .inl l5] [.inl l3, .inr (.inl x0)] σ Q := w_ld d187_119 rfl
theorem d187_120 : adec m187 120 = some (.aload_n 0, 1) := by decide +kernel
theorem s187_120 {l0 : Nat} {l1 : Int} {l2 : Int} {l3 : Int} {l4 : Int} {l5 : Int} {x0 : Nat} {x1 : Int} : WP m187 120 [.inr (.inl l0), .inl l1, .inl l2, .inl l3, .inl l4, .inl l5] [.inl x1, .inr (.inl x0)] σ Q = WP m187 121 [.inr (.inl l0), .inl l1, .inl l2, .inl l3, .inl l4, .inl l5] [.inr (.inl l0), .inl x1, .inr (.inl x0)] σ Q := w_ld d187_120 rfl
theorem d187_121 : adec m187 121 = some (.iload 4, 2) := by decide +kernel
theorem s187_121 {l0 : Nat} {l1 : Int} {l2 : Int} {l3 : Int} {l4 : Int} {l5 : Int} {x0 : Nat} {x1 : Int} {x2 : Nat} : WP m187 121 [.inr (.inl l0), .inl l1, .inl l2, .inl l3, .inl l4, .inl l5] [.inr (.inl x2), .inl x1, .inr (.inl x0)] σ Q = WP m187 123 [.inr (.inl l0), .inl l1, .inl l2, .inl l3, .inl l4, .inl l5] [.inl l4, .inr (.inl x2), .inl x1, .inr (.inl x0)] σ Q := w_ld d187_121 rfl
theorem d187_123 : adec m187 123 = some (.iload 5, 2) := by decide +kernel
theorem s187_123 {l0 : Nat} {l1 : Int} {l2 : Int} {l3 : Int} {l4 : Int} {l5 : Int} {x0 : Nat} {x1 : Int} {x2 : Nat} {x3 : Int} : WP m187 123 [.inr (.inl l0), .inl l1, .inl l2, .inl l3, .inl l4, .inl l5] [.inl x3, .inr (.inl x2), .inl x1, .inr (.inl x0)] σ Q = WP m187 125 [.inr (.inl l0), .inl l1, .inl l2, .inl l3, .inl l4, .inl l5] [.inl l5, .inl x3, .inr (.inl x2), .inl x1, .inr (.inl x0)] σ Q := w_ld d187_123 rfl
theorem d187_125 : adec m187 125 = some (.invokevirtual 283, 3) := by decide +kernel
theorem s187_125 {l0 : Nat} {l1 : Int} {l2 : Int} {l3 : Int} {l4 : Int} {l5 : Int} {x0 : Nat} {x1 : Int} {x3 : Int} {x4 : Int} : WP m187 125 [.inr (.inl l0), .inl l1, .inl l2, .inl l3, .inl l4, .inl l5] [.inl x4, .inl x3, .inr (.inl 130), .inl x1, .inr (.inl x0)] σ Q = CA m180 [.inr (.inl 130), .inl x3, .inl x4] σ (fun v σ2 => WP m187 128 [.inr (.inl l0), .inl l1, .inl l2, .inl l3, .inl l4, .inl l5] (v ++ [.inl x1, .inr (.inl x0)]) σ2 Q) := (w_cV (k := 180) d187_125 (by decide +kernel) m180_at rfl rfl ⟨Nat.le_of_ble_eq_true rfl, Nat.le_of_ble_eq_true rfl, Nat.le_of_ble_eq_true rfl⟩ (by decide)).trans (g_and (isO_dec (by decide +kernel)))
theorem d187_128 : adec m187 128 = some (.invokevirtual 292, 3) := by decide +kernel
theorem s187_128 {l0 : Nat} {l1 : Int} {l2 : Int} {l3 : Int} {l4 : Int} {l5 : Int} {x1 : Int} {x2 : Int} : WP m187 128 [.inr (.inl l0), .inl l1, .inl l2, .inl l3, .inl l4, .inl l5] [.inl x2, .inl x1, .inr (.inl 130)] σ Q = CA m185 [.inr (.inl 130), .inl x1, .inl x2] σ (fun v σ2 => WP m187 131 [.inr (.inl l0), .inl l1, .inl l2, .inl l3, .inl l4, .inl l5] (v ++ []) σ2 Q) := (w_cV (k := 185) d187_128 (by decide +kernel) m185_at rfl rfl ⟨Nat.le_of_ble_eq_true rfl, Nat.le_of_ble_eq_true rfl, Nat.le_of_ble_eq_true rfl⟩ (by decide)).trans (g_and (isO_dec (by decide +kernel)))
theorem d187_131 : adec m187 131 = some (.aload_n 0, 1) := by decide +kernel
theorem s187_131 {l0 : Nat} {l1 : Int} {l2 : Int} {l3 : Int} {l4 : Int} {l5 : Int} : WP m187 131 [.inr (.inl l0), .inl l1, .inl l2, .inl l3, .inl l4, .inl l5] [] σ Q = WP m187 132 [.inr (.inl l0), .inl l1, .inl l2, .inl l3, .inl l4, .inl l5] [.inr (.inl l0)] σ Q := w_ld d187_131 rfl
theorem d187_132 : adec m187 132 = some (.iload 5, 2) := by decide +kernel
theorem s187_132 {l0 : Nat} {l1 : Int} {l2 : Int} {l3 : Int} {l4 : Int} {l5 : Int} {x0 : Nat} : WP m187 132 [.inr (.inl l0), .inl l1, .inl l2, .inl l3, .inl l4, .inl l5] [.inr (.inl x0)] σ Q = WP m187 134 [.inr (.inl l0), .inl l1, .inl l2, .inl l3, .inl l4, .inl l5] [.inl l5, .inr (.inl x0)] σ Q := w_ld d187_132 rfl
theorem d187_134 : adec m187 134 = some (.invokevirtual 172, 3) := by decide +kernel
theorem s187_134 {l0 : Nat} {l1 : Int} {l2 : Int} {l3 : Int} {l4 : Int} {l5 : Int} {x1 : Int} : WP m187 134 [.inr (.inl l0), .inl l1, .inl l2, .inl l3, .inl l4, .inl l5] [.inl x1, .inr (.inl 130)] σ Q = CA m132 [.inr (.inl 130), .inl x1] σ (fun v σ2 => WP m187 137 [.inr (.inl l0), .inl l1, .inl l2, .inl l3, .inl l4, .inl l5] (v ++ []) σ2 Q) := (w_cV (k := 132) d187_134 (by decide +kernel) m132_at rfl rfl ⟨Nat.le_of_ble_eq_true rfl, Nat.le_of_ble_eq_true rfl, Nat.le_of_ble_eq_true rfl⟩ (by decide)).trans (g_and (isO_dec (by decide +kernel)))
theorem d187_137 : adec m187 137 = some (.goto (70), 3) := by decide +kernel
theorem s187_137 {l0 : Nat} {l1 : Int} {l2 : Int} {l3 : Int} {l4 : Int} {l5 : Int} : WP m187 137 [.inr (.inl l0), .inl l1, .inl l2, .inl l3, .inl l4, .inl l5] [] σ Q = WP m187 207 [.inr (.inl l0), .inl l1, .inl l2, .inl l3, .inl l4, .inl l5] [] σ Q := w_goto d187_137 (by decide)
theorem d187_140 : adec m187 140 = some (.aload_n 0, 1) := by decide +kernel
theorem s187_140 {l0 : Nat} {l1 : Int} {l2 : Int} {l3 : AV} {l4 : AV} {l5 : AV} : WP m187 140 [.inr (.inl l0), .inl l1, .inl l2, l3, l4, l5] [] σ Q = WP m187 141 [.inr (.inl l0), .inl l1, .inl l2, l3, l4, l5] [.inr (.inl l0)] σ Q := w_ld d187_140 rfl
theorem d187_141 : adec m187 141 = some (.getfield 24, 3) := by decide +kernel
theorem s187_141 {l0 : Nat} {l1 : Int} {l2 : Int} {l3 : AV} {l4 : AV} {l5 : AV} : WP m187 141 [.inr (.inl l0), .inl l1, .inl l2, l3, l4, l5] [.inr (.inl 130)] σ Q = WP m187 144 [.inr (.inl l0), .inl l1, .inl l2, l3, l4, l5] [.inr (.inl 134)] σ Q := (w_getR (c := 10) (n := 6) d187_141 (by decide +kernel) (by decide +kernel)).trans (g_and ⟨isO_dec (by decide +kernel), by decide +kernel⟩)
theorem d187_144 : adec m187 144 = some (.iload_n 2, 1) := by decide +kernel
theorem s187_144 {l0 : Nat} {l1 : Int} {l2 : Int} {l3 : AV} {l4 : AV} {l5 : AV} {x0 : Nat} : WP m187 144 [.inr (.inl l0), .inl l1, .inl l2, l3, l4, l5] [.inr (.inl x0)] σ Q = WP m187 145 [.inr (.inl l0), .inl l1, .inl l2, l3, l4, l5] [.inl l2, .inr (.inl x0)] σ Q := w_ld d187_144 rfl
theorem d187_145 : adec m187 145 = some (.iaload, 1) := by decide +kernel
theorem s187_145 {l0 : Nat} {l1 : Int} {l2 : Int} {l3 : AV} {l4 : AV} {l5 : AV} {x0 : Nat} {x1 : Int} : WP m187 145 [.inr (.inl l0), .inl l1, .inl l2, l3, l4, l5] [.inl x1, .inr (.inl x0)] σ Q = ((kdS x0 = 20 ∧ 0 ≤ x1 ∧ x1 < ln x0) ∧ WP m187 146 [.inr (.inl l0), .inl l1, .inl l2, l3, l4, l5] [.inl (σ x0 x1.toNat)] σ Q) := w_iald d187_145
theorem d187_146 : adec m187 146 = some (.invokestatic 162, 3) := by decide +kernel
theorem s187_146 {l0 : Nat} {l1 : Int} {l2 : Int} {l3 : AV} {l4 : AV} {l5 : AV} {x0 : Int} : WP m187 146 [.inr (.inl l0), .inl l1, .inl l2, l3, l4, l5] [.inl x0] σ Q = CA m129 [.inl x0] σ (fun v σ2 => WP m187 149 [.inr (.inl l0), .inl l1, .inl l2, l3, l4, l5] (v ++ []) σ2 Q) := w_cS (k := 129) d187_146 (by decide +kernel) (md := 1) (by decide +kernel) m129_at rfl rfl ⟨Nat.le_of_ble_eq_true rfl, Nat.le_of_ble_eq_true rfl, Nat.le_of_ble_eq_true rfl⟩ (by decide)
theorem d187_149 : adec m187 149 = some (.ifCond .eq (24), 3) := by decide +kernel
theorem s187_149 {l0 : Nat} {l1 : Int} {l2 : Int} {l3 : AV} {l4 : AV} {l5 : AV} {x0 : Int} : WP m187 149 [.inr (.inl l0), .inl l1, .inl l2, l3, l4, l5] [.inl x0] σ Q = (if x0 = 0 then WP m187 173 [.inr (.inl l0), .inl l1, .inl l2, l3, l4, l5] [] σ Q else WP m187 152 [.inr (.inl l0), .inl l1, .inl l2, l3, l4, l5] [] σ Q) := w_ifeq d187_149 (by decide)
theorem d187_152 : adec m187 152 = some (.aload_n 0, 1) := by decide +kernel
theorem s187_152 {l0 : Nat} {l1 : Int} {l2 : Int} {l3 : AV} {l4 : AV} {l5 : AV} : WP m187 152 [.inr (.inl l0), .inl l1, .inl l2, l3, l4, l5] [] σ Q = WP m187 153 [.inr (.inl l0), .inl l1, .inl l2, l3, l4, l5] [.inr (.inl l0)] σ Q := w_ld d187_152 rfl
theorem d187_153 : adec m187 153 = some (.aload_n 0, 1) := by decide +kernel
theorem s187_153 {l0 : Nat} {l1 : Int} {l2 : Int} {l3 : AV} {l4 : AV} {l5 : AV} {x0 : Nat} : WP m187 153 [.inr (.inl l0), .inl l1, .inl l2, l3, l4, l5] [.inr (.inl x0)] σ Q = WP m187 154 [.inr (.inl l0), .inl l1, .inl l2, l3, l4, l5] [.inr (.inl l0), .inr (.inl x0)] σ Q := w_ld d187_153 rfl
theorem d187_154 : adec m187 154 = some (.aload_n 0, 1) := by decide +kernel
theorem s187_154 {l0 : Nat} {l1 : Int} {l2 : Int} {l3 : AV} {l4 : AV} {l5 : AV} {x0 : Nat} {x1 : Nat} : WP m187 154 [.inr (.inl l0), .inl l1, .inl l2, l3, l4, l5] [.inr (.inl x1), .inr (.inl x0)] σ Q = WP m187 155 [.inr (.inl l0), .inl l1, .inl l2, l3, l4, l5] [.inr (.inl l0), .inr (.inl x1), .inr (.inl x0)] σ Q := w_ld d187_154 rfl
theorem d187_155 : adec m187 155 = some (.getfield 69, 3) := by decide +kernel
theorem s187_155 {l0 : Nat} {l1 : Int} {l2 : Int} {l3 : AV} {l4 : AV} {l5 : AV} {x0 : Nat} {x1 : Nat} : WP m187 155 [.inr (.inl l0), .inl l1, .inl l2, l3, l4, l5] [.inr (.inl 130), .inr (.inl x1), .inr (.inl x0)] σ Q = WP m187 158 [.inr (.inl l0), .inl l1, .inl l2, l3, l4, l5] [.inr (.inl 149), .inr (.inl x1), .inr (.inl x0)] σ Q := (w_getR (c := 10) (n := 31) d187_155 (by decide +kernel) (by decide +kernel)).trans (g_and ⟨isO_dec (by decide +kernel), by decide +kernel⟩)
theorem d187_158 : adec m187 158 = some (.iload_n 2, 1) := by decide +kernel
theorem s187_158 {l0 : Nat} {l1 : Int} {l2 : Int} {l3 : AV} {l4 : AV} {l5 : AV} {x0 : Nat} {x1 : Nat} {x2 : Nat} : WP m187 158 [.inr (.inl l0), .inl l1, .inl l2, l3, l4, l5] [.inr (.inl x2), .inr (.inl x1), .inr (.inl x0)] σ Q = WP m187 159 [.inr (.inl l0), .inl l1, .inl l2, l3, l4, l5] [.inl l2, .inr (.inl x2), .inr (.inl x1), .inr (.inl x0)] σ Q := w_ld d187_158 rfl
theorem d187_159 : adec m187 159 = some (.iaload, 1) := by decide +kernel
theorem s187_159 {l0 : Nat} {l1 : Int} {l2 : Int} {l3 : AV} {l4 : AV} {l5 : AV} {x0 : Nat} {x1 : Nat} {x2 : Nat} {x3 : Int} : WP m187 159 [.inr (.inl l0), .inl l1, .inl l2, l3, l4, l5] [.inl x3, .inr (.inl x2), .inr (.inl x1), .inr (.inl x0)] σ Q = ((kdS x2 = 20 ∧ 0 ≤ x3 ∧ x3 < ln x2) ∧ WP m187 160 [.inr (.inl l0), .inl l1, .inl l2, l3, l4, l5] [.inl (σ x2 x3.toNat), .inr (.inl x1), .inr (.inl x0)] σ Q) := w_iald d187_159
theorem d187_160 : adec m187 160 = some (.aload_n 0, 1) := by decide +kernel
theorem s187_160 {l0 : Nat} {l1 : Int} {l2 : Int} {l3 : AV} {l4 : AV} {l5 : AV} {x0 : Nat} {x1 : Nat} {x2 : Int} : WP m187 160 [.inr (.inl l0), .inl l1, .inl l2, l3, l4, l5] [.inl x2, .inr (.inl x1), .inr (.inl x0)] σ Q = WP m187 161 [.inr (.inl l0), .inl l1, .inl l2, l3, l4, l5] [.inr (.inl l0), .inl x2, .inr (.inl x1), .inr (.inl x0)] σ Q := w_ld d187_160 rfl
theorem d187_161 : adec m187 161 = some (.invokevirtual 175, 3) := by decide +kernel
theorem s187_161 {l0 : Nat} {l1 : Int} {l2 : Int} {l3 : AV} {l4 : AV} {l5 : AV} {x0 : Nat} {x1 : Nat} {x2 : Int} : WP m187 161 [.inr (.inl l0), .inl l1, .inl l2, l3, l4, l5] [.inr (.inl 130), .inl x2, .inr (.inl x1), .inr (.inl x0)] σ Q = CA m133 [.inr (.inl 130)] σ (fun v σ2 => WP m187 164 [.inr (.inl l0), .inl l1, .inl l2, l3, l4, l5] (v ++ [.inl x2, .inr (.inl x1), .inr (.inl x0)]) σ2 Q) := (w_cV (k := 133) d187_161 (by decide +kernel) m133_at rfl rfl ⟨Nat.le_of_ble_eq_true rfl, Nat.le_of_ble_eq_true rfl, Nat.le_of_ble_eq_true rfl⟩ (by decide)).trans (g_and (isO_dec (by decide +kernel)))
theorem d187_164 : adec m187 164 = some (.invokevirtual 283, 3) := by decide +kernel
theorem s187_164 {l0 : Nat} {l1 : Int} {l2 : Int} {l3 : AV} {l4 : AV} {l5 : AV} {x0 : Nat} {x2 : Int} {x3 : Int} : WP m187 164 [.inr (.inl l0), .inl l1, .inl l2, l3, l4, l5] [.inl x3, .inl x2, .inr (.inl 130), .inr (.inl x0)] σ Q = CA m180 [.inr (.inl 130), .inl x2, .inl x3] σ (fun v σ2 => WP m187 167 [.inr (.inl l0), .inl l1, .inl l2, l3, l4, l5] (v ++ [.inr (.inl x0)]) σ2 Q) := (w_cV (k := 180) d187_164 (by decide +kernel) m180_at rfl rfl ⟨Nat.le_of_ble_eq_true rfl, Nat.le_of_ble_eq_true rfl, Nat.le_of_ble_eq_true rfl⟩ (by decide)).trans (g_and (isO_dec (by decide +kernel)))
theorem d187_167 : adec m187 167 = some (.invokevirtual 172, 3) := by decide +kernel
theorem s187_167 {l0 : Nat} {l1 : Int} {l2 : Int} {l3 : AV} {l4 : AV} {l5 : AV} {x1 : Int} : WP m187 167 [.inr (.inl l0), .inl l1, .inl l2, l3, l4, l5] [.inl x1, .inr (.inl 130)] σ Q = CA m132 [.inr (.inl 130), .inl x1] σ (fun v σ2 => WP m187 170 [.inr (.inl l0), .inl l1, .inl l2, l3, l4, l5] (v ++ []) σ2 Q) := (w_cV (k := 132) d187_167 (by decide +kernel) m132_at rfl rfl ⟨Nat.le_of_ble_eq_true rfl, Nat.le_of_ble_eq_true rfl, Nat.le_of_ble_eq_true rfl⟩ (by decide)).trans (g_and (isO_dec (by decide +kernel)))
theorem d187_170 : adec m187 170 = some (.goto (37), 3) := by decide +kernel
theorem s187_170 {l0 : Nat} {l1 : Int} {l2 : Int} {l3 : AV} {l4 : AV} {l5 : AV} : WP m187 170 [.inr (.inl l0), .inl l1, .inl l2, l3, l4, l5] [] σ Q = WP m187 207 [.inr (.inl l0), .inl l1, .inl l2, l3, l4, l5] [] σ Q := w_goto d187_170 (by decide)
theorem d187_173 : adec m187 173 = some (.aload_n 0, 1) := by decide +kernel
theorem s187_173 {l0 : Nat} {l1 : Int} {l2 : Int} {l3 : AV} {l4 : AV} {l5 : AV} : WP m187 173 [.inr (.inl l0), .inl l1, .inl l2, l3, l4, l5] [] σ Q = WP m187 174 [.inr (.inl l0), .inl l1, .inl l2, l3, l4, l5] [.inr (.inl l0)] σ Q := w_ld d187_173 rfl
theorem d187_174 : adec m187 174 = some (.aload_n 0, 1) := by decide +kernel
theorem s187_174 {l0 : Nat} {l1 : Int} {l2 : Int} {l3 : AV} {l4 : AV} {l5 : AV} {x0 : Nat} : WP m187 174 [.inr (.inl l0), .inl l1, .inl l2, l3, l4, l5] [.inr (.inl x0)] σ Q = WP m187 175 [.inr (.inl l0), .inl l1, .inl l2, l3, l4, l5] [.inr (.inl l0), .inr (.inl x0)] σ Q := w_ld d187_174 rfl
theorem d187_175 : adec m187 175 = some (.getfield 24, 3) := by decide +kernel
theorem s187_175 {l0 : Nat} {l1 : Int} {l2 : Int} {l3 : AV} {l4 : AV} {l5 : AV} {x0 : Nat} : WP m187 175 [.inr (.inl l0), .inl l1, .inl l2, l3, l4, l5] [.inr (.inl 130), .inr (.inl x0)] σ Q = WP m187 178 [.inr (.inl l0), .inl l1, .inl l2, l3, l4, l5] [.inr (.inl 134), .inr (.inl x0)] σ Q := (w_getR (c := 10) (n := 6) d187_175 (by decide +kernel) (by decide +kernel)).trans (g_and ⟨isO_dec (by decide +kernel), by decide +kernel⟩)
theorem d187_178 : adec m187 178 = some (.iload_n 2, 1) := by decide +kernel
theorem s187_178 {l0 : Nat} {l1 : Int} {l2 : Int} {l3 : AV} {l4 : AV} {l5 : AV} {x0 : Nat} {x1 : Nat} : WP m187 178 [.inr (.inl l0), .inl l1, .inl l2, l3, l4, l5] [.inr (.inl x1), .inr (.inl x0)] σ Q = WP m187 179 [.inr (.inl l0), .inl l1, .inl l2, l3, l4, l5] [.inl l2, .inr (.inl x1), .inr (.inl x0)] σ Q := w_ld d187_178 rfl
theorem d187_179 : adec m187 179 = some (.iaload, 1) := by decide +kernel
theorem s187_179 {l0 : Nat} {l1 : Int} {l2 : Int} {l3 : AV} {l4 : AV} {l5 : AV} {x0 : Nat} {x1 : Nat} {x2 : Int} : WP m187 179 [.inr (.inl l0), .inl l1, .inl l2, l3, l4, l5] [.inl x2, .inr (.inl x1), .inr (.inl x0)] σ Q = ((kdS x1 = 20 ∧ 0 ≤ x2 ∧ x2 < ln x1) ∧ WP m187 180 [.inr (.inl l0), .inl l1, .inl l2, l3, l4, l5] [.inl (σ x1 x2.toNat), .inr (.inl x0)] σ Q) := w_iald d187_179
theorem d187_180 : adec m187 180 = some (.invokestatic 134, 3) := by decide +kernel
theorem s187_180 {l0 : Nat} {l1 : Int} {l2 : Int} {l3 : AV} {l4 : AV} {l5 : AV} {x0 : Nat} {x1 : Int} : WP m187 180 [.inr (.inl l0), .inl l1, .inl l2, l3, l4, l5] [.inl x1, .inr (.inl x0)] σ Q = CA m128 [.inl x1] σ (fun v σ2 => WP m187 183 [.inr (.inl l0), .inl l1, .inl l2, l3, l4, l5] (v ++ [.inr (.inl x0)]) σ2 Q) := w_cS (k := 128) d187_180 (by decide +kernel) (md := 1) (by decide +kernel) m128_at rfl rfl ⟨Nat.le_of_ble_eq_true rfl, Nat.le_of_ble_eq_true rfl, Nat.le_of_ble_eq_true rfl⟩ (by decide)
theorem d187_183 : adec m187 183 = some (.ifCond .eq (11), 3) := by decide +kernel
theorem s187_183 {l0 : Nat} {l1 : Int} {l2 : Int} {l3 : AV} {l4 : AV} {l5 : AV} {x0 : Nat} {x1 : Int} : WP m187 183 [.inr (.inl l0), .inl l1, .inl l2, l3, l4, l5] [.inl x1, .inr (.inl x0)] σ Q = (if x1 = 0 then WP m187 194 [.inr (.inl l0), .inl l1, .inl l2, l3, l4, l5] [.inr (.inl x0)] σ Q else WP m187 186 [.inr (.inl l0), .inl l1, .inl l2, l3, l4, l5] [.inr (.inl x0)] σ Q) := w_ifeq d187_183 (by decide)
theorem d187_186 : adec m187 186 = some (.aload_n 0, 1) := by decide +kernel
theorem s187_186 {l0 : Nat} {l1 : Int} {l2 : Int} {l3 : AV} {l4 : AV} {l5 : AV} {x0 : Nat} : WP m187 186 [.inr (.inl l0), .inl l1, .inl l2, l3, l4, l5] [.inr (.inl x0)] σ Q = WP m187 187 [.inr (.inl l0), .inl l1, .inl l2, l3, l4, l5] [.inr (.inl l0), .inr (.inl x0)] σ Q := w_ld d187_186 rfl
theorem d187_187 : adec m187 187 = some (.iload_n 2, 1) := by decide +kernel
theorem s187_187 {l0 : Nat} {l1 : Int} {l2 : Int} {l3 : AV} {l4 : AV} {l5 : AV} {x0 : Nat} {x1 : Nat} : WP m187 187 [.inr (.inl l0), .inl l1, .inl l2, l3, l4, l5] [.inr (.inl x1), .inr (.inl x0)] σ Q = WP m187 188 [.inr (.inl l0), .inl l1, .inl l2, l3, l4, l5] [.inl l2, .inr (.inl x1), .inr (.inl x0)] σ Q := w_ld d187_187 rfl
theorem d187_188 : adec m187 188 = some (.invokevirtual 295, 3) := by decide +kernel
theorem s187_188 {l0 : Nat} {l1 : Int} {l2 : Int} {l3 : AV} {l4 : AV} {l5 : AV} {x0 : Nat} {x2 : Int} : WP m187 188 [.inr (.inl l0), .inl l1, .inl l2, l3, l4, l5] [.inl x2, .inr (.inl 130), .inr (.inl x0)] σ Q = CA m184 [.inr (.inl 130), .inl x2] σ (fun v σ2 => WP m187 191 [.inr (.inl l0), .inl l1, .inl l2, l3, l4, l5] (v ++ [.inr (.inl x0)]) σ2 Q) := (w_cV (k := 184) d187_188 (by decide +kernel) m184_at rfl rfl ⟨Nat.le_of_ble_eq_true rfl, Nat.le_of_ble_eq_true rfl, Nat.le_of_ble_eq_true rfl⟩ (by decide)).trans (g_and (isO_dec (by decide +kernel)))
theorem d187_191 : adec m187 191 = some (.goto (13), 3) := by decide +kernel
theorem s187_191 {l0 : Nat} {l1 : Int} {l2 : Int} {l3 : AV} {l4 : AV} {l5 : AV} {x0 : Nat} {x1 : Int} : WP m187 191 [.inr (.inl l0), .inl l1, .inl l2, l3, l4, l5] [.inl x1, .inr (.inl x0)] σ Q = WP m187 204 [.inr (.inl l0), .inl l1, .inl l2, l3, l4, l5] [.inl x1, .inr (.inl x0)] σ Q := w_goto d187_191 (by decide)
theorem d187_194 : adec m187 194 = some (.aload_n 0, 1) := by decide +kernel
theorem s187_194 {l0 : Nat} {l1 : Int} {l2 : Int} {l3 : AV} {l4 : AV} {l5 : AV} {x0 : Nat} : WP m187 194 [.inr (.inl l0), .inl l1, .inl l2, l3, l4, l5] [.inr (.inl x0)] σ Q = WP m187 195 [.inr (.inl l0), .inl l1, .inl l2, l3, l4, l5] [.inr (.inl l0), .inr (.inl x0)] σ Q := w_ld d187_194 rfl
theorem d187_195 : adec m187 195 = some (.aload_n 0, 1) := by decide +kernel
theorem s187_195 {l0 : Nat} {l1 : Int} {l2 : Int} {l3 : AV} {l4 : AV} {l5 : AV} {x0 : Nat} {x1 : Nat} : WP m187 195 [.inr (.inl l0), .inl l1, .inl l2, l3, l4, l5] [.inr (.inl x1), .inr (.inl x0)] σ Q = WP m187 196 [.inr (.inl l0), .inl l1, .inl l2, l3, l4, l5] [.inr (.inl l0), .inr (.inl x1), .inr (.inl x0)] σ Q := w_ld d187_195 rfl
theorem d187_196 : adec m187 196 = some (.getfield 24, 3) := by decide +kernel
theorem s187_196 {l0 : Nat} {l1 : Int} {l2 : Int} {l3 : AV} {l4 : AV} {l5 : AV} {x0 : Nat} {x1 : Nat} : WP m187 196 [.inr (.inl l0), .inl l1, .inl l2, l3, l4, l5] [.inr (.inl 130), .inr (.inl x1), .inr (.inl x0)] σ Q = WP m187 199 [.inr (.inl l0), .inl l1, .inl l2, l3, l4, l5] [.inr (.inl 134), .inr (.inl x1), .inr (.inl x0)] σ Q := (w_getR (c := 10) (n := 6) d187_196 (by decide +kernel) (by decide +kernel)).trans (g_and ⟨isO_dec (by decide +kernel), by decide +kernel⟩)
theorem d187_199 : adec m187 199 = some (.iload_n 2, 1) := by decide +kernel
theorem s187_199 {l0 : Nat} {l1 : Int} {l2 : Int} {l3 : AV} {l4 : AV} {l5 : AV} {x0 : Nat} {x1 : Nat} {x2 : Nat} : WP m187 199 [.inr (.inl l0), .inl l1, .inl l2, l3, l4, l5] [.inr (.inl x2), .inr (.inl x1), .inr (.inl x0)] σ Q = WP m187 200 [.inr (.inl l0), .inl l1, .inl l2, l3, l4, l5] [.inl l2, .inr (.inl x2), .inr (.inl x1), .inr (.inl x0)] σ Q := w_ld d187_199 rfl
theorem d187_200 : adec m187 200 = some (.iaload, 1) := by decide +kernel
theorem s187_200 {l0 : Nat} {l1 : Int} {l2 : Int} {l3 : AV} {l4 : AV} {l5 : AV} {x0 : Nat} {x1 : Nat} {x2 : Nat} {x3 : Int} : WP m187 200 [.inr (.inl l0), .inl l1, .inl l2, l3, l4, l5] [.inl x3, .inr (.inl x2), .inr (.inl x1), .inr (.inl x0)] σ Q = ((kdS x2 = 20 ∧ 0 ≤ x3 ∧ x3 < ln x2) ∧ WP m187 201 [.inr (.inl l0), .inl l1, .inl l2, l3, l4, l5] [.inl (σ x2 x3.toNat), .inr (.inl x1), .inr (.inl x0)] σ Q) := w_iald d187_200
theorem d187_201 : adec m187 201 = some (.invokevirtual 298, 3) := by decide +kernel
theorem s187_201 {l0 : Nat} {l1 : Int} {l2 : Int} {l3 : AV} {l4 : AV} {l5 : AV} {x0 : Nat} {x2 : Int} : WP m187 201 [.inr (.inl l0), .inl l1, .inl l2, l3, l4, l5] [.inl x2, .inr (.inl 130), .inr (.inl x0)] σ Q = CA m183 [.inr (.inl 130), .inl x2] σ (fun v σ2 => WP m187 204 [.inr (.inl l0), .inl l1, .inl l2, l3, l4, l5] (v ++ [.inr (.inl x0)]) σ2 Q) := (w_cV (k := 183) d187_201 (by decide +kernel) m183_at rfl rfl ⟨Nat.le_of_ble_eq_true rfl, Nat.le_of_ble_eq_true rfl, Nat.le_of_ble_eq_true rfl⟩ (by decide)).trans (g_and (isO_dec (by decide +kernel)))
theorem d187_204 : adec m187 204 = some (.invokevirtual 172, 3) := by decide +kernel
theorem s187_204 {l0 : Nat} {l1 : Int} {l2 : Int} {l3 : AV} {l4 : AV} {l5 : AV} {x1 : Int} : WP m187 204 [.inr (.inl l0), .inl l1, .inl l2, l3, l4, l5] [.inl x1, .inr (.inl 130)] σ Q = CA m132 [.inr (.inl 130), .inl x1] σ (fun v σ2 => WP m187 207 [.inr (.inl l0), .inl l1, .inl l2, l3, l4, l5] (v ++ []) σ2 Q) := (w_cV (k := 132) d187_204 (by decide +kernel) m132_at rfl rfl ⟨Nat.le_of_ble_eq_true rfl, Nat.le_of_ble_eq_true rfl, Nat.le_of_ble_eq_true rfl⟩ (by decide)).trans (g_and (isO_dec (by decide +kernel)))
theorem d187_207 : adec m187 207 = some (.iinc 2 (-1), 3) := by decide +kernel
theorem s187_207 {l0 : Nat} {l1 : Int} {l2 : Int} {l3 : AV} {l4 : AV} {l5 : AV} : WP m187 207 [.inr (.inl l0), .inl l1, .inl l2, l3, l4, l5] [] σ Q = (inI (l2 + (-1)) ∧ WP m187 210 [.inr (.inl l0), .inl l1, .inl (l2 + (-1)), l3, l4, l5] [] σ Q) := w_iinc d187_207 rfl rfl
theorem d187_210 : adec m187 210 = some (.goto (-122), 3) := by decide +kernel
theorem s187_210 {l0 : Nat} {l1 : Int} {l2 : Int} {l3 : AV} {l4 : AV} {l5 : AV} : WP m187 210 [.inr (.inl l0), .inl l1, .inl l2, l3, l4, l5] [] σ Q = WP m187 88 [.inr (.inl l0), .inl l1, .inl l2, l3, l4, l5] [] σ Q := w_goto d187_210 (by decide)
theorem d187_213 : adec m187 213 = some (.aload_n 0, 1) := by decide +kernel
theorem s187_213 {l0 : Nat} {l1 : Int} {l2 : Int} {l3 : AV} {l4 : AV} {l5 : AV} : WP m187 213 [.inr (.inl l0), .inl l1, .inl l2, l3, l4, l5] [] σ Q = WP m187 214 [.inr (.inl l0), .inl l1, .inl l2, l3, l4, l5] [.inr (.inl l0)] σ Q := w_ld d187_213 rfl
theorem d187_214 : adec m187 214 = some (.invokevirtual 175, 3) := by decide +kernel
theorem s187_214 {l0 : Nat} {l1 : Int} {l2 : Int} {l3 : AV} {l4 : AV} {l5 : AV} : WP m187 214 [.inr (.inl l0), .inl l1, .inl l2, l3, l4, l5] [.inr (.inl 130)] σ Q = CA m133 [.inr (.inl 130)] σ (fun v σ2 => WP m187 217 [.inr (.inl l0), .inl l1, .inl l2, l3, l4, l5] (v ++ []) σ2 Q) := (w_cV (k := 133) d187_214 (by decide +kernel) m133_at rfl rfl ⟨Nat.le_of_ble_eq_true rfl, Nat.le_of_ble_eq_true rfl, Nat.le_of_ble_eq_true rfl⟩ (by decide)).trans (g_and (isO_dec (by decide +kernel)))
theorem d187_217 : adec m187 217 = some (.istore_n 2, 1) := by decide +kernel
theorem s187_217 {l0 : Nat} {l1 : Int} {l2 : Int} {l3 : AV} {l4 : AV} {l5 : AV} {x0 : Int} : WP m187 217 [.inr (.inl l0), .inl l1, .inl l2, l3, l4, l5] [.inl x0] σ Q = WP m187 218 [.inr (.inl l0), .inl l1, .inl x0, l3, l4, l5] [] σ Q := w_st1 (j := 2) d187_217 rfl (Nat.le_of_ble_eq_true rfl) rfl
theorem d187_218 : adec m187 218 = some (.aload_n 0, 1) := by decide +kernel
theorem s187_218 {l0 : Nat} {l1 : Int} {l2 : Int} {l3 : AV} {l4 : AV} {l5 : AV} : WP m187 218 [.inr (.inl l0), .inl l1, .inl l2, l3, l4, l5] [] σ Q = WP m187 219 [.inr (.inl l0), .inl l1, .inl l2, l3, l4, l5] [.inr (.inl l0)] σ Q := w_ld d187_218 rfl
theorem d187_219 : adec m187 219 = some (.invokevirtual 301, 3) := by decide +kernel
theorem s187_219 {l0 : Nat} {l1 : Int} {l2 : Int} {l3 : AV} {l4 : AV} {l5 : AV} : WP m187 219 [.inr (.inl l0), .inl l1, .inl l2, l3, l4, l5] [.inr (.inl 130)] σ Q = CA m186 [.inr (.inl 130)] σ (fun v σ2 => WP m187 222 [.inr (.inl l0), .inl l1, .inl l2, l3, l4, l5] (v ++ []) σ2 Q) := (w_cV (k := 186) d187_219 (by decide +kernel) m186_at rfl rfl ⟨Nat.le_of_ble_eq_true rfl, Nat.le_of_ble_eq_true rfl, Nat.le_of_ble_eq_true rfl⟩ (by decide)).trans (g_and (isO_dec (by decide +kernel)))
theorem d187_222 : adec m187 222 = some (.ifCond .eq (7), 3) := by decide +kernel
theorem s187_222 {l0 : Nat} {l1 : Int} {l2 : Int} {l3 : AV} {l4 : AV} {l5 : AV} {x0 : Int} : WP m187 222 [.inr (.inl l0), .inl l1, .inl l2, l3, l4, l5] [.inl x0] σ Q = (if x0 = 0 then WP m187 229 [.inr (.inl l0), .inl l1, .inl l2, l3, l4, l5] [] σ Q else WP m187 225 [.inr (.inl l0), .inl l1, .inl l2, l3, l4, l5] [] σ Q) := w_ifeq d187_222 (by decide)
theorem d187_225 : adec m187 225 = some (.iload_n 2, 1) := by decide +kernel
theorem s187_225 {l0 : Nat} {l1 : Int} {l2 : Int} {l3 : AV} {l4 : AV} {l5 : AV} : WP m187 225 [.inr (.inl l0), .inl l1, .inl l2, l3, l4, l5] [] σ Q = WP m187 226 [.inr (.inl l0), .inl l1, .inl l2, l3, l4, l5] [.inl l2] σ Q := w_ld d187_225 rfl
theorem d187_226 : adec m187 226 = some (.goto (4), 3) := by decide +kernel
theorem s187_226 {l0 : Nat} {l1 : Int} {l2 : Int} {l3 : AV} {l4 : AV} {l5 : AV} {x0 : Int} : WP m187 226 [.inr (.inl l0), .inl l1, .inl l2, l3, l4, l5] [.inl x0] σ Q = WP m187 230 [.inr (.inl l0), .inl l1, .inl l2, l3, l4, l5] [.inl x0] σ Q := w_goto d187_226 (by decide)
theorem d187_229 : adec m187 229 = some (.iconst (-1), 1) := by decide +kernel
theorem s187_229 {l0 : Nat} {l1 : Int} {l2 : Int} {l3 : AV} {l4 : AV} {l5 : AV} : WP m187 229 [.inr (.inl l0), .inl l1, .inl l2, l3, l4, l5] [] σ Q = WP m187 230 [.inr (.inl l0), .inl l1, .inl l2, l3, l4, l5] [.inl (-1)] σ Q := w_iconst d187_229 (by decide)
theorem d187_230 : adec m187 230 = some (.ireturn, 1) := by decide +kernel
theorem s187_230 {l0 : Nat} {l1 : Int} {l2 : Int} {l3 : AV} {l4 : AV} {l5 : AV} {x0 : Int} : WP m187 230 [.inr (.inl l0), .inl l1, .inl l2, l3, l4, l5] [.inl x0] σ Q = Q [.inl x0] σ := w_ri d187_230 rfl
theorem e187 {p0 : Nat} {p1 : Int} : CA m187 [.inr (.inl p0), .inl p1] σ Q = WP m187 0 [.inr (.inl p0), .inl p1, vU, vU, vU, vU] [] σ Q := rfl
-- BinderPressModel.write(I)V
theorem d188_0 : adec m188 0 = some (.aload_n 0, 1) := by decide +kernel
theorem s188_0 {l0 : Nat} {l1 : Int} : WP m188 0 [.inr (.inl l0), .inl l1] [] σ Q = WP m188 1 [.inr (.inl l0), .inl l1] [.inr (.inl l0)] σ Q := w_ld d188_0 rfl
theorem d188_1 : adec m188 1 = some (.getfield 75, 3) := by decide +kernel
theorem s188_1 {l0 : Nat} {l1 : Int} : WP m188 1 [.inr (.inl l0), .inl l1] [.inr (.inl 130)] σ Q = WP m188 4 [.inr (.inl l0), .inl l1] [.inr (.inl 151)] σ Q := (w_getR (c := 10) (n := 33) d188_1 (by decide +kernel) (by decide +kernel)).trans (g_and ⟨isO_dec (by decide +kernel), by decide +kernel⟩)
theorem d188_4 : adec m188 4 = some (.aload_n 0, 1) := by decide +kernel
theorem s188_4 {l0 : Nat} {l1 : Int} {x0 : Nat} : WP m188 4 [.inr (.inl l0), .inl l1] [.inr (.inl x0)] σ Q = WP m188 5 [.inr (.inl l0), .inl l1] [.inr (.inl l0), .inr (.inl x0)] σ Q := w_ld d188_4 rfl
theorem d188_5 : adec m188 5 = some (.getfield 304, 3) := by decide +kernel
theorem s188_5 {l0 : Nat} {l1 : Int} {x0 : Nat} : WP m188 5 [.inr (.inl l0), .inl l1] [.inr (.inl 130), .inr (.inl x0)] σ Q = WP m188 8 [.inr (.inl l0), .inl l1] [.inl (σ 130 34), .inr (.inl x0)] σ Q := (w_getI (c := 10) (n := 34) d188_5 (by decide +kernel) (by decide +kernel)).trans (g_and (isO_dec (by decide +kernel)))
theorem d188_8 : adec m188 8 = some (.iload_n 1, 1) := by decide +kernel
theorem s188_8 {l0 : Nat} {l1 : Int} {x0 : Nat} {x1 : Int} : WP m188 8 [.inr (.inl l0), .inl l1] [.inl x1, .inr (.inl x0)] σ Q = WP m188 9 [.inr (.inl l0), .inl l1] [.inl l1, .inl x1, .inr (.inl x0)] σ Q := w_ld d188_8 rfl
theorem d188_9 : adec m188 9 = some (.iastore, 1) := by decide +kernel
theorem s188_9 {l0 : Nat} {l1 : Int} {x0 : Nat} {x1 : Int} {x2 : Int} : WP m188 9 [.inr (.inl l0), .inl l1] [.inl x2, .inl x1, .inr (.inl x0)] σ Q = ((kdS x0 = 20 ∧ 0 ≤ x1 ∧ x1 < ln x0) ∧ WP m188 10 [.inr (.inl l0), .inl l1] [] (aup σ x0 x1.toNat x2) Q) := w_iast d188_9
theorem d188_10 : adec m188 10 = some (.aload_n 0, 1) := by decide +kernel
theorem s188_10 {l0 : Nat} {l1 : Int} : WP m188 10 [.inr (.inl l0), .inl l1] [] σ Q = WP m188 11 [.inr (.inl l0), .inl l1] [.inr (.inl l0)] σ Q := w_ld d188_10 rfl
theorem d188_11 : adec m188 11 = some (.dup, 1) := by decide +kernel
theorem s188_11 {l0 : Nat} {l1 : Int} {x0 : Nat} : WP m188 11 [.inr (.inl l0), .inl l1] [.inr (.inl x0)] σ Q = WP m188 12 [.inr (.inl l0), .inl l1] [.inr (.inl x0), .inr (.inl x0)] σ Q := w_ld d188_11 rfl
theorem d188_12 : adec m188 12 = some (.getfield 304, 3) := by decide +kernel
theorem s188_12 {l0 : Nat} {l1 : Int} {x0 : Nat} : WP m188 12 [.inr (.inl l0), .inl l1] [.inr (.inl 130), .inr (.inl x0)] σ Q = WP m188 15 [.inr (.inl l0), .inl l1] [.inl (σ 130 34), .inr (.inl x0)] σ Q := (w_getI (c := 10) (n := 34) d188_12 (by decide +kernel) (by decide +kernel)).trans (g_and (isO_dec (by decide +kernel)))
theorem d188_15 : adec m188 15 = some (.iconst (1), 1) := by decide +kernel
theorem s188_15 {l0 : Nat} {l1 : Int} {x0 : Nat} {x1 : Int} : WP m188 15 [.inr (.inl l0), .inl l1] [.inl x1, .inr (.inl x0)] σ Q = WP m188 16 [.inr (.inl l0), .inl l1] [.inl (1), .inl x1, .inr (.inl x0)] σ Q := w_iconst d188_15 (by decide)
theorem d188_16 : adec m188 16 = some (.iadd, 1) := by decide +kernel
theorem s188_16 {l0 : Nat} {l1 : Int} {x0 : Nat} {x1 : Int} {x2 : Int} : WP m188 16 [.inr (.inl l0), .inl l1] [.inl x2, .inl x1, .inr (.inl x0)] σ Q = (inI (x1 + x2) ∧ WP m188 17 [.inr (.inl l0), .inl l1] [.inl (x1 + x2), .inr (.inl x0)] σ Q) := w_iadd d188_16
theorem d188_17 : adec m188 17 = some (.putfield 304, 3) := by decide +kernel
theorem s188_17 {l0 : Nat} {l1 : Int} {x1 : Int} : WP m188 17 [.inr (.inl l0), .inl l1] [.inl x1, .inr (.inl 130)] σ Q = WP m188 20 [.inr (.inl l0), .inl l1] [] (aup σ 130 34 x1) Q := (w_putI (c := 10) (n := 34) d188_17 (by decide +kernel) (by decide +kernel) (by decide +kernel)).trans (g_and (isO_dec (by decide +kernel)))
theorem d188_20 : adec m188 20 = some (.return_, 1) := by decide +kernel
theorem s188_20 {l0 : Nat} {l1 : Int} : WP m188 20 [.inr (.inl l0), .inl l1] [] σ Q = Q [] σ := w_rv d188_20 rfl
theorem e188 {p0 : Nat} {p1 : Int} : CA m188 [.inr (.inl p0), .inl p1] σ Q = WP m188 0 [.inr (.inl p0), .inl p1] [] σ Q := rfl
-- BinderPressModel.writeKind(I)I
theorem d189_0 : adec m189 0 = some (.aload_n 0, 1) := by decide +kernel
theorem s189_0 {l0 : Nat} {l1 : Int} {l2 : AV} {l3 : AV} {l4 : AV} {l5 : AV} : WP m189 0 [.inr (.inl l0), .inl l1, l2, l3, l4, l5] [] σ Q = WP m189 1 [.inr (.inl l0), .inl l1, l2, l3, l4, l5] [.inr (.inl l0)] σ Q := w_ld d189_0 rfl
theorem d189_1 : adec m189 1 = some (.iload_n 1, 1) := by decide +kernel
theorem s189_1 {l0 : Nat} {l1 : Int} {l2 : AV} {l3 : AV} {l4 : AV} {l5 : AV} {x0 : Nat} : WP m189 1 [.inr (.inl l0), .inl l1, l2, l3, l4, l5] [.inr (.inl x0)] σ Q = WP m189 2 [.inr (.inl l0), .inl l1, l2, l3, l4, l5] [.inl l1, .inr (.inl x0)] σ Q := w_ld d189_1 rfl
theorem d189_2 : adec m189 2 = some (.invokevirtual 307, 3) := by decide +kernel
theorem s189_2 {l0 : Nat} {l1 : Int} {l2 : AV} {l3 : AV} {l4 : AV} {l5 : AV} {x1 : Int} : WP m189 2 [.inr (.inl l0), .inl l1, l2, l3, l4, l5] [.inl x1, .inr (.inl 130)] σ Q = CA m187 [.inr (.inl 130), .inl x1] σ (fun v σ2 => WP m189 5 [.inr (.inl l0), .inl l1, l2, l3, l4, l5] (v ++ []) σ2 Q) := (w_cV (k := 187) d189_2 (by decide +kernel) m187_at rfl rfl ⟨Nat.le_of_ble_eq_true rfl, Nat.le_of_ble_eq_true rfl, Nat.le_of_ble_eq_true rfl⟩ (by decide)).trans (g_and (isO_dec (by decide +kernel)))
theorem d189_5 : adec m189 5 = some (.istore_n 2, 1) := by decide +kernel
theorem s189_5 {l0 : Nat} {l1 : Int} {l2 : AV} {l3 : AV} {l4 : AV} {l5 : AV} {x0 : Int} : WP m189 5 [.inr (.inl l0), .inl l1, l2, l3, l4, l5] [.inl x0] σ Q = WP m189 6 [.inr (.inl l0), .inl l1, .inl x0, l3, l4, l5] [] σ Q := w_st1 (j := 2) d189_5 rfl (Nat.le_of_ble_eq_true rfl) rfl
theorem d189_6 : adec m189 6 = some (.iload_n 2, 1) := by decide +kernel
theorem s189_6 {l0 : Nat} {l1 : Int} {l2 : Int} {l3 : AV} {l4 : AV} {l5 : AV} : WP m189 6 [.inr (.inl l0), .inl l1, .inl l2, l3, l4, l5] [] σ Q = WP m189 7 [.inr (.inl l0), .inl l1, .inl l2, l3, l4, l5] [.inl l2] σ Q := w_ld d189_6 rfl
theorem d189_7 : adec m189 7 = some (.iconst (-1), 1) := by decide +kernel
theorem s189_7 {l0 : Nat} {l1 : Int} {l2 : Int} {l3 : AV} {l4 : AV} {l5 : AV} {x0 : Int} : WP m189 7 [.inr (.inl l0), .inl l1, .inl l2, l3, l4, l5] [.inl x0] σ Q = WP m189 8 [.inr (.inl l0), .inl l1, .inl l2, l3, l4, l5] [.inl (-1), .inl x0] σ Q := w_iconst d189_7 (by decide)
theorem d189_8 : adec m189 8 = some (.if_icmp .ne (5), 3) := by decide +kernel
theorem s189_8 {l0 : Nat} {l1 : Int} {l2 : Int} {l3 : AV} {l4 : AV} {l5 : AV} {x0 : Int} {x1 : Int} : WP m189 8 [.inr (.inl l0), .inl l1, .inl l2, l3, l4, l5] [.inl x1, .inl x0] σ Q = (if x0 = x1 then WP m189 11 [.inr (.inl l0), .inl l1, .inl l2, l3, l4, l5] [] σ Q else WP m189 13 [.inr (.inl l0), .inl l1, .inl l2, l3, l4, l5] [] σ Q) := w_icne d189_8 (by decide)
theorem d189_11 : adec m189 11 = some (.iconst (-1), 1) := by decide +kernel
theorem s189_11 {l0 : Nat} {l1 : Int} {l2 : Int} {l3 : AV} {l4 : AV} {l5 : AV} : WP m189 11 [.inr (.inl l0), .inl l1, .inl l2, l3, l4, l5] [] σ Q = WP m189 12 [.inr (.inl l0), .inl l1, .inl l2, l3, l4, l5] [.inl (-1)] σ Q := w_iconst d189_11 (by decide)
theorem d189_12 : adec m189 12 = some (.ireturn, 1) := by decide +kernel
theorem s189_12 {l0 : Nat} {l1 : Int} {l2 : Int} {l3 : AV} {l4 : AV} {l5 : AV} {x0 : Int} : WP m189 12 [.inr (.inl l0), .inl l1, .inl l2, l3, l4, l5] [.inl x0] σ Q = Q [.inl x0] σ := w_ri d189_12 rfl
theorem d189_13 : adec m189 13 = some (.iconst (0), 1) := by decide +kernel
theorem s189_13 {l0 : Nat} {l1 : Int} {l2 : Int} {l3 : AV} {l4 : AV} {l5 : AV} : WP m189 13 [.inr (.inl l0), .inl l1, .inl l2, l3, l4, l5] [] σ Q = WP m189 14 [.inr (.inl l0), .inl l1, .inl l2, l3, l4, l5] [.inl (0)] σ Q := w_iconst d189_13 (by decide)
theorem d189_14 : adec m189 14 = some (.istore_n 3, 1) := by decide +kernel
theorem s189_14 {l0 : Nat} {l1 : Int} {l2 : Int} {l3 : AV} {l4 : AV} {l5 : AV} {x0 : Int} : WP m189 14 [.inr (.inl l0), .inl l1, .inl l2, l3, l4, l5] [.inl x0] σ Q = WP m189 15 [.inr (.inl l0), .inl l1, .inl l2, .inl x0, l4, l5] [] σ Q := w_st1 (j := 3) d189_14 rfl (Nat.le_of_ble_eq_true rfl) rfl
theorem d189_15 : adec m189 15 = some (.iload_n 3, 1) := by decide +kernel
theorem s189_15 {l0 : Nat} {l1 : Int} {l2 : Int} {l3 : Int} {l4 : AV} {l5 : AV} : WP m189 15 [.inr (.inl l0), .inl l1, .inl l2, .inl l3, l4, l5] [] σ Q = WP m189 16 [.inr (.inl l0), .inl l1, .inl l2, .inl l3, l4, l5] [.inl l3] σ Q := w_ld d189_15 rfl
theorem d189_16 : adec m189 16 = some (.aload_n 0, 1) := by decide +kernel
theorem s189_16 {l0 : Nat} {l1 : Int} {l2 : Int} {l3 : Int} {l4 : AV} {l5 : AV} {x0 : Int} : WP m189 16 [.inr (.inl l0), .inl l1, .inl l2, .inl l3, l4, l5] [.inl x0] σ Q = WP m189 17 [.inr (.inl l0), .inl l1, .inl l2, .inl l3, l4, l5] [.inr (.inl l0), .inl x0] σ Q := w_ld d189_16 rfl
theorem d189_17 : adec m189 17 = some (.getfield 280, 3) := by decide +kernel
theorem s189_17 {l0 : Nat} {l1 : Int} {l2 : Int} {l3 : Int} {l4 : AV} {l5 : AV} {x0 : Int} : WP m189 17 [.inr (.inl l0), .inl l1, .inl l2, .inl l3, l4, l5] [.inr (.inl 130), .inl x0] σ Q = WP m189 20 [.inr (.inl l0), .inl l1, .inl l2, .inl l3, l4, l5] [.inl (σ 130 29), .inl x0] σ Q := (w_getI (c := 10) (n := 29) d189_17 (by decide +kernel) (by decide +kernel)).trans (g_and (isO_dec (by decide +kernel)))
theorem d189_20 : adec m189 20 = some (.if_icmp .ge (16), 3) := by decide +kernel
theorem s189_20 {l0 : Nat} {l1 : Int} {l2 : Int} {l3 : Int} {l4 : AV} {l5 : AV} {x0 : Int} {x1 : Int} : WP m189 20 [.inr (.inl l0), .inl l1, .inl l2, .inl l3, l4, l5] [.inl x1, .inl x0] σ Q = (if x1 ≤ x0 then WP m189 36 [.inr (.inl l0), .inl l1, .inl l2, .inl l3, l4, l5] [] σ Q else WP m189 23 [.inr (.inl l0), .inl l1, .inl l2, .inl l3, l4, l5] [] σ Q) := w_icge d189_20 (by decide)
theorem d189_23 : adec m189 23 = some (.aload_n 0, 1) := by decide +kernel
theorem s189_23 {l0 : Nat} {l1 : Int} {l2 : Int} {l3 : Int} {l4 : AV} {l5 : AV} : WP m189 23 [.inr (.inl l0), .inl l1, .inl l2, .inl l3, l4, l5] [] σ Q = WP m189 24 [.inr (.inl l0), .inl l1, .inl l2, .inl l3, l4, l5] [.inr (.inl l0)] σ Q := w_ld d189_23 rfl
theorem d189_24 : adec m189 24 = some (.getfield 78, 3) := by decide +kernel
theorem s189_24 {l0 : Nat} {l1 : Int} {l2 : Int} {l3 : Int} {l4 : AV} {l5 : AV} : WP m189 24 [.inr (.inl l0), .inl l1, .inl l2, .inl l3, l4, l5] [.inr (.inl 130)] σ Q = WP m189 27 [.inr (.inl l0), .inl l1, .inl l2, .inl l3, l4, l5] [.inr (.inl 152)] σ Q := (w_getR (c := 10) (n := 35) d189_24 (by decide +kernel) (by decide +kernel)).trans (g_and ⟨isO_dec (by decide +kernel), by decide +kernel⟩)
theorem d189_27 : adec m189 27 = some (.iload_n 3, 1) := by decide +kernel
theorem s189_27 {l0 : Nat} {l1 : Int} {l2 : Int} {l3 : Int} {l4 : AV} {l5 : AV} {x0 : Nat} : WP m189 27 [.inr (.inl l0), .inl l1, .inl l2, .inl l3, l4, l5] [.inr (.inl x0)] σ Q = WP m189 28 [.inr (.inl l0), .inl l1, .inl l2, .inl l3, l4, l5] [.inl l3, .inr (.inl x0)] σ Q := w_ld d189_27 rfl
theorem d189_28 : adec m189 28 = some (.iconst (0), 1) := by decide +kernel
theorem s189_28 {l0 : Nat} {l1 : Int} {l2 : Int} {l3 : Int} {l4 : AV} {l5 : AV} {x0 : Nat} {x1 : Int} : WP m189 28 [.inr (.inl l0), .inl l1, .inl l2, .inl l3, l4, l5] [.inl x1, .inr (.inl x0)] σ Q = WP m189 29 [.inr (.inl l0), .inl l1, .inl l2, .inl l3, l4, l5] [.inl (0), .inl x1, .inr (.inl x0)] σ Q := w_iconst d189_28 (by decide)
theorem d189_29 : adec m189 29 = some (.iastore, 1) := by decide +kernel
theorem s189_29 {l0 : Nat} {l1 : Int} {l2 : Int} {l3 : Int} {l4 : AV} {l5 : AV} {x0 : Nat} {x1 : Int} {x2 : Int} : WP m189 29 [.inr (.inl l0), .inl l1, .inl l2, .inl l3, l4, l5] [.inl x2, .inl x1, .inr (.inl x0)] σ Q = ((kdS x0 = 20 ∧ 0 ≤ x1 ∧ x1 < ln x0) ∧ WP m189 30 [.inr (.inl l0), .inl l1, .inl l2, .inl l3, l4, l5] [] (aup σ x0 x1.toNat x2) Q) := w_iast d189_29
theorem d189_30 : adec m189 30 = some (.iinc 3 (1), 3) := by decide +kernel
theorem s189_30 {l0 : Nat} {l1 : Int} {l2 : Int} {l3 : Int} {l4 : AV} {l5 : AV} : WP m189 30 [.inr (.inl l0), .inl l1, .inl l2, .inl l3, l4, l5] [] σ Q = (inI (l3 + (1)) ∧ WP m189 33 [.inr (.inl l0), .inl l1, .inl l2, .inl (l3 + (1)), l4, l5] [] σ Q) := w_iinc d189_30 rfl rfl
theorem d189_33 : adec m189 33 = some (.goto (-18), 3) := by decide +kernel
theorem s189_33 {l0 : Nat} {l1 : Int} {l2 : Int} {l3 : Int} {l4 : AV} {l5 : AV} : WP m189 33 [.inr (.inl l0), .inl l1, .inl l2, .inl l3, l4, l5] [] σ Q = WP m189 15 [.inr (.inl l0), .inl l1, .inl l2, .inl l3, l4, l5] [] σ Q := w_goto d189_33 (by decide)
theorem d189_36 : adec m189 36 = some (.iconst (0), 1) := by decide +kernel
theorem s189_36 {l0 : Nat} {l1 : Int} {l2 : Int} {l3 : Int} {l4 : AV} {l5 : AV} : WP m189 36 [.inr (.inl l0), .inl l1, .inl l2, .inl l3, l4, l5] [] σ Q = WP m189 37 [.inr (.inl l0), .inl l1, .inl l2, .inl l3, l4, l5] [.inl (0)] σ Q := w_iconst d189_36 (by decide)
theorem d189_37 : adec m189 37 = some (.istore_n 3, 1) := by decide +kernel
theorem s189_37 {l0 : Nat} {l1 : Int} {l2 : Int} {l3 : Int} {l4 : AV} {l5 : AV} {x0 : Int} : WP m189 37 [.inr (.inl l0), .inl l1, .inl l2, .inl l3, l4, l5] [.inl x0] σ Q = WP m189 38 [.inr (.inl l0), .inl l1, .inl l2, .inl x0, l4, l5] [] σ Q := w_st1 (j := 3) d189_37 rfl (Nat.le_of_ble_eq_true rfl) rfl
theorem d189_38 : adec m189 38 = some (.aload_n 0, 1) := by decide +kernel
theorem s189_38 {l0 : Nat} {l1 : Int} {l2 : Int} {l3 : Int} {l4 : AV} {l5 : AV} : WP m189 38 [.inr (.inl l0), .inl l1, .inl l2, .inl l3, l4, l5] [] σ Q = WP m189 39 [.inr (.inl l0), .inl l1, .inl l2, .inl l3, l4, l5] [.inr (.inl l0)] σ Q := w_ld d189_38 rfl
theorem d189_39 : adec m189 39 = some (.iconst (0), 1) := by decide +kernel
theorem s189_39 {l0 : Nat} {l1 : Int} {l2 : Int} {l3 : Int} {l4 : AV} {l5 : AV} {x0 : Nat} : WP m189 39 [.inr (.inl l0), .inl l1, .inl l2, .inl l3, l4, l5] [.inr (.inl x0)] σ Q = WP m189 40 [.inr (.inl l0), .inl l1, .inl l2, .inl l3, l4, l5] [.inl (0), .inr (.inl x0)] σ Q := w_iconst d189_39 (by decide)
theorem d189_40 : adec m189 40 = some (.putfield 304, 3) := by decide +kernel
theorem s189_40 {l0 : Nat} {l1 : Int} {l2 : Int} {l3 : Int} {l4 : AV} {l5 : AV} {x1 : Int} : WP m189 40 [.inr (.inl l0), .inl l1, .inl l2, .inl l3, l4, l5] [.inl x1, .inr (.inl 130)] σ Q = WP m189 43 [.inr (.inl l0), .inl l1, .inl l2, .inl l3, l4, l5] [] (aup σ 130 34 x1) Q := (w_putI (c := 10) (n := 34) d189_40 (by decide +kernel) (by decide +kernel) (by decide +kernel)).trans (g_and (isO_dec (by decide +kernel)))
theorem d189_43 : adec m189 43 = some (.aload_n 0, 1) := by decide +kernel
theorem s189_43 {l0 : Nat} {l1 : Int} {l2 : Int} {l3 : Int} {l4 : AV} {l5 : AV} : WP m189 43 [.inr (.inl l0), .inl l1, .inl l2, .inl l3, l4, l5] [] σ Q = WP m189 44 [.inr (.inl l0), .inl l1, .inl l2, .inl l3, l4, l5] [.inr (.inl l0)] σ Q := w_ld d189_43 rfl
theorem d189_44 : adec m189 44 = some (.iconst (0), 1) := by decide +kernel
theorem s189_44 {l0 : Nat} {l1 : Int} {l2 : Int} {l3 : Int} {l4 : AV} {l5 : AV} {x0 : Nat} : WP m189 44 [.inr (.inl l0), .inl l1, .inl l2, .inl l3, l4, l5] [.inr (.inl x0)] σ Q = WP m189 45 [.inr (.inl l0), .inl l1, .inl l2, .inl l3, l4, l5] [.inl (0), .inr (.inl x0)] σ Q := w_iconst d189_44 (by decide)
theorem d189_45 : adec m189 45 = some (.putfield 94, 3) := by decide +kernel
theorem s189_45 {l0 : Nat} {l1 : Int} {l2 : Int} {l3 : Int} {l4 : AV} {l5 : AV} {x1 : Int} : WP m189 45 [.inr (.inl l0), .inl l1, .inl l2, .inl l3, l4, l5] [.inl x1, .inr (.inl 130)] σ Q = WP m189 48 [.inr (.inl l0), .inl l1, .inl l2, .inl l3, l4, l5] [] (aup σ 130 11 x1) Q := (w_putI (c := 10) (n := 11) d189_45 (by decide +kernel) (by decide +kernel) (by decide +kernel)).trans (g_and (isO_dec (by decide +kernel)))
theorem d189_48 : adec m189 48 = some (.aload_n 0, 1) := by decide +kernel
theorem s189_48 {l0 : Nat} {l1 : Int} {l2 : Int} {l3 : Int} {l4 : AV} {l5 : AV} : WP m189 48 [.inr (.inl l0), .inl l1, .inl l2, .inl l3, l4, l5] [] σ Q = WP m189 49 [.inr (.inl l0), .inl l1, .inl l2, .inl l3, l4, l5] [.inr (.inl l0)] σ Q := w_ld d189_48 rfl
theorem d189_49 : adec m189 49 = some (.iload_n 2, 1) := by decide +kernel
theorem s189_49 {l0 : Nat} {l1 : Int} {l2 : Int} {l3 : Int} {l4 : AV} {l5 : AV} {x0 : Nat} : WP m189 49 [.inr (.inl l0), .inl l1, .inl l2, .inl l3, l4, l5] [.inr (.inl x0)] σ Q = WP m189 50 [.inr (.inl l0), .inl l1, .inl l2, .inl l3, l4, l5] [.inl l2, .inr (.inl x0)] σ Q := w_ld d189_49 rfl
theorem d189_50 : adec m189 50 = some (.invokevirtual 172, 3) := by decide +kernel
theorem s189_50 {l0 : Nat} {l1 : Int} {l2 : Int} {l3 : Int} {l4 : AV} {l5 : AV} {x1 : Int} : WP m189 50 [.inr (.inl l0), .inl l1, .inl l2, .inl l3, l4, l5] [.inl x1, .inr (.inl 130)] σ Q = CA m132 [.inr (.inl 130), .inl x1] σ (fun v σ2 => WP m189 53 [.inr (.inl l0), .inl l1, .inl l2, .inl l3, l4, l5] (v ++ []) σ2 Q) := (w_cV (k := 132) d189_50 (by decide +kernel) m132_at rfl rfl ⟨Nat.le_of_ble_eq_true rfl, Nat.le_of_ble_eq_true rfl, Nat.le_of_ble_eq_true rfl⟩ (by decide)).trans (g_and (isO_dec (by decide +kernel)))
theorem d189_53 : adec m189 53 = some (.aload_n 0, 1) := by decide +kernel
theorem s189_53 {l0 : Nat} {l1 : Int} {l2 : Int} {l3 : Int} {l4 : AV} {l5 : AV} : WP m189 53 [.inr (.inl l0), .inl l1, .inl l2, .inl l3, l4, l5] [] σ Q = WP m189 54 [.inr (.inl l0), .inl l1, .inl l2, .inl l3, l4, l5] [.inr (.inl l0)] σ Q := w_ld d189_53 rfl
theorem d189_54 : adec m189 54 = some (.getfield 94, 3) := by decide +kernel
theorem s189_54 {l0 : Nat} {l1 : Int} {l2 : Int} {l3 : Int} {l4 : AV} {l5 : AV} : WP m189 54 [.inr (.inl l0), .inl l1, .inl l2, .inl l3, l4, l5] [.inr (.inl 130)] σ Q = WP m189 57 [.inr (.inl l0), .inl l1, .inl l2, .inl l3, l4, l5] [.inl (σ 130 11)] σ Q := (w_getI (c := 10) (n := 11) d189_54 (by decide +kernel) (by decide +kernel)).trans (g_and (isO_dec (by decide +kernel)))
theorem d189_57 : adec m189 57 = some (.ifCond .le (202), 3) := by decide +kernel
theorem s189_57 {l0 : Nat} {l1 : Int} {l2 : Int} {l3 : Int} {l4 : AV} {l5 : AV} {x0 : Int} : WP m189 57 [.inr (.inl l0), .inl l1, .inl l2, .inl l3, l4, l5] [.inl x0] σ Q = (if x0 ≤ 0 then WP m189 259 [.inr (.inl l0), .inl l1, .inl l2, .inl l3, l4, l5] [] σ Q else WP m189 60 [.inr (.inl l0), .inl l1, .inl l2, .inl l3, l4, l5] [] σ Q) := w_ifle d189_57 (by decide)
theorem d189_60 : adec m189 60 = some (.aload_n 0, 1) := by decide +kernel
theorem s189_60 {l0 : Nat} {l1 : Int} {l2 : Int} {l3 : Int} {l4 : AV} {l5 : AV} : WP m189 60 [.inr (.inl l0), .inl l1, .inl l2, .inl l3, l4, l5] [] σ Q = WP m189 61 [.inr (.inl l0), .inl l1, .inl l2, .inl l3, l4, l5] [.inr (.inl l0)] σ Q := w_ld d189_60 rfl
theorem d189_61 : adec m189 61 = some (.getfield 304, 3) := by decide +kernel
theorem s189_61 {l0 : Nat} {l1 : Int} {l2 : Int} {l3 : Int} {l4 : AV} {l5 : AV} : WP m189 61 [.inr (.inl l0), .inl l1, .inl l2, .inl l3, l4, l5] [.inr (.inl 130)] σ Q = WP m189 64 [.inr (.inl l0), .inl l1, .inl l2, .inl l3, l4, l5] [.inl (σ 130 34)] σ Q := (w_getI (c := 10) (n := 34) d189_61 (by decide +kernel) (by decide +kernel)).trans (g_and (isO_dec (by decide +kernel)))
theorem d189_64 : adec m189 64 = some (.sipush (200), 3) := by decide +kernel
theorem s189_64 {l0 : Nat} {l1 : Int} {l2 : Int} {l3 : Int} {l4 : AV} {l5 : AV} {x0 : Int} : WP m189 64 [.inr (.inl l0), .inl l1, .inl l2, .inl l3, l4, l5] [.inl x0] σ Q = WP m189 67 [.inr (.inl l0), .inl l1, .inl l2, .inl l3, l4, l5] [.inl (200), .inl x0] σ Q := w_sipush d189_64 (by decide)
theorem d189_67 : adec m189 67 = some (.if_icmp .gt (192), 3) := by decide +kernel
theorem s189_67 {l0 : Nat} {l1 : Int} {l2 : Int} {l3 : Int} {l4 : AV} {l5 : AV} {x0 : Int} {x1 : Int} : WP m189 67 [.inr (.inl l0), .inl l1, .inl l2, .inl l3, l4, l5] [.inl x1, .inl x0] σ Q = (if x1 < x0 then WP m189 259 [.inr (.inl l0), .inl l1, .inl l2, .inl l3, l4, l5] [] σ Q else WP m189 70 [.inr (.inl l0), .inl l1, .inl l2, .inl l3, l4, l5] [] σ Q) := w_icgt d189_67 (by decide)
theorem d189_70 : adec m189 70 = some (.iload_n 3, 1) := by decide +kernel
theorem s189_70 {l0 : Nat} {l1 : Int} {l2 : Int} {l3 : Int} {l4 : AV} {l5 : AV} : WP m189 70 [.inr (.inl l0), .inl l1, .inl l2, .inl l3, l4, l5] [] σ Q = WP m189 71 [.inr (.inl l0), .inl l1, .inl l2, .inl l3, l4, l5] [.inl l3] σ Q := w_ld d189_70 rfl
theorem d189_71 : adec m189 71 = some (.bipush (26), 2) := by decide +kernel
theorem s189_71 {l0 : Nat} {l1 : Int} {l2 : Int} {l3 : Int} {l4 : AV} {l5 : AV} {x0 : Int} : WP m189 71 [.inr (.inl l0), .inl l1, .inl l2, .inl l3, l4, l5] [.inl x0] σ Q = WP m189 73 [.inr (.inl l0), .inl l1, .inl l2, .inl l3, l4, l5] [.inl (26), .inl x0] σ Q := w_bipush d189_71 (by decide)
theorem d189_73 : adec m189 73 = some (.if_icmp .gt (186), 3) := by decide +kernel
theorem s189_73 {l0 : Nat} {l1 : Int} {l2 : Int} {l3 : Int} {l4 : AV} {l5 : AV} {x0 : Int} {x1 : Int} : WP m189 73 [.inr (.inl l0), .inl l1, .inl l2, .inl l3, l4, l5] [.inl x1, .inl x0] σ Q = (if x1 < x0 then WP m189 259 [.inr (.inl l0), .inl l1, .inl l2, .inl l3, l4, l5] [] σ Q else WP m189 76 [.inr (.inl l0), .inl l1, .inl l2, .inl l3, l4, l5] [] σ Q) := w_icgt d189_73 (by decide)
theorem d189_76 : adec m189 76 = some (.aload_n 0, 1) := by decide +kernel
theorem s189_76 {l0 : Nat} {l1 : Int} {l2 : Int} {l3 : Int} {l4 : AV} {l5 : AV} : WP m189 76 [.inr (.inl l0), .inl l1, .inl l2, .inl l3, l4, l5] [] σ Q = WP m189 77 [.inr (.inl l0), .inl l1, .inl l2, .inl l3, l4, l5] [.inr (.inl l0)] σ Q := w_ld d189_76 rfl
theorem d189_77 : adec m189 77 = some (.invokevirtual 175, 3) := by decide +kernel
theorem s189_77 {l0 : Nat} {l1 : Int} {l2 : Int} {l3 : Int} {l4 : AV} {l5 : AV} : WP m189 77 [.inr (.inl l0), .inl l1, .inl l2, .inl l3, l4, l5] [.inr (.inl 130)] σ Q = CA m133 [.inr (.inl 130)] σ (fun v σ2 => WP m189 80 [.inr (.inl l0), .inl l1, .inl l2, .inl l3, l4, l5] (v ++ []) σ2 Q) := (w_cV (k := 133) d189_77 (by decide +kernel) m133_at rfl rfl ⟨Nat.le_of_ble_eq_true rfl, Nat.le_of_ble_eq_true rfl, Nat.le_of_ble_eq_true rfl⟩ (by decide)).trans (g_and (isO_dec (by decide +kernel)))
theorem d189_80 : adec m189 80 = some (.istore 4, 2) := by decide +kernel
theorem s189_80 {l0 : Nat} {l1 : Int} {l2 : Int} {l3 : Int} {l4 : AV} {l5 : AV} {x0 : Int} : WP m189 80 [.inr (.inl l0), .inl l1, .inl l2, .inl l3, l4, l5] [.inl x0] σ Q = WP m189 82 [.inr (.inl l0), .inl l1, .inl l2, .inl l3, .inl x0, l5] [] σ Q := w_st1 (j := 4) d189_80 rfl (Nat.le_of_ble_eq_true rfl) rfl
theorem d189_82 : adec m189 82 = some (.iload 4, 2) := by decide +kernel
theorem s189_82 {l0 : Nat} {l1 : Int} {l2 : Int} {l3 : Int} {l4 : Int} {l5 : AV} : WP m189 82 [.inr (.inl l0), .inl l1, .inl l2, .inl l3, .inl l4, l5] [] σ Q = WP m189 84 [.inr (.inl l0), .inl l1, .inl l2, .inl l3, .inl l4, l5] [.inl l4] σ Q := w_ld d189_82 rfl
theorem d189_84 : adec m189 84 = some (.ifCond .ge (13), 3) := by decide +kernel
theorem s189_84 {l0 : Nat} {l1 : Int} {l2 : Int} {l3 : Int} {l4 : Int} {l5 : AV} {x0 : Int} : WP m189 84 [.inr (.inl l0), .inl l1, .inl l2, .inl l3, .inl l4, l5] [.inl x0] σ Q = (if 0 ≤ x0 then WP m189 97 [.inr (.inl l0), .inl l1, .inl l2, .inl l3, .inl l4, l5] [] σ Q else WP m189 87 [.inr (.inl l0), .inl l1, .inl l2, .inl l3, .inl l4, l5] [] σ Q) := w_ifge d189_84 (by decide)
theorem d189_87 : adec m189 87 = some (.aload_n 0, 1) := by decide +kernel
theorem s189_87 {l0 : Nat} {l1 : Int} {l2 : Int} {l3 : Int} {l4 : Int} {l5 : AV} : WP m189 87 [.inr (.inl l0), .inl l1, .inl l2, .inl l3, .inl l4, l5] [] σ Q = WP m189 88 [.inr (.inl l0), .inl l1, .inl l2, .inl l3, .inl l4, l5] [.inr (.inl l0)] σ Q := w_ld d189_87 rfl
theorem d189_88 : adec m189 88 = some (.iload 4, 2) := by decide +kernel
theorem s189_88 {l0 : Nat} {l1 : Int} {l2 : Int} {l3 : Int} {l4 : Int} {l5 : AV} {x0 : Nat} : WP m189 88 [.inr (.inl l0), .inl l1, .inl l2, .inl l3, .inl l4, l5] [.inr (.inl x0)] σ Q = WP m189 90 [.inr (.inl l0), .inl l1, .inl l2, .inl l3, .inl l4, l5] [.inl l4, .inr (.inl x0)] σ Q := w_ld d189_88 rfl
theorem d189_90 : adec m189 90 = some (.ineg, 1) := by decide +kernel
theorem s189_90 {l0 : Nat} {l1 : Int} {l2 : Int} {l3 : Int} {l4 : Int} {l5 : AV} {x0 : Nat} {x1 : Int} : WP m189 90 [.inr (.inl l0), .inl l1, .inl l2, .inl l3, .inl l4, l5] [.inl x1, .inr (.inl x0)] σ Q = (inI (-x1) ∧ WP m189 91 [.inr (.inl l0), .inl l1, .inl l2, .inl l3, .inl l4, l5] [.inl (-x1), .inr (.inl x0)] σ Q) := w_ineg d189_90
theorem d189_91 : adec m189 91 = some (.invokevirtual 310, 3) := by decide +kernel
theorem s189_91 {l0 : Nat} {l1 : Int} {l2 : Int} {l3 : Int} {l4 : Int} {l5 : AV} {x1 : Int} : WP m189 91 [.inr (.inl l0), .inl l1, .inl l2, .inl l3, .inl l4, l5] [.inl x1, .inr (.inl 130)] σ Q = CA m188 [.inr (.inl 130), .inl x1] σ (fun v σ2 => WP m189 94 [.inr (.inl l0), .inl l1, .inl l2, .inl l3, .inl l4, l5] (v ++ []) σ2 Q) := (w_cV (k := 188) d189_91 (by decide +kernel) m188_at rfl rfl ⟨Nat.le_of_ble_eq_true rfl, Nat.le_of_ble_eq_true rfl, Nat.le_of_ble_eq_true rfl⟩ (by decide)).trans (g_and (isO_dec (by decide +kernel)))
theorem d189_94 : adec m189 94 = some (.goto (162), 3) := by decide +kernel
theorem s189_94 {l0 : Nat} {l1 : Int} {l2 : Int} {l3 : Int} {l4 : Int} {l5 : AV} : WP m189 94 [.inr (.inl l0), .inl l1, .inl l2, .inl l3, .inl l4, l5] [] σ Q = WP m189 256 [.inr (.inl l0), .inl l1, .inl l2, .inl l3, .inl l4, l5] [] σ Q := w_goto d189_94 (by decide)
theorem d189_97 : adec m189 97 = some (.aload_n 0, 1) := by decide +kernel
theorem s189_97 {l0 : Nat} {l1 : Int} {l2 : Int} {l3 : Int} {l4 : Int} {l5 : AV} : WP m189 97 [.inr (.inl l0), .inl l1, .inl l2, .inl l3, .inl l4, l5] [] σ Q = WP m189 98 [.inr (.inl l0), .inl l1, .inl l2, .inl l3, .inl l4, l5] [.inr (.inl l0)] σ Q := w_ld d189_97 rfl
theorem d189_98 : adec m189 98 = some (.iload 4, 2) := by decide +kernel
theorem s189_98 {l0 : Nat} {l1 : Int} {l2 : Int} {l3 : Int} {l4 : Int} {l5 : AV} {x0 : Nat} : WP m189 98 [.inr (.inl l0), .inl l1, .inl l2, .inl l3, .inl l4, l5] [.inr (.inl x0)] σ Q = WP m189 100 [.inr (.inl l0), .inl l1, .inl l2, .inl l3, .inl l4, l5] [.inl l4, .inr (.inl x0)] σ Q := w_ld d189_98 rfl
theorem d189_100 : adec m189 100 = some (.invokevirtual 289, 3) := by decide +kernel
theorem s189_100 {l0 : Nat} {l1 : Int} {l2 : Int} {l3 : Int} {l4 : Int} {l5 : AV} {x1 : Int} : WP m189 100 [.inr (.inl l0), .inl l1, .inl l2, .inl l3, .inl l4, l5] [.inl x1, .inr (.inl 130)] σ Q = CA m182 [.inr (.inl 130), .inl x1] σ (fun v σ2 => WP m189 103 [.inr (.inl l0), .inl l1, .inl l2, .inl l3, .inl l4, l5] (v ++ []) σ2 Q) := (w_cV (k := 182) d189_100 (by decide +kernel) m182_at rfl rfl ⟨Nat.le_of_ble_eq_true rfl, Nat.le_of_ble_eq_true rfl, Nat.le_of_ble_eq_true rfl⟩ (by decide)).trans (g_and (isO_dec (by decide +kernel)))
theorem d189_103 : adec m189 103 = some (.istore 4, 2) := by decide +kernel
theorem s189_103 {l0 : Nat} {l1 : Int} {l2 : Int} {l3 : Int} {l4 : Int} {l5 : AV} {x0 : Int} : WP m189 103 [.inr (.inl l0), .inl l1, .inl l2, .inl l3, .inl l4, l5] [.inl x0] σ Q = WP m189 105 [.inr (.inl l0), .inl l1, .inl l2, .inl l3, .inl x0, l5] [] σ Q := w_st1 (j := 4) d189_103 rfl (Nat.le_of_ble_eq_true rfl) rfl
theorem d189_105 : adec m189 105 = some (.aload_n 0, 1) := by decide +kernel
theorem s189_105 {l0 : Nat} {l1 : Int} {l2 : Int} {l3 : Int} {l4 : Int} {l5 : AV} : WP m189 105 [.inr (.inl l0), .inl l1, .inl l2, .inl l3, .inl l4, l5] [] σ Q = WP m189 106 [.inr (.inl l0), .inl l1, .inl l2, .inl l3, .inl l4, l5] [.inr (.inl l0)] σ Q := w_ld d189_105 rfl
theorem d189_106 : adec m189 106 = some (.getfield 54, 3) := by decide +kernel
theorem s189_106 {l0 : Nat} {l1 : Int} {l2 : Int} {l3 : Int} {l4 : Int} {l5 : AV} : WP m189 106 [.inr (.inl l0), .inl l1, .inl l2, .inl l3, .inl l4, l5] [.inr (.inl 130)] σ Q = WP m189 109 [.inr (.inl l0), .inl l1, .inl l2, .inl l3, .inl l4, l5] [.inr (.inl 144)] σ Q := (w_getR (c := 10) (n := 25) d189_106 (by decide +kernel) (by decide +kernel)).trans (g_and ⟨isO_dec (by decide +kernel), by decide +kernel⟩)
theorem d189_109 : adec m189 109 = some (.iload 4, 2) := by decide +kernel
theorem s189_109 {l0 : Nat} {l1 : Int} {l2 : Int} {l3 : Int} {l4 : Int} {l5 : AV} {x0 : Nat} : WP m189 109 [.inr (.inl l0), .inl l1, .inl l2, .inl l3, .inl l4, l5] [.inr (.inl x0)] σ Q = WP m189 111 [.inr (.inl l0), .inl l1, .inl l2, .inl l3, .inl l4, l5] [.inl l4, .inr (.inl x0)] σ Q := w_ld d189_109 rfl
theorem d189_111 : adec m189 111 = some (.iaload, 1) := by decide +kernel
theorem s189_111 {l0 : Nat} {l1 : Int} {l2 : Int} {l3 : Int} {l4 : Int} {l5 : AV} {x0 : Nat} {x1 : Int} : WP m189 111 [.inr (.inl l0), .inl l1, .inl l2, .inl l3, .inl l4, l5] [.inl x1, .inr (.inl x0)] σ Q = ((kdS x0 = 20 ∧ 0 ≤ x1 ∧ x1 < ln x0) ∧ WP m189 112 [.inr (.inl l0), .inl l1, .inl l2, .inl l3, .inl l4, l5] [.inl (σ x0 x1.toNat)] σ Q) := w_iald d189_111
theorem d189_112 : adec m189 112 = some (.iconst (-1), 1) := by decide +kernel
theorem s189_112 {l0 : Nat} {l1 : Int} {l2 : Int} {l3 : Int} {l4 : Int} {l5 : AV} {x0 : Int} : WP m189 112 [.inr (.inl l0), .inl l1, .inl l2, .inl l3, .inl l4, l5] [.inl x0] σ Q = WP m189 113 [.inr (.inl l0), .inl l1, .inl l2, .inl l3, .inl l4, l5] [.inl (-1), .inl x0] σ Q := w_iconst d189_112 (by decide)
theorem d189_113 : adec m189 113 = some (.if_icmp .ne (66), 3) := by decide +kernel
theorem s189_113 {l0 : Nat} {l1 : Int} {l2 : Int} {l3 : Int} {l4 : Int} {l5 : AV} {x0 : Int} {x1 : Int} : WP m189 113 [.inr (.inl l0), .inl l1, .inl l2, .inl l3, .inl l4, l5] [.inl x1, .inl x0] σ Q = (if x0 = x1 then WP m189 116 [.inr (.inl l0), .inl l1, .inl l2, .inl l3, .inl l4, l5] [] σ Q else WP m189 179 [.inr (.inl l0), .inl l1, .inl l2, .inl l3, .inl l4, l5] [] σ Q) := w_icne d189_113 (by decide)
theorem d189_116 : adec m189 116 = some (.iload_n 3, 1) := by decide +kernel
theorem s189_116 {l0 : Nat} {l1 : Int} {l2 : Int} {l3 : Int} {l4 : Int} {l5 : AV} : WP m189 116 [.inr (.inl l0), .inl l1, .inl l2, .inl l3, .inl l4, l5] [] σ Q = WP m189 117 [.inr (.inl l0), .inl l1, .inl l2, .inl l3, .inl l4, l5] [.inl l3] σ Q := w_ld d189_116 rfl
theorem d189_117 : adec m189 117 = some (.aload_n 0, 1) := by decide +kernel
theorem s189_117 {l0 : Nat} {l1 : Int} {l2 : Int} {l3 : Int} {l4 : Int} {l5 : AV} {x0 : Int} : WP m189 117 [.inr (.inl l0), .inl l1, .inl l2, .inl l3, .inl l4, l5] [.inl x0] σ Q = WP m189 118 [.inr (.inl l0), .inl l1, .inl l2, .inl l3, .inl l4, l5] [.inr (.inl l0), .inl x0] σ Q := w_ld d189_117 rfl
theorem d189_118 : adec m189 118 = some (.getfield 78, 3) := by decide +kernel
theorem s189_118 {l0 : Nat} {l1 : Int} {l2 : Int} {l3 : Int} {l4 : Int} {l5 : AV} {x0 : Int} : WP m189 118 [.inr (.inl l0), .inl l1, .inl l2, .inl l3, .inl l4, l5] [.inr (.inl 130), .inl x0] σ Q = WP m189 121 [.inr (.inl l0), .inl l1, .inl l2, .inl l3, .inl l4, l5] [.inr (.inl 152), .inl x0] σ Q := (w_getR (c := 10) (n := 35) d189_118 (by decide +kernel) (by decide +kernel)).trans (g_and ⟨isO_dec (by decide +kernel), by decide +kernel⟩)
theorem d189_121 : adec m189 121 = some (.iload 4, 2) := by decide +kernel
theorem s189_121 {l0 : Nat} {l1 : Int} {l2 : Int} {l3 : Int} {l4 : Int} {l5 : AV} {x0 : Int} {x1 : Nat} : WP m189 121 [.inr (.inl l0), .inl l1, .inl l2, .inl l3, .inl l4, l5] [.inr (.inl x1), .inl x0] σ Q = WP m189 123 [.inr (.inl l0), .inl l1, .inl l2, .inl l3, .inl l4, l5] [.inl l4, .inr (.inl x1), .inl x0] σ Q := w_ld d189_121 rfl
theorem d189_123 : adec m189 123 = some (.iaload, 1) := by decide +kernel
theorem s189_123 {l0 : Nat} {l1 : Int} {l2 : Int} {l3 : Int} {l4 : Int} {l5 : AV} {x0 : Int} {x1 : Nat} {x2 : Int} : WP m189 123 [.inr (.inl l0), .inl l1, .inl l2, .inl l3, .inl l4, l5] [.inl x2, .inr (.inl x1), .inl x0] σ Q = ((kdS x1 = 20 ∧ 0 ≤ x2 ∧ x2 < ln x1) ∧ WP m189 124 [.inr (.inl l0), .inl l1, .inl l2, .inl l3, .inl l4, l5] [.inl (σ x1 x2.toNat), .inl x0] σ Q) := w_iald d189_123
theorem d189_124 : adec m189 124 = some (.ifCond .ne (7), 3) := by decide +kernel
theorem s189_124 {l0 : Nat} {l1 : Int} {l2 : Int} {l3 : Int} {l4 : Int} {l5 : AV} {x0 : Int} {x1 : Int} : WP m189 124 [.inr (.inl l0), .inl l1, .inl l2, .inl l3, .inl l4, l5] [.inl x1, .inl x0] σ Q = (if x1 = 0 then WP m189 127 [.inr (.inl l0), .inl l1, .inl l2, .inl l3, .inl l4, l5] [.inl x0] σ Q else WP m189 131 [.inr (.inl l0), .inl l1, .inl l2, .inl l3, .inl l4, l5] [.inl x0] σ Q) := w_ifne d189_124 (by decide)
theorem d189_127 : adec m189 127 = some (.iconst (1), 1) := by decide +kernel
theorem s189_127 {l0 : Nat} {l1 : Int} {l2 : Int} {l3 : Int} {l4 : Int} {l5 : AV} {x0 : Int} : WP m189 127 [.inr (.inl l0), .inl l1, .inl l2, .inl l3, .inl l4, l5] [.inl x0] σ Q = WP m189 128 [.inr (.inl l0), .inl l1, .inl l2, .inl l3, .inl l4, l5] [.inl (1), .inl x0] σ Q := w_iconst d189_127 (by decide)
theorem d189_128 : adec m189 128 = some (.goto (4), 3) := by decide +kernel
theorem s189_128 {l0 : Nat} {l1 : Int} {l2 : Int} {l3 : Int} {l4 : Int} {l5 : AV} {x0 : Int} {x1 : Int} : WP m189 128 [.inr (.inl l0), .inl l1, .inl l2, .inl l3, .inl l4, l5] [.inl x1, .inl x0] σ Q = WP m189 132 [.inr (.inl l0), .inl l1, .inl l2, .inl l3, .inl l4, l5] [.inl x1, .inl x0] σ Q := w_goto d189_128 (by decide)
theorem d189_131 : adec m189 131 = some (.iconst (0), 1) := by decide +kernel
theorem s189_131 {l0 : Nat} {l1 : Int} {l2 : Int} {l3 : Int} {l4 : Int} {l5 : AV} {x0 : Int} : WP m189 131 [.inr (.inl l0), .inl l1, .inl l2, .inl l3, .inl l4, l5] [.inl x0] σ Q = WP m189 132 [.inr (.inl l0), .inl l1, .inl l2, .inl l3, .inl l4, l5] [.inl (0), .inl x0] σ Q := w_iconst d189_131 (by decide)
theorem d189_132 : adec m189 132 = some (.iadd, 1) := by decide +kernel
theorem s189_132 {l0 : Nat} {l1 : Int} {l2 : Int} {l3 : Int} {l4 : Int} {l5 : AV} {x0 : Int} {x1 : Int} : WP m189 132 [.inr (.inl l0), .inl l1, .inl l2, .inl l3, .inl l4, l5] [.inl x1, .inl x0] σ Q = (inI (x0 + x1) ∧ WP m189 133 [.inr (.inl l0), .inl l1, .inl l2, .inl l3, .inl l4, l5] [.inl (x0 + x1)] σ Q) := w_iadd d189_132
theorem d189_133 : adec m189 133 = some (.istore_n 3, 1) := by decide +kernel
theorem s189_133 {l0 : Nat} {l1 : Int} {l2 : Int} {l3 : Int} {l4 : Int} {l5 : AV} {x0 : Int} : WP m189 133 [.inr (.inl l0), .inl l1, .inl l2, .inl l3, .inl l4, l5] [.inl x0] σ Q = WP m189 134 [.inr (.inl l0), .inl l1, .inl l2, .inl x0, .inl l4, l5] [] σ Q := w_st1 (j := 3) d189_133 rfl (Nat.le_of_ble_eq_true rfl) rfl
theorem d189_134 : adec m189 134 = some (.aload_n 0, 1) := by decide +kernel
theorem s189_134 {l0 : Nat} {l1 : Int} {l2 : Int} {l3 : Int} {l4 : Int} {l5 : AV} : WP m189 134 [.inr (.inl l0), .inl l1, .inl l2, .inl l3, .inl l4, l5] [] σ Q = WP m189 135 [.inr (.inl l0), .inl l1, .inl l2, .inl l3, .inl l4, l5] [.inr (.inl l0)] σ Q := w_ld d189_134 rfl
theorem d189_135 : adec m189 135 = some (.getfield 78, 3) := by decide +kernel
theorem s189_135 {l0 : Nat} {l1 : Int} {l2 : Int} {l3 : Int} {l4 : Int} {l5 : AV} : WP m189 135 [.inr (.inl l0), .inl l1, .inl l2, .inl l3, .inl l4, l5] [.inr (.inl 130)] σ Q = WP m189 138 [.inr (.inl l0), .inl l1, .inl l2, .inl l3, .inl l4, l5] [.inr (.inl 152)] σ Q := (w_getR (c := 10) (n := 35) d189_135 (by decide +kernel) (by decide +kernel)).trans (g_and ⟨isO_dec (by decide +kernel), by decide +kernel⟩)
theorem d189_138 : adec m189 138 = some (.iload 4, 2) := by decide +kernel
theorem s189_138 {l0 : Nat} {l1 : Int} {l2 : Int} {l3 : Int} {l4 : Int} {l5 : AV} {x0 : Nat} : WP m189 138 [.inr (.inl l0), .inl l1, .inl l2, .inl l3, .inl l4, l5] [.inr (.inl x0)] σ Q = WP m189 140 [.inr (.inl l0), .inl l1, .inl l2, .inl l3, .inl l4, l5] [.inl l4, .inr (.inl x0)] σ Q := w_ld d189_138 rfl
theorem d189_140 : adec m189 140 = some (.aload_n 0, 1) := by decide +kernel
theorem s189_140 {l0 : Nat} {l1 : Int} {l2 : Int} {l3 : Int} {l4 : Int} {l5 : AV} {x0 : Nat} {x1 : Int} : WP m189 140 [.inr (.inl l0), .inl l1, .inl l2, .inl l3, .inl l4, l5] [.inl x1, .inr (.inl x0)] σ Q = WP m189 141 [.inr (.inl l0), .inl l1, .inl l2, .inl l3, .inl l4, l5] [.inr (.inl l0), .inl x1, .inr (.inl x0)] σ Q := w_ld d189_140 rfl
theorem d189_141 : adec m189 141 = some (.getfield 78, 3) := by decide +kernel
theorem s189_141 {l0 : Nat} {l1 : Int} {l2 : Int} {l3 : Int} {l4 : Int} {l5 : AV} {x0 : Nat} {x1 : Int} : WP m189 141 [.inr (.inl l0), .inl l1, .inl l2, .inl l3, .inl l4, l5] [.inr (.inl 130), .inl x1, .inr (.inl x0)] σ Q = WP m189 144 [.inr (.inl l0), .inl l1, .inl l2, .inl l3, .inl l4, l5] [.inr (.inl 152), .inl x1, .inr (.inl x0)] σ Q := (w_getR (c := 10) (n := 35) d189_141 (by decide +kernel) (by decide +kernel)).trans (g_and ⟨isO_dec (by decide +kernel), by decide +kernel⟩)
theorem d189_144 : adec m189 144 = some (.iload 4, 2) := by decide +kernel
theorem s189_144 {l0 : Nat} {l1 : Int} {l2 : Int} {l3 : Int} {l4 : Int} {l5 : AV} {x0 : Nat} {x1 : Int} {x2 : Nat} : WP m189 144 [.inr (.inl l0), .inl l1, .inl l2, .inl l3, .inl l4, l5] [.inr (.inl x2), .inl x1, .inr (.inl x0)] σ Q = WP m189 146 [.inr (.inl l0), .inl l1, .inl l2, .inl l3, .inl l4, l5] [.inl l4, .inr (.inl x2), .inl x1, .inr (.inl x0)] σ Q := w_ld d189_144 rfl
theorem d189_146 : adec m189 146 = some (.iaload, 1) := by decide +kernel
theorem s189_146 {l0 : Nat} {l1 : Int} {l2 : Int} {l3 : Int} {l4 : Int} {l5 : AV} {x0 : Nat} {x1 : Int} {x2 : Nat} {x3 : Int} : WP m189 146 [.inr (.inl l0), .inl l1, .inl l2, .inl l3, .inl l4, l5] [.inl x3, .inr (.inl x2), .inl x1, .inr (.inl x0)] σ Q = ((kdS x2 = 20 ∧ 0 ≤ x3 ∧ x3 < ln x2) ∧ WP m189 147 [.inr (.inl l0), .inl l1, .inl l2, .inl l3, .inl l4, l5] [.inl (σ x2 x3.toNat), .inl x1, .inr (.inl x0)] σ Q) := w_iald d189_146
theorem d189_147 : adec m189 147 = some (.ifCond .ne (10), 3) := by decide +kernel
theorem s189_147 {l0 : Nat} {l1 : Int} {l2 : Int} {l3 : Int} {l4 : Int} {l5 : AV} {x0 : Nat} {x1 : Int} {x2 : Int} : WP m189 147 [.inr (.inl l0), .inl l1, .inl l2, .inl l3, .inl l4, l5] [.inl x2, .inl x1, .inr (.inl x0)] σ Q = (if x2 = 0 then WP m189 150 [.inr (.inl l0), .inl l1, .inl l2, .inl l3, .inl l4, l5] [.inl x1, .inr (.inl x0)] σ Q else WP m189 157 [.inr (.inl l0), .inl l1, .inl l2, .inl l3, .inl l4, l5] [.inl x1, .inr (.inl x0)] σ Q) := w_ifne d189_147 (by decide)
theorem d189_150 : adec m189 150 = some (.bipush (96), 2) := by decide +kernel
theorem s189_150 {l0 : Nat} {l1 : Int} {l2 : Int} {l3 : Int} {l4 : Int} {l5 : AV} {x0 : Nat} {x1 : Int} : WP m189 150 [.inr (.inl l0), .inl l1, .inl l2, .inl l3, .inl l4, l5] [.inl x1, .inr (.inl x0)] σ Q = WP m189 152 [.inr (.inl l0), .inl l1, .inl l2, .inl l3, .inl l4, l5] [.inl (96), .inl x1, .inr (.inl x0)] σ Q := w_bipush d189_150 (by decide)
theorem d189_152 : adec m189 152 = some (.iload_n 3, 1) := by decide +kernel
theorem s189_152 {l0 : Nat} {l1 : Int} {l2 : Int} {l3 : Int} {l4 : Int} {l5 : AV} {x0 : Nat} {x1 : Int} {x2 : Int} : WP m189 152 [.inr (.inl l0), .inl l1, .inl l2, .inl l3, .inl l4, l5] [.inl x2, .inl x1, .inr (.inl x0)] σ Q = WP m189 153 [.inr (.inl l0), .inl l1, .inl l2, .inl l3, .inl l4, l5] [.inl l3, .inl x2, .inl x1, .inr (.inl x0)] σ Q := w_ld d189_152 rfl
theorem d189_153 : adec m189 153 = some (.iadd, 1) := by decide +kernel
theorem s189_153 {l0 : Nat} {l1 : Int} {l2 : Int} {l3 : Int} {l4 : Int} {l5 : AV} {x0 : Nat} {x1 : Int} {x2 : Int} {x3 : Int} : WP m189 153 [.inr (.inl l0), .inl l1, .inl l2, .inl l3, .inl l4, l5] [.inl x3, .inl x2, .inl x1, .inr (.inl x0)] σ Q = (inI (x2 + x3) ∧ WP m189 154 [.inr (.inl l0), .inl l1, .inl l2, .inl l3, .inl l4, l5] [.inl (x2 + x3), .inl x1, .inr (.inl x0)] σ Q) := w_iadd d189_153
theorem d189_154 : adec m189 154 = some (.goto (10), 3) := by decide +kernel
theorem s189_154 {l0 : Nat} {l1 : Int} {l2 : Int} {l3 : Int} {l4 : Int} {l5 : AV} {x0 : Nat} {x1 : Int} {x2 : Int} : WP m189 154 [.inr (.inl l0), .inl l1, .inl l2, .inl l3, .inl l4, l5] [.inl x2, .inl x1, .inr (.inl x0)] σ Q = WP m189 164 [.inr (.inl l0), .inl l1, .inl l2, .inl l3, .inl l4, l5] [.inl x2, .inl x1, .inr (.inl x0)] σ Q := w_goto d189_154 (by decide)
theorem d189_157 : adec m189 157 = some (.aload_n 0, 1) := by decide +kernel
theorem s189_157 {l0 : Nat} {l1 : Int} {l2 : Int} {l3 : Int} {l4 : Int} {l5 : AV} {x0 : Nat} {x1 : Int} : WP m189 157 [.inr (.inl l0), .inl l1, .inl l2, .inl l3, .inl l4, l5] [.inl x1, .inr (.inl x0)] σ Q = WP m189 158 [.inr (.inl l0), .inl l1, .inl l2, .inl l3, .inl l4, l5] [.inr (.inl l0), .inl x1, .inr (.inl x0)] σ Q := w_ld d189_157 rfl
theorem d189_158 : adec m189 158 = some (.getfield 78, 3) := by decide +kernel
theorem s189_158 {l0 : Nat} {l1 : Int} {l2 : Int} {l3 : Int} {l4 : Int} {l5 : AV} {x0 : Nat} {x1 : Int} : WP m189 158 [.inr (.inl l0), .inl l1, .inl l2, .inl l3, .inl l4, l5] [.inr (.inl 130), .inl x1, .inr (.inl x0)] σ Q = WP m189 161 [.inr (.inl l0), .inl l1, .inl l2, .inl l3, .inl l4, l5] [.inr (.inl 152), .inl x1, .inr (.inl x0)] σ Q := (w_getR (c := 10) (n := 35) d189_158 (by decide +kernel) (by decide +kernel)).trans (g_and ⟨isO_dec (by decide +kernel), by decide +kernel⟩)
theorem d189_161 : adec m189 161 = some (.iload 4, 2) := by decide +kernel
theorem s189_161 {l0 : Nat} {l1 : Int} {l2 : Int} {l3 : Int} {l4 : Int} {l5 : AV} {x0 : Nat} {x1 : Int} {x2 : Nat} : WP m189 161 [.inr (.inl l0), .inl l1, .inl l2, .inl l3, .inl l4, l5] [.inr (.inl x2), .inl x1, .inr (.inl x0)] σ Q = WP m189 163 [.inr (.inl l0), .inl l1, .inl l2, .inl l3, .inl l4, l5] [.inl l4, .inr (.inl x2), .inl x1, .inr (.inl x0)] σ Q := w_ld d189_161 rfl
theorem d189_163 : adec m189 163 = some (.iaload, 1) := by decide +kernel
theorem s189_163 {l0 : Nat} {l1 : Int} {l2 : Int} {l3 : Int} {l4 : Int} {l5 : AV} {x0 : Nat} {x1 : Int} {x2 : Nat} {x3 : Int} : WP m189 163 [.inr (.inl l0), .inl l1, .inl l2, .inl l3, .inl l4, l5] [.inl x3, .inr (.inl x2), .inl x1, .inr (.inl x0)] σ Q = ((kdS x2 = 20 ∧ 0 ≤ x3 ∧ x3 < ln x2) ∧ WP m189 164 [.inr (.inl l0), .inl l1, .inl l2, .inl l3, .inl l4, l5] [.inl (σ x2 x3.toNat), .inl x1, .inr (.inl x0)] σ Q) := w_iald d189_163
theorem d189_164 : adec m189 164 = some (.iastore, 1) := by decide +kernel
theorem s189_164 {l0 : Nat} {l1 : Int} {l2 : Int} {l3 : Int} {l4 : Int} {l5 : AV} {x0 : Nat} {x1 : Int} {x2 : Int} : WP m189 164 [.inr (.inl l0), .inl l1, .inl l2, .inl l3, .inl l4, l5] [.inl x2, .inl x1, .inr (.inl x0)] σ Q = ((kdS x0 = 20 ∧ 0 ≤ x1 ∧ x1 < ln x0) ∧ WP m189 165 [.inr (.inl l0), .inl l1, .inl l2, .inl l3, .inl l4, l5] [] (aup σ x0 x1.toNat x2) Q) := w_iast d189_164
theorem d189_165 : adec m189 165 = some (.aload_n 0, 1) := by decide +kernel
theorem s189_165 {l0 : Nat} {l1 : Int} {l2 : Int} {l3 : Int} {l4 : Int} {l5 : AV} : WP m189 165 [.inr (.inl l0), .inl l1, .inl l2, .inl l3, .inl l4, l5] [] σ Q = WP m189 166 [.inr (.inl l0), .inl l1, .inl l2, .inl l3, .inl l4, l5] [.inr (.inl l0)] σ Q := w_ld d189_165 rfl
theorem d189_166 : adec m189 166 = some (.aload_n 0, 1) := by decide +kernel
theorem s189_166 {l0 : Nat} {l1 : Int} {l2 : Int} {l3 : Int} {l4 : Int} {l5 : AV} {x0 : Nat} : WP m189 166 [.inr (.inl l0), .inl l1, .inl l2, .inl l3, .inl l4, l5] [.inr (.inl x0)] σ Q = WP m189 167 [.inr (.inl l0), .inl l1, .inl l2, .inl l3, .inl l4, l5] [.inr (.inl l0), .inr (.inl x0)] σ Q := w_ld d189_166 rfl
theorem d189_167 : adec m189 167 = some (.getfield 78, 3) := by decide +kernel
theorem s189_167 {l0 : Nat} {l1 : Int} {l2 : Int} {l3 : Int} {l4 : Int} {l5 : AV} {x0 : Nat} : WP m189 167 [.inr (.inl l0), .inl l1, .inl l2, .inl l3, .inl l4, l5] [.inr (.inl 130), .inr (.inl x0)] σ Q = WP m189 170 [.inr (.inl l0), .inl l1, .inl l2, .inl l3, .inl l4, l5] [.inr (.inl 152), .inr (.inl x0)] σ Q := (w_getR (c := 10) (n := 35) d189_167 (by decide +kernel) (by decide +kernel)).trans (g_and ⟨isO_dec (by decide +kernel), by decide +kernel⟩)
theorem d189_170 : adec m189 170 = some (.iload 4, 2) := by decide +kernel
theorem s189_170 {l0 : Nat} {l1 : Int} {l2 : Int} {l3 : Int} {l4 : Int} {l5 : AV} {x0 : Nat} {x1 : Nat} : WP m189 170 [.inr (.inl l0), .inl l1, .inl l2, .inl l3, .inl l4, l5] [.inr (.inl x1), .inr (.inl x0)] σ Q = WP m189 172 [.inr (.inl l0), .inl l1, .inl l2, .inl l3, .inl l4, l5] [.inl l4, .inr (.inl x1), .inr (.inl x0)] σ Q := w_ld d189_170 rfl
theorem d189_172 : adec m189 172 = some (.iaload, 1) := by decide +kernel
theorem s189_172 {l0 : Nat} {l1 : Int} {l2 : Int} {l3 : Int} {l4 : Int} {l5 : AV} {x0 : Nat} {x1 : Nat} {x2 : Int} : WP m189 172 [.inr (.inl l0), .inl l1, .inl l2, .inl l3, .inl l4, l5] [.inl x2, .inr (.inl x1), .inr (.inl x0)] σ Q = ((kdS x1 = 20 ∧ 0 ≤ x2 ∧ x2 < ln x1) ∧ WP m189 173 [.inr (.inl l0), .inl l1, .inl l2, .inl l3, .inl l4, l5] [.inl (σ x1 x2.toNat), .inr (.inl x0)] σ Q) := w_iald d189_172
theorem d189_173 : adec m189 173 = some (.invokevirtual 310, 3) := by decide +kernel
theorem s189_173 {l0 : Nat} {l1 : Int} {l2 : Int} {l3 : Int} {l4 : Int} {l5 : AV} {x1 : Int} : WP m189 173 [.inr (.inl l0), .inl l1, .inl l2, .inl l3, .inl l4, l5] [.inl x1, .inr (.inl 130)] σ Q = CA m188 [.inr (.inl 130), .inl x1] σ (fun v σ2 => WP m189 176 [.inr (.inl l0), .inl l1, .inl l2, .inl l3, .inl l4, l5] (v ++ []) σ2 Q) := (w_cV (k := 188) d189_173 (by decide +kernel) m188_at rfl rfl ⟨Nat.le_of_ble_eq_true rfl, Nat.le_of_ble_eq_true rfl, Nat.le_of_ble_eq_true rfl⟩ (by decide)).trans (g_and (isO_dec (by decide +kernel)))
theorem d189_176 : adec m189 176 = some (.goto (80), 3) := by decide +kernel
theorem s189_176 {l0 : Nat} {l1 : Int} {l2 : Int} {l3 : Int} {l4 : Int} {l5 : AV} : WP m189 176 [.inr (.inl l0), .inl l1, .inl l2, .inl l3, .inl l4, l5] [] σ Q = WP m189 256 [.inr (.inl l0), .inl l1, .inl l2, .inl l3, .inl l4, l5] [] σ Q := w_goto d189_176 (by decide)
theorem d189_179 : adec m189 179 = some (.aload_n 0, 1) := by decide +kernel
theorem s189_179 {l0 : Nat} {l1 : Int} {l2 : Int} {l3 : Int} {l4 : Int} {l5 : AV} : WP m189 179 [.inr (.inl l0), .inl l1, .inl l2, .inl l3, .inl l4, l5] [] σ Q = WP m189 180 [.inr (.inl l0), .inl l1, .inl l2, .inl l3, .inl l4, l5] [.inr (.inl l0)] σ Q := w_ld d189_179 rfl
theorem d189_180 : adec m189 180 = some (.getfield 54, 3) := by decide +kernel
theorem s189_180 {l0 : Nat} {l1 : Int} {l2 : Int} {l3 : Int} {l4 : Int} {l5 : AV} : WP m189 180 [.inr (.inl l0), .inl l1, .inl l2, .inl l3, .inl l4, l5] [.inr (.inl 130)] σ Q = WP m189 183 [.inr (.inl l0), .inl l1, .inl l2, .inl l3, .inl l4, l5] [.inr (.inl 144)] σ Q := (w_getR (c := 10) (n := 25) d189_180 (by decide +kernel) (by decide +kernel)).trans (g_and ⟨isO_dec (by decide +kernel), by decide +kernel⟩)
theorem d189_183 : adec m189 183 = some (.aload_n 0, 1) := by decide +kernel
theorem s189_183 {l0 : Nat} {l1 : Int} {l2 : Int} {l3 : Int} {l4 : Int} {l5 : AV} {x0 : Nat} : WP m189 183 [.inr (.inl l0), .inl l1, .inl l2, .inl l3, .inl l4, l5] [.inr (.inl x0)] σ Q = WP m189 184 [.inr (.inl l0), .inl l1, .inl l2, .inl l3, .inl l4, l5] [.inr (.inl l0), .inr (.inl x0)] σ Q := w_ld d189_183 rfl
theorem d189_184 : adec m189 184 = some (.aload_n 0, 1) := by decide +kernel
theorem s189_184 {l0 : Nat} {l1 : Int} {l2 : Int} {l3 : Int} {l4 : Int} {l5 : AV} {x0 : Nat} {x1 : Nat} : WP m189 184 [.inr (.inl l0), .inl l1, .inl l2, .inl l3, .inl l4, l5] [.inr (.inl x1), .inr (.inl x0)] σ Q = WP m189 185 [.inr (.inl l0), .inl l1, .inl l2, .inl l3, .inl l4, l5] [.inr (.inl l0), .inr (.inl x1), .inr (.inl x0)] σ Q := w_ld d189_184 rfl
theorem d189_185 : adec m189 185 = some (.getfield 54, 3) := by decide +kernel
theorem s189_185 {l0 : Nat} {l1 : Int} {l2 : Int} {l3 : Int} {l4 : Int} {l5 : AV} {x0 : Nat} {x1 : Nat} : WP m189 185 [.inr (.inl l0), .inl l1, .inl l2, .inl l3, .inl l4, l5] [.inr (.inl 130), .inr (.inl x1), .inr (.inl x0)] σ Q = WP m189 188 [.inr (.inl l0), .inl l1, .inl l2, .inl l3, .inl l4, l5] [.inr (.inl 144), .inr (.inl x1), .inr (.inl x0)] σ Q := (w_getR (c := 10) (n := 25) d189_185 (by decide +kernel) (by decide +kernel)).trans (g_and ⟨isO_dec (by decide +kernel), by decide +kernel⟩)
theorem d189_188 : adec m189 188 = some (.iload 4, 2) := by decide +kernel
theorem s189_188 {l0 : Nat} {l1 : Int} {l2 : Int} {l3 : Int} {l4 : Int} {l5 : AV} {x0 : Nat} {x1 : Nat} {x2 : Nat} : WP m189 188 [.inr (.inl l0), .inl l1, .inl l2, .inl l3, .inl l4, l5] [.inr (.inl x2), .inr (.inl x1), .inr (.inl x0)] σ Q = WP m189 190 [.inr (.inl l0), .inl l1, .inl l2, .inl l3, .inl l4, l5] [.inl l4, .inr (.inl x2), .inr (.inl x1), .inr (.inl x0)] σ Q := w_ld d189_188 rfl
theorem d189_190 : adec m189 190 = some (.iaload, 1) := by decide +kernel
theorem s189_190 {l0 : Nat} {l1 : Int} {l2 : Int} {l3 : Int} {l4 : Int} {l5 : AV} {x0 : Nat} {x1 : Nat} {x2 : Nat} {x3 : Int} : WP m189 190 [.inr (.inl l0), .inl l1, .inl l2, .inl l3, .inl l4, l5] [.inl x3, .inr (.inl x2), .inr (.inl x1), .inr (.inl x0)] σ Q = ((kdS x2 = 20 ∧ 0 ≤ x3 ∧ x3 < ln x2) ∧ WP m189 191 [.inr (.inl l0), .inl l1, .inl l2, .inl l3, .inl l4, l5] [.inl (σ x2 x3.toNat), .inr (.inl x1), .inr (.inl x0)] σ Q) := w_iald d189_190
theorem d189_191 : adec m189 191 = some (.invokevirtual 289, 3) := by decide +kernel
theorem s189_191 {l0 : Nat} {l1 : Int} {l2 : Int} {l3 : Int} {l4 : Int} {l5 : AV} {x0 : Nat} {x2 : Int} : WP m189 191 [.inr (.inl l0), .inl l1, .inl l2, .inl l3, .inl l4, l5] [.inl x2, .inr (.inl 130), .inr (.inl x0)] σ Q = CA m182 [.inr (.inl 130), .inl x2] σ (fun v σ2 => WP m189 194 [.inr (.inl l0), .inl l1, .inl l2, .inl l3, .inl l4, l5] (v ++ [.inr (.inl x0)]) σ2 Q) := (w_cV (k := 182) d189_191 (by decide +kernel) m182_at rfl rfl ⟨Nat.le_of_ble_eq_true rfl, Nat.le_of_ble_eq_true rfl, Nat.le_of_ble_eq_true rfl⟩ (by decide)).trans (g_and (isO_dec (by decide +kernel)))
theorem d189_194 : adec m189 194 = some (.iaload, 1) := by decide +kernel
theorem s189_194 {l0 : Nat} {l1 : Int} {l2 : Int} {l3 : Int} {l4 : Int} {l5 : AV} {x0 : Nat} {x1 : Int} : WP m189 194 [.inr (.inl l0), .inl l1, .inl l2, .inl l3, .inl l4, l5] [.inl x1, .inr (.inl x0)] σ Q = ((kdS x0 = 20 ∧ 0 ≤ x1 ∧ x1 < ln x0) ∧ WP m189 195 [.inr (.inl l0), .inl l1, .inl l2, .inl l3, .inl l4, l5] [.inl (σ x0 x1.toNat)] σ Q) := w_iald d189_194
theorem d189_195 : adec m189 195 = some (.iconst (-1), 1) := by decide +kernel
theorem s189_195 {l0 : Nat} {l1 : Int} {l2 : Int} {l3 : Int} {l4 : Int} {l5 : AV} {x0 : Int} : WP m189 195 [.inr (.inl l0), .inl l1, .inl l2, .inl l3, .inl l4, l5] [.inl x0] σ Q = WP m189 196 [.inr (.inl l0), .inl l1, .inl l2, .inl l3, .inl l4, l5] [.inl (-1), .inl x0] σ Q := w_iconst d189_195 (by decide)
theorem d189_196 : adec m189 196 = some (.if_icmp .eq (7), 3) := by decide +kernel
theorem s189_196 {l0 : Nat} {l1 : Int} {l2 : Int} {l3 : Int} {l4 : Int} {l5 : AV} {x0 : Int} {x1 : Int} : WP m189 196 [.inr (.inl l0), .inl l1, .inl l2, .inl l3, .inl l4, l5] [.inl x1, .inl x0] σ Q = (if x0 = x1 then WP m189 203 [.inr (.inl l0), .inl l1, .inl l2, .inl l3, .inl l4, l5] [] σ Q else WP m189 199 [.inr (.inl l0), .inl l1, .inl l2, .inl l3, .inl l4, l5] [] σ Q) := w_iceq d189_196 (by decide)
theorem d189_199 : adec m189 199 = some (.iconst (1), 1) := by decide +kernel
theorem s189_199 {l0 : Nat} {l1 : Int} {l2 : Int} {l3 : Int} {l4 : Int} {l5 : AV} : WP m189 199 [.inr (.inl l0), .inl l1, .inl l2, .inl l3, .inl l4, l5] [] σ Q = WP m189 200 [.inr (.inl l0), .inl l1, .inl l2, .inl l3, .inl l4, l5] [.inl (1)] σ Q := w_iconst d189_199 (by decide)
theorem d189_200 : adec m189 200 = some (.goto (4), 3) := by decide +kernel
theorem s189_200 {l0 : Nat} {l1 : Int} {l2 : Int} {l3 : Int} {l4 : Int} {l5 : AV} {x0 : Int} : WP m189 200 [.inr (.inl l0), .inl l1, .inl l2, .inl l3, .inl l4, l5] [.inl x0] σ Q = WP m189 204 [.inr (.inl l0), .inl l1, .inl l2, .inl l3, .inl l4, l5] [.inl x0] σ Q := w_goto d189_200 (by decide)
theorem d189_203 : adec m189 203 = some (.iconst (0), 1) := by decide +kernel
theorem s189_203 {l0 : Nat} {l1 : Int} {l2 : Int} {l3 : Int} {l4 : Int} {l5 : AV} : WP m189 203 [.inr (.inl l0), .inl l1, .inl l2, .inl l3, .inl l4, l5] [] σ Q = WP m189 204 [.inr (.inl l0), .inl l1, .inl l2, .inl l3, .inl l4, l5] [.inl (0)] σ Q := w_iconst d189_203 (by decide)
theorem d189_204 : adec m189 204 = some (.istore 5, 2) := by decide +kernel
theorem s189_204 {l0 : Nat} {l1 : Int} {l2 : Int} {l3 : Int} {l4 : Int} {l5 : AV} {x0 : Int} : WP m189 204 [.inr (.inl l0), .inl l1, .inl l2, .inl l3, .inl l4, l5] [.inl x0] σ Q = WP m189 206 [.inr (.inl l0), .inl l1, .inl l2, .inl l3, .inl l4, .inl x0] [] σ Q := w_st1 (j := 5) d189_204 rfl (Nat.le_of_ble_eq_true rfl) rfl
theorem d189_206 : adec m189 206 = some (.aload_n 0, 1) := by decide +kernel
theorem s189_206 {l0 : Nat} {l1 : Int} {l2 : Int} {l3 : Int} {l4 : Int} {l5 : Int} : WP m189 206 [.inr (.inl l0), .inl l1, .inl l2, .inl l3, .inl l4, .inl l5] [] σ Q = WP m189 207 [.inr (.inl l0), .inl l1, .inl l2, .inl l3, .inl l4, .inl l5] [.inr (.inl l0)] σ Q := w_ld d189_206 rfl
theorem d189_207 : adec m189 207 = some (.aload_n 0, 1) := by decide +kernel
theorem s189_207 {l0 : Nat} {l1 : Int} {l2 : Int} {l3 : Int} {l4 : Int} {l5 : Int} {x0 : Nat} : WP m189 207 [.inr (.inl l0), .inl l1, .inl l2, .inl l3, .inl l4, .inl l5] [.inr (.inl x0)] σ Q = WP m189 208 [.inr (.inl l0), .inl l1, .inl l2, .inl l3, .inl l4, .inl l5] [.inr (.inl l0), .inr (.inl x0)] σ Q := w_ld d189_207 rfl
theorem d189_208 : adec m189 208 = some (.getfield 57, 3) := by decide +kernel
theorem s189_208 {l0 : Nat} {l1 : Int} {l2 : Int} {l3 : Int} {l4 : Int} {l5 : Int} {x0 : Nat} : WP m189 208 [.inr (.inl l0), .inl l1, .inl l2, .inl l3, .inl l4, .inl l5] [.inr (.inl 130), .inr (.inl x0)] σ Q = WP m189 211 [.inr (.inl l0), .inl l1, .inl l2, .inl l3, .inl l4, .inl l5] [.inr (.inl 145), .inr (.inl x0)] σ Q := (w_getR (c := 10) (n := 26) d189_208 (by decide +kernel) (by decide +kernel)).trans (g_and ⟨isO_dec (by decide +kernel), by decide +kernel⟩)
theorem d189_211 : adec m189 211 = some (.iload 4, 2) := by decide +kernel
theorem s189_211 {l0 : Nat} {l1 : Int} {l2 : Int} {l3 : Int} {l4 : Int} {l5 : Int} {x0 : Nat} {x1 : Nat} : WP m189 211 [.inr (.inl l0), .inl l1, .inl l2, .inl l3, .inl l4, .inl l5] [.inr (.inl x1), .inr (.inl x0)] σ Q = WP m189 213 [.inr (.inl l0), .inl l1, .inl l2, .inl l3, .inl l4, .inl l5] [.inl l4, .inr (.inl x1), .inr (.inl x0)] σ Q := w_ld d189_211 rfl
theorem d189_213 : adec m189 213 = some (.iaload, 1) := by decide +kernel
theorem s189_213 {l0 : Nat} {l1 : Int} {l2 : Int} {l3 : Int} {l4 : Int} {l5 : Int} {x0 : Nat} {x1 : Nat} {x2 : Int} : WP m189 213 [.inr (.inl l0), .inl l1, .inl l2, .inl l3, .inl l4, .inl l5] [.inl x2, .inr (.inl x1), .inr (.inl x0)] σ Q = ((kdS x1 = 20 ∧ 0 ≤ x2 ∧ x2 < ln x1) ∧ WP m189 214 [.inr (.inl l0), .inl l1, .inl l2, .inl l3, .inl l4, .inl l5] [.inl (σ x1 x2.toNat), .inr (.inl x0)] σ Q) := w_iald d189_213
theorem d189_214 : adec m189 214 = some (.invokevirtual 172, 3) := by decide +kernel
theorem s189_214 {l0 : Nat} {l1 : Int} {l2 : Int} {l3 : Int} {l4 : Int} {l5 : Int} {x1 : Int} : WP m189 214 [.inr (.inl l0), .inl l1, .inl l2, .inl l3, .inl l4, .inl l5] [.inl x1, .inr (.inl 130)] σ Q = CA m132 [.inr (.inl 130), .inl x1] σ (fun v σ2 => WP m189 217 [.inr (.inl l0), .inl l1, .inl l2, .inl l3, .inl l4, .inl l5] (v ++ []) σ2 Q) := (w_cV (k := 132) d189_214 (by decide +kernel) m132_at rfl rfl ⟨Nat.le_of_ble_eq_true rfl, Nat.le_of_ble_eq_true rfl, Nat.le_of_ble_eq_true rfl⟩ (by decide)).trans (g_and (isO_dec (by decide +kernel)))
theorem d189_217 : adec m189 217 = some (.aload_n 0, 1) := by decide +kernel
theorem s189_217 {l0 : Nat} {l1 : Int} {l2 : Int} {l3 : Int} {l4 : Int} {l5 : Int} : WP m189 217 [.inr (.inl l0), .inl l1, .inl l2, .inl l3, .inl l4, .inl l5] [] σ Q = WP m189 218 [.inr (.inl l0), .inl l1, .inl l2, .inl l3, .inl l4, .inl l5] [.inr (.inl l0)] σ Q := w_ld d189_217 rfl
theorem d189_218 : adec m189 218 = some (.bipush (-62), 2) := by decide +kernel
theorem s189_218 {l0 : Nat} {l1 : Int} {l2 : Int} {l3 : Int} {l4 : Int} {l5 : Int} {x0 : Nat} : WP m189 218 [.inr (.inl l0), .inl l1, .inl l2, .inl l3, .inl l4, .inl l5] [.inr (.inl x0)] σ Q = WP m189 220 [.inr (.inl l0), .inl l1, .inl l2, .inl l3, .inl l4, .inl l5] [.inl (-62), .inr (.inl x0)] σ Q := w_bipush d189_218 (by decide)
theorem d189_220 : adec m189 220 = some (.invokevirtual 172, 3) := by decide +kernel
theorem s189_220 {l0 : Nat} {l1 : Int} {l2 : Int} {l3 : Int} {l4 : Int} {l5 : Int} {x1 : Int} : WP m189 220 [.inr (.inl l0), .inl l1, .inl l2, .inl l3, .inl l4, .inl l5] [.inl x1, .inr (.inl 130)] σ Q = CA m132 [.inr (.inl 130), .inl x1] σ (fun v σ2 => WP m189 223 [.inr (.inl l0), .inl l1, .inl l2, .inl l3, .inl l4, .inl l5] (v ++ []) σ2 Q) := (w_cV (k := 132) d189_220 (by decide +kernel) m132_at rfl rfl ⟨Nat.le_of_ble_eq_true rfl, Nat.le_of_ble_eq_true rfl, Nat.le_of_ble_eq_true rfl⟩ (by decide)).trans (g_and (isO_dec (by decide +kernel)))
theorem d189_223 : adec m189 223 = some (.iload 5, 2) := by decide +kernel
theorem s189_223 {l0 : Nat} {l1 : Int} {l2 : Int} {l3 : Int} {l4 : Int} {l5 : Int} : WP m189 223 [.inr (.inl l0), .inl l1, .inl l2, .inl l3, .inl l4, .inl l5] [] σ Q = WP m189 225 [.inr (.inl l0), .inl l1, .inl l2, .inl l3, .inl l4, .inl l5] [.inl l5] σ Q := w_ld d189_223 rfl
theorem d189_225 : adec m189 225 = some (.ifCond .eq (9), 3) := by decide +kernel
theorem s189_225 {l0 : Nat} {l1 : Int} {l2 : Int} {l3 : Int} {l4 : Int} {l5 : Int} {x0 : Int} : WP m189 225 [.inr (.inl l0), .inl l1, .inl l2, .inl l3, .inl l4, .inl l5] [.inl x0] σ Q = (if x0 = 0 then WP m189 234 [.inr (.inl l0), .inl l1, .inl l2, .inl l3, .inl l4, .inl l5] [] σ Q else WP m189 228 [.inr (.inl l0), .inl l1, .inl l2, .inl l3, .inl l4, .inl l5] [] σ Q) := w_ifeq d189_225 (by decide)
theorem d189_228 : adec m189 228 = some (.aload_n 0, 1) := by decide +kernel
theorem s189_228 {l0 : Nat} {l1 : Int} {l2 : Int} {l3 : Int} {l4 : Int} {l5 : Int} : WP m189 228 [.inr (.inl l0), .inl l1, .inl l2, .inl l3, .inl l4, .inl l5] [] σ Q = WP m189 229 [.inr (.inl l0), .inl l1, .inl l2, .inl l3, .inl l4, .inl l5] [.inr (.inl l0)] σ Q := w_ld d189_228 rfl
theorem d189_229 : adec m189 229 = some (.bipush (-41), 2) := by decide +kernel
theorem s189_229 {l0 : Nat} {l1 : Int} {l2 : Int} {l3 : Int} {l4 : Int} {l5 : Int} {x0 : Nat} : WP m189 229 [.inr (.inl l0), .inl l1, .inl l2, .inl l3, .inl l4, .inl l5] [.inr (.inl x0)] σ Q = WP m189 231 [.inr (.inl l0), .inl l1, .inl l2, .inl l3, .inl l4, .inl l5] [.inl (-41), .inr (.inl x0)] σ Q := w_bipush d189_229 (by decide)
theorem d189_231 : adec m189 231 = some (.invokevirtual 172, 3) := by decide +kernel
theorem s189_231 {l0 : Nat} {l1 : Int} {l2 : Int} {l3 : Int} {l4 : Int} {l5 : Int} {x1 : Int} : WP m189 231 [.inr (.inl l0), .inl l1, .inl l2, .inl l3, .inl l4, .inl l5] [.inl x1, .inr (.inl 130)] σ Q = CA m132 [.inr (.inl 130), .inl x1] σ (fun v σ2 => WP m189 234 [.inr (.inl l0), .inl l1, .inl l2, .inl l3, .inl l4, .inl l5] (v ++ []) σ2 Q) := (w_cV (k := 132) d189_231 (by decide +kernel) m132_at rfl rfl ⟨Nat.le_of_ble_eq_true rfl, Nat.le_of_ble_eq_true rfl, Nat.le_of_ble_eq_true rfl⟩ (by decide)).trans (g_and (isO_dec (by decide +kernel)))
theorem d189_234 : adec m189 234 = some (.aload_n 0, 1) := by decide +kernel
theorem s189_234 {l0 : Nat} {l1 : Int} {l2 : Int} {l3 : Int} {l4 : Int} {l5 : Int} : WP m189 234 [.inr (.inl l0), .inl l1, .inl l2, .inl l3, .inl l4, .inl l5] [] σ Q = WP m189 235 [.inr (.inl l0), .inl l1, .inl l2, .inl l3, .inl l4, .inl l5] [.inr (.inl l0)] σ Q := w_ld d189_234 rfl
theorem d189_235 : adec m189 235 = some (.aload_n 0, 1) := by decide +kernel
theorem s189_235 {l0 : Nat} {l1 : Int} {l2 : Int} {l3 : Int} {l4 : Int} {l5 : Int} {x0 : Nat} : WP m189 235 [.inr (.inl l0), .inl l1, .inl l2, .inl l3, .inl l4, .inl l5] [.inr (.inl x0)] σ Q = WP m189 236 [.inr (.inl l0), .inl l1, .inl l2, .inl l3, .inl l4, .inl l5] [.inr (.inl l0), .inr (.inl x0)] σ Q := w_ld d189_235 rfl
theorem d189_236 : adec m189 236 = some (.getfield 54, 3) := by decide +kernel
theorem s189_236 {l0 : Nat} {l1 : Int} {l2 : Int} {l3 : Int} {l4 : Int} {l5 : Int} {x0 : Nat} : WP m189 236 [.inr (.inl l0), .inl l1, .inl l2, .inl l3, .inl l4, .inl l5] [.inr (.inl 130), .inr (.inl x0)] σ Q = WP m189 239 [.inr (.inl l0), .inl l1, .inl l2, .inl l3, .inl l4, .inl l5] [.inr (.inl 144), .inr (.inl x0)] σ Q := (w_getR (c := 10) (n := 25) d189_236 (by decide +kernel) (by decide +kernel)).trans (g_and ⟨isO_dec (by decide +kernel), by decide +kernel⟩)
theorem d189_239 : adec m189 239 = some (.iload 4, 2) := by decide +kernel
theorem s189_239 {l0 : Nat} {l1 : Int} {l2 : Int} {l3 : Int} {l4 : Int} {l5 : Int} {x0 : Nat} {x1 : Nat} : WP m189 239 [.inr (.inl l0), .inl l1, .inl l2, .inl l3, .inl l4, .inl l5] [.inr (.inl x1), .inr (.inl x0)] σ Q = WP m189 241 [.inr (.inl l0), .inl l1, .inl l2, .inl l3, .inl l4, .inl l5] [.inl l4, .inr (.inl x1), .inr (.inl x0)] σ Q := w_ld d189_239 rfl
theorem d189_241 : adec m189 241 = some (.iaload, 1) := by decide +kernel
theorem s189_241 {l0 : Nat} {l1 : Int} {l2 : Int} {l3 : Int} {l4 : Int} {l5 : Int} {x0 : Nat} {x1 : Nat} {x2 : Int} : WP m189 241 [.inr (.inl l0), .inl l1, .inl l2, .inl l3, .inl l4, .inl l5] [.inl x2, .inr (.inl x1), .inr (.inl x0)] σ Q = ((kdS x1 = 20 ∧ 0 ≤ x2 ∧ x2 < ln x1) ∧ WP m189 242 [.inr (.inl l0), .inl l1, .inl l2, .inl l3, .inl l4, .inl l5] [.inl (σ x1 x2.toNat), .inr (.inl x0)] σ Q) := w_iald d189_241
theorem d189_242 : adec m189 242 = some (.invokevirtual 172, 3) := by decide +kernel
theorem s189_242 {l0 : Nat} {l1 : Int} {l2 : Int} {l3 : Int} {l4 : Int} {l5 : Int} {x1 : Int} : WP m189 242 [.inr (.inl l0), .inl l1, .inl l2, .inl l3, .inl l4, .inl l5] [.inl x1, .inr (.inl 130)] σ Q = CA m132 [.inr (.inl 130), .inl x1] σ (fun v σ2 => WP m189 245 [.inr (.inl l0), .inl l1, .inl l2, .inl l3, .inl l4, .inl l5] (v ++ []) σ2 Q) := (w_cV (k := 132) d189_242 (by decide +kernel) m132_at rfl rfl ⟨Nat.le_of_ble_eq_true rfl, Nat.le_of_ble_eq_true rfl, Nat.le_of_ble_eq_true rfl⟩ (by decide)).trans (g_and (isO_dec (by decide +kernel)))
theorem d189_245 : adec m189 245 = some (.iload 5, 2) := by decide +kernel
theorem s189_245 {l0 : Nat} {l1 : Int} {l2 : Int} {l3 : Int} {l4 : Int} {l5 : Int} : WP m189 245 [.inr (.inl l0), .inl l1, .inl l2, .inl l3, .inl l4, .inl l5] [] σ Q = WP m189 247 [.inr (.inl l0), .inl l1, .inl l2, .inl l3, .inl l4, .inl l5] [.inl l5] σ Q := w_ld d189_245 rfl
theorem d189_247 : adec m189 247 = some (.ifCond .eq (9), 3) := by decide +kernel
theorem s189_247 {l0 : Nat} {l1 : Int} {l2 : Int} {l3 : Int} {l4 : Int} {l5 : Int} {x0 : Int} : WP m189 247 [.inr (.inl l0), .inl l1, .inl l2, .inl l3, .inl l4, .inl l5] [.inl x0] σ Q = (if x0 = 0 then WP m189 256 [.inr (.inl l0), .inl l1, .inl l2, .inl l3, .inl l4, .inl l5] [] σ Q else WP m189 250 [.inr (.inl l0), .inl l1, .inl l2, .inl l3, .inl l4, .inl l5] [] σ Q) := w_ifeq d189_247 (by decide)
theorem d189_250 : adec m189 250 = some (.aload_n 0, 1) := by decide +kernel
theorem s189_250 {l0 : Nat} {l1 : Int} {l2 : Int} {l3 : Int} {l4 : Int} {l5 : Int} : WP m189 250 [.inr (.inl l0), .inl l1, .inl l2, .inl l3, .inl l4, .inl l5] [] σ Q = WP m189 251 [.inr (.inl l0), .inl l1, .inl l2, .inl l3, .inl l4, .inl l5] [.inr (.inl l0)] σ Q := w_ld d189_250 rfl
theorem d189_251 : adec m189 251 = some (.bipush (-40), 2) := by decide +kernel
theorem s189_251 {l0 : Nat} {l1 : Int} {l2 : Int} {l3 : Int} {l4 : Int} {l5 : Int} {x0 : Nat} : WP m189 251 [.inr (.inl l0), .inl l1, .inl l2, .inl l3, .inl l4, .inl l5] [.inr (.inl x0)] σ Q = WP m189 253 [.inr (.inl l0), .inl l1, .inl l2, .inl l3, .inl l4, .inl l5] [.inl (-40), .inr (.inl x0)] σ Q := w_bipush d189_251 (by decide)
theorem d189_253 : adec m189 253 = some (.invokevirtual 172, 3) := by decide +kernel
theorem s189_253 {l0 : Nat} {l1 : Int} {l2 : Int} {l3 : Int} {l4 : Int} {l5 : Int} {x1 : Int} : WP m189 253 [.inr (.inl l0), .inl l1, .inl l2, .inl l3, .inl l4, .inl l5] [.inl x1, .inr (.inl 130)] σ Q = CA m132 [.inr (.inl 130), .inl x1] σ (fun v σ2 => WP m189 256 [.inr (.inl l0), .inl l1, .inl l2, .inl l3, .inl l4, .inl l5] (v ++ []) σ2 Q) := (w_cV (k := 132) d189_253 (by decide +kernel) m132_at rfl rfl ⟨Nat.le_of_ble_eq_true rfl, Nat.le_of_ble_eq_true rfl, Nat.le_of_ble_eq_true rfl⟩ (by decide)).trans (g_and (isO_dec (by decide +kernel)))
theorem d189_256 : adec m189 256 = some (.goto (-203), 3) := by decide +kernel
theorem s189_256 {l0 : Nat} {l1 : Int} {l2 : Int} {l3 : Int} {l4 : Int} {l5 : AV} : WP m189 256 [.inr (.inl l0), .inl l1, .inl l2, .inl l3, .inl l4, l5] [] σ Q = WP m189 53 [.inr (.inl l0), .inl l1, .inl l2, .inl l3, .inl l4, l5] [] σ Q := w_goto d189_256 (by decide)
theorem d189_259 : adec m189 259 = some (.aload_n 0, 1) := by decide +kernel
theorem s189_259 {l0 : Nat} {l1 : Int} {l2 : Int} {l3 : Int} {l4 : AV} {l5 : AV} : WP m189 259 [.inr (.inl l0), .inl l1, .inl l2, .inl l3, l4, l5] [] σ Q = WP m189 260 [.inr (.inl l0), .inl l1, .inl l2, .inl l3, l4, l5] [.inr (.inl l0)] σ Q := w_ld d189_259 rfl
theorem d189_260 : adec m189 260 = some (.getfield 304, 3) := by decide +kernel
theorem s189_260 {l0 : Nat} {l1 : Int} {l2 : Int} {l3 : Int} {l4 : AV} {l5 : AV} : WP m189 260 [.inr (.inl l0), .inl l1, .inl l2, .inl l3, l4, l5] [.inr (.inl 130)] σ Q = WP m189 263 [.inr (.inl l0), .inl l1, .inl l2, .inl l3, l4, l5] [.inl (σ 130 34)] σ Q := (w_getI (c := 10) (n := 34) d189_260 (by decide +kernel) (by decide +kernel)).trans (g_and (isO_dec (by decide +kernel)))
theorem d189_263 : adec m189 263 = some (.sipush (200), 3) := by decide +kernel
theorem s189_263 {l0 : Nat} {l1 : Int} {l2 : Int} {l3 : Int} {l4 : AV} {l5 : AV} {x0 : Int} : WP m189 263 [.inr (.inl l0), .inl l1, .inl l2, .inl l3, l4, l5] [.inl x0] σ Q = WP m189 266 [.inr (.inl l0), .inl l1, .inl l2, .inl l3, l4, l5] [.inl (200), .inl x0] σ Q := w_sipush d189_263 (by decide)
theorem d189_266 : adec m189 266 = some (.if_icmp .gt (9), 3) := by decide +kernel
theorem s189_266 {l0 : Nat} {l1 : Int} {l2 : Int} {l3 : Int} {l4 : AV} {l5 : AV} {x0 : Int} {x1 : Int} : WP m189 266 [.inr (.inl l0), .inl l1, .inl l2, .inl l3, l4, l5] [.inl x1, .inl x0] σ Q = (if x1 < x0 then WP m189 275 [.inr (.inl l0), .inl l1, .inl l2, .inl l3, l4, l5] [] σ Q else WP m189 269 [.inr (.inl l0), .inl l1, .inl l2, .inl l3, l4, l5] [] σ Q) := w_icgt d189_266 (by decide)
theorem d189_269 : adec m189 269 = some (.iload_n 3, 1) := by decide +kernel
theorem s189_269 {l0 : Nat} {l1 : Int} {l2 : Int} {l3 : Int} {l4 : AV} {l5 : AV} : WP m189 269 [.inr (.inl l0), .inl l1, .inl l2, .inl l3, l4, l5] [] σ Q = WP m189 270 [.inr (.inl l0), .inl l1, .inl l2, .inl l3, l4, l5] [.inl l3] σ Q := w_ld d189_269 rfl
theorem d189_270 : adec m189 270 = some (.bipush (26), 2) := by decide +kernel
theorem s189_270 {l0 : Nat} {l1 : Int} {l2 : Int} {l3 : Int} {l4 : AV} {l5 : AV} {x0 : Int} : WP m189 270 [.inr (.inl l0), .inl l1, .inl l2, .inl l3, l4, l5] [.inl x0] σ Q = WP m189 272 [.inr (.inl l0), .inl l1, .inl l2, .inl l3, l4, l5] [.inl (26), .inl x0] σ Q := w_bipush d189_270 (by decide)
theorem d189_272 : adec m189 272 = some (.if_icmp .le (8), 3) := by decide +kernel
theorem s189_272 {l0 : Nat} {l1 : Int} {l2 : Int} {l3 : Int} {l4 : AV} {l5 : AV} {x0 : Int} {x1 : Int} : WP m189 272 [.inr (.inl l0), .inl l1, .inl l2, .inl l3, l4, l5] [.inl x1, .inl x0] σ Q = (if x0 ≤ x1 then WP m189 280 [.inr (.inl l0), .inl l1, .inl l2, .inl l3, l4, l5] [] σ Q else WP m189 275 [.inr (.inl l0), .inl l1, .inl l2, .inl l3, l4, l5] [] σ Q) := w_icle d189_272 (by decide)
theorem d189_275 : adec m189 275 = some (.ldc 114, 2) := by decide +kernel
theorem s189_275 {l0 : Nat} {l1 : Int} {l2 : Int} {l3 : Int} {l4 : AV} {l5 : AV} : WP m189 275 [.inr (.inl l0), .inl l1, .inl l2, .inl l3, l4, l5] [] σ Q = WP m189 277 [.inr (.inl l0), .inl l1, .inl l2, .inl l3, l4, l5] [.inl (-1000000004)] σ Q := w_ldc d189_275 (by decide +kernel) (by decide)
theorem d189_277 : adec m189 277 = some (.goto (7), 3) := by decide +kernel
theorem s189_277 {l0 : Nat} {l1 : Int} {l2 : Int} {l3 : Int} {l4 : AV} {l5 : AV} {x0 : Int} : WP m189 277 [.inr (.inl l0), .inl l1, .inl l2, .inl l3, l4, l5] [.inl x0] σ Q = WP m189 284 [.inr (.inl l0), .inl l1, .inl l2, .inl l3, l4, l5] [.inl x0] σ Q := w_goto d189_277 (by decide)
theorem d189_280 : adec m189 280 = some (.aload_n 0, 1) := by decide +kernel
theorem s189_280 {l0 : Nat} {l1 : Int} {l2 : Int} {l3 : Int} {l4 : AV} {l5 : AV} : WP m189 280 [.inr (.inl l0), .inl l1, .inl l2, .inl l3, l4, l5] [] σ Q = WP m189 281 [.inr (.inl l0), .inl l1, .inl l2, .inl l3, l4, l5] [.inr (.inl l0)] σ Q := w_ld d189_280 rfl
theorem d189_281 : adec m189 281 = some (.getfield 304, 3) := by decide +kernel
theorem s189_281 {l0 : Nat} {l1 : Int} {l2 : Int} {l3 : Int} {l4 : AV} {l5 : AV} : WP m189 281 [.inr (.inl l0), .inl l1, .inl l2, .inl l3, l4, l5] [.inr (.inl 130)] σ Q = WP m189 284 [.inr (.inl l0), .inl l1, .inl l2, .inl l3, l4, l5] [.inl (σ 130 34)] σ Q := (w_getI (c := 10) (n := 34) d189_281 (by decide +kernel) (by decide +kernel)).trans (g_and (isO_dec (by decide +kernel)))
theorem d189_284 : adec m189 284 = some (.ireturn, 1) := by decide +kernel
theorem s189_284 {l0 : Nat} {l1 : Int} {l2 : Int} {l3 : Int} {l4 : AV} {l5 : AV} {x0 : Int} : WP m189 284 [.inr (.inl l0), .inl l1, .inl l2, .inl l3, l4, l5] [.inl x0] σ Q = Q [.inl x0] σ := w_ri d189_284 rfl
theorem e189 {p0 : Nat} {p1 : Int} : CA m189 [.inr (.inl p0), .inl p1] σ Q = WP m189 0 [.inr (.inl p0), .inl p1, vU, vU, vU, vU] [] σ Q := rfl
-- BinderPressModel.writeTerm(I)V
theorem d190_0 : adec m190 0 = some (.aload_n 0, 1) := by decide +kernel
theorem s190_0 {l0 : Nat} {l1 : Int} {l2 : AV} : WP m190 0 [.inr (.inl l0), .inl l1, l2] [] σ Q = WP m190 1 [.inr (.inl l0), .inl l1, l2] [.inr (.inl l0)] σ Q := w_ld d190_0 rfl
theorem d190_1 : adec m190 1 = some (.iload_n 1, 1) := by decide +kernel
theorem s190_1 {l0 : Nat} {l1 : Int} {l2 : AV} {x0 : Nat} : WP m190 1 [.inr (.inl l0), .inl l1, l2] [.inr (.inl x0)] σ Q = WP m190 2 [.inr (.inl l0), .inl l1, l2] [.inl l1, .inr (.inl x0)] σ Q := w_ld d190_1 rfl
theorem d190_2 : adec m190 2 = some (.invokevirtual 196, 3) := by decide +kernel
theorem s190_2 {l0 : Nat} {l1 : Int} {l2 : AV} {x1 : Int} : WP m190 2 [.inr (.inl l0), .inl l1, l2] [.inl x1, .inr (.inl 130)] σ Q = CA m136 [.inr (.inl 130), .inl x1] σ (fun v σ2 => WP m190 5 [.inr (.inl l0), .inl l1, l2] (v ++ []) σ2 Q) := (w_cV (k := 136) d190_2 (by decide +kernel) m136_at rfl rfl ⟨Nat.le_of_ble_eq_true rfl, Nat.le_of_ble_eq_true rfl, Nat.le_of_ble_eq_true rfl⟩ (by decide)).trans (g_and (isO_dec (by decide +kernel)))
theorem d190_5 : adec m190 5 = some (.aload_n 0, 1) := by decide +kernel
theorem s190_5 {l0 : Nat} {l1 : Int} {l2 : AV} : WP m190 5 [.inr (.inl l0), .inl l1, l2] [] σ Q = WP m190 6 [.inr (.inl l0), .inl l1, l2] [.inr (.inl l0)] σ Q := w_ld d190_5 rfl
theorem d190_6 : adec m190 6 = some (.iconst (0), 1) := by decide +kernel
theorem s190_6 {l0 : Nat} {l1 : Int} {l2 : AV} {x0 : Nat} : WP m190 6 [.inr (.inl l0), .inl l1, l2] [.inr (.inl x0)] σ Q = WP m190 7 [.inr (.inl l0), .inl l1, l2] [.inl (0), .inr (.inl x0)] σ Q := w_iconst d190_6 (by decide)
theorem d190_7 : adec m190 7 = some (.putfield 304, 3) := by decide +kernel
theorem s190_7 {l0 : Nat} {l1 : Int} {l2 : AV} {x1 : Int} : WP m190 7 [.inr (.inl l0), .inl l1, l2] [.inl x1, .inr (.inl 130)] σ Q = WP m190 10 [.inr (.inl l0), .inl l1, l2] [] (aup σ 130 34 x1) Q := (w_putI (c := 10) (n := 34) d190_7 (by decide +kernel) (by decide +kernel) (by decide +kernel)).trans (g_and (isO_dec (by decide +kernel)))
theorem d190_10 : adec m190 10 = some (.aload_n 0, 1) := by decide +kernel
theorem s190_10 {l0 : Nat} {l1 : Int} {l2 : AV} : WP m190 10 [.inr (.inl l0), .inl l1, l2] [] σ Q = WP m190 11 [.inr (.inl l0), .inl l1, l2] [.inr (.inl l0)] σ Q := w_ld d190_10 rfl
theorem d190_11 : adec m190 11 = some (.iconst (0), 1) := by decide +kernel
theorem s190_11 {l0 : Nat} {l1 : Int} {l2 : AV} {x0 : Nat} : WP m190 11 [.inr (.inl l0), .inl l1, l2] [.inr (.inl x0)] σ Q = WP m190 12 [.inr (.inl l0), .inl l1, l2] [.inl (0), .inr (.inl x0)] σ Q := w_iconst d190_11 (by decide)
theorem d190_12 : adec m190 12 = some (.putfield 94, 3) := by decide +kernel
theorem s190_12 {l0 : Nat} {l1 : Int} {l2 : AV} {x1 : Int} : WP m190 12 [.inr (.inl l0), .inl l1, l2] [.inl x1, .inr (.inl 130)] σ Q = WP m190 15 [.inr (.inl l0), .inl l1, l2] [] (aup σ 130 11 x1) Q := (w_putI (c := 10) (n := 11) d190_12 (by decide +kernel) (by decide +kernel) (by decide +kernel)).trans (g_and (isO_dec (by decide +kernel)))
theorem d190_15 : adec m190 15 = some (.aload_n 0, 1) := by decide +kernel
theorem s190_15 {l0 : Nat} {l1 : Int} {l2 : AV} : WP m190 15 [.inr (.inl l0), .inl l1, l2] [] σ Q = WP m190 16 [.inr (.inl l0), .inl l1, l2] [.inr (.inl l0)] σ Q := w_ld d190_15 rfl
theorem d190_16 : adec m190 16 = some (.iconst (0), 1) := by decide +kernel
theorem s190_16 {l0 : Nat} {l1 : Int} {l2 : AV} {x0 : Nat} : WP m190 16 [.inr (.inl l0), .inl l1, l2] [.inr (.inl x0)] σ Q = WP m190 17 [.inr (.inl l0), .inl l1, l2] [.inl (0), .inr (.inl x0)] σ Q := w_iconst d190_16 (by decide)
theorem d190_17 : adec m190 17 = some (.invokevirtual 172, 3) := by decide +kernel
theorem s190_17 {l0 : Nat} {l1 : Int} {l2 : AV} {x1 : Int} : WP m190 17 [.inr (.inl l0), .inl l1, l2] [.inl x1, .inr (.inl 130)] σ Q = CA m132 [.inr (.inl 130), .inl x1] σ (fun v σ2 => WP m190 20 [.inr (.inl l0), .inl l1, l2] (v ++ []) σ2 Q) := (w_cV (k := 132) d190_17 (by decide +kernel) m132_at rfl rfl ⟨Nat.le_of_ble_eq_true rfl, Nat.le_of_ble_eq_true rfl, Nat.le_of_ble_eq_true rfl⟩ (by decide)).trans (g_and (isO_dec (by decide +kernel)))
theorem d190_20 : adec m190 20 = some (.aload_n 0, 1) := by decide +kernel
theorem s190_20 {l0 : Nat} {l1 : Int} {l2 : AV} : WP m190 20 [.inr (.inl l0), .inl l1, l2] [] σ Q = WP m190 21 [.inr (.inl l0), .inl l1, l2] [.inr (.inl l0)] σ Q := w_ld d190_20 rfl
theorem d190_21 : adec m190 21 = some (.getfield 94, 3) := by decide +kernel
theorem s190_21 {l0 : Nat} {l1 : Int} {l2 : AV} : WP m190 21 [.inr (.inl l0), .inl l1, l2] [.inr (.inl 130)] σ Q = WP m190 24 [.inr (.inl l0), .inl l1, l2] [.inl (σ 130 11)] σ Q := (w_getI (c := 10) (n := 11) d190_21 (by decide +kernel) (by decide +kernel)).trans (g_and (isO_dec (by decide +kernel)))
theorem d190_24 : adec m190 24 = some (.ifCond .le (123), 3) := by decide +kernel
theorem s190_24 {l0 : Nat} {l1 : Int} {l2 : AV} {x0 : Int} : WP m190 24 [.inr (.inl l0), .inl l1, l2] [.inl x0] σ Q = (if x0 ≤ 0 then WP m190 147 [.inr (.inl l0), .inl l1, l2] [] σ Q else WP m190 27 [.inr (.inl l0), .inl l1, l2] [] σ Q) := w_ifle d190_24 (by decide)
theorem d190_27 : adec m190 27 = some (.aload_n 0, 1) := by decide +kernel
theorem s190_27 {l0 : Nat} {l1 : Int} {l2 : AV} : WP m190 27 [.inr (.inl l0), .inl l1, l2] [] σ Q = WP m190 28 [.inr (.inl l0), .inl l1, l2] [.inr (.inl l0)] σ Q := w_ld d190_27 rfl
theorem d190_28 : adec m190 28 = some (.invokevirtual 175, 3) := by decide +kernel
theorem s190_28 {l0 : Nat} {l1 : Int} {l2 : AV} : WP m190 28 [.inr (.inl l0), .inl l1, l2] [.inr (.inl 130)] σ Q = CA m133 [.inr (.inl 130)] σ (fun v σ2 => WP m190 31 [.inr (.inl l0), .inl l1, l2] (v ++ []) σ2 Q) := (w_cV (k := 133) d190_28 (by decide +kernel) m133_at rfl rfl ⟨Nat.le_of_ble_eq_true rfl, Nat.le_of_ble_eq_true rfl, Nat.le_of_ble_eq_true rfl⟩ (by decide)).trans (g_and (isO_dec (by decide +kernel)))
theorem d190_31 : adec m190 31 = some (.istore_n 2, 1) := by decide +kernel
theorem s190_31 {l0 : Nat} {l1 : Int} {l2 : AV} {x0 : Int} : WP m190 31 [.inr (.inl l0), .inl l1, l2] [.inl x0] σ Q = WP m190 32 [.inr (.inl l0), .inl l1, .inl x0] [] σ Q := w_st1 (j := 2) d190_31 rfl (Nat.le_of_ble_eq_true rfl) rfl
theorem d190_32 : adec m190 32 = some (.iload_n 2, 1) := by decide +kernel
theorem s190_32 {l0 : Nat} {l1 : Int} {l2 : Int} : WP m190 32 [.inr (.inl l0), .inl l1, .inl l2] [] σ Q = WP m190 33 [.inr (.inl l0), .inl l1, .inl l2] [.inl l2] σ Q := w_ld d190_32 rfl
theorem d190_33 : adec m190 33 = some (.ifCond .ge (12), 3) := by decide +kernel
theorem s190_33 {l0 : Nat} {l1 : Int} {l2 : Int} {x0 : Int} : WP m190 33 [.inr (.inl l0), .inl l1, .inl l2] [.inl x0] σ Q = (if 0 ≤ x0 then WP m190 45 [.inr (.inl l0), .inl l1, .inl l2] [] σ Q else WP m190 36 [.inr (.inl l0), .inl l1, .inl l2] [] σ Q) := w_ifge d190_33 (by decide)
theorem d190_36 : adec m190 36 = some (.aload_n 0, 1) := by decide +kernel
theorem s190_36 {l0 : Nat} {l1 : Int} {l2 : Int} : WP m190 36 [.inr (.inl l0), .inl l1, .inl l2] [] σ Q = WP m190 37 [.inr (.inl l0), .inl l1, .inl l2] [.inr (.inl l0)] σ Q := w_ld d190_36 rfl
theorem d190_37 : adec m190 37 = some (.iload_n 2, 1) := by decide +kernel
theorem s190_37 {l0 : Nat} {l1 : Int} {l2 : Int} {x0 : Nat} : WP m190 37 [.inr (.inl l0), .inl l1, .inl l2] [.inr (.inl x0)] σ Q = WP m190 38 [.inr (.inl l0), .inl l1, .inl l2] [.inl l2, .inr (.inl x0)] σ Q := w_ld d190_37 rfl
theorem d190_38 : adec m190 38 = some (.ineg, 1) := by decide +kernel
theorem s190_38 {l0 : Nat} {l1 : Int} {l2 : Int} {x0 : Nat} {x1 : Int} : WP m190 38 [.inr (.inl l0), .inl l1, .inl l2] [.inl x1, .inr (.inl x0)] σ Q = (inI (-x1) ∧ WP m190 39 [.inr (.inl l0), .inl l1, .inl l2] [.inl (-x1), .inr (.inl x0)] σ Q) := w_ineg d190_38
theorem d190_39 : adec m190 39 = some (.invokevirtual 310, 3) := by decide +kernel
theorem s190_39 {l0 : Nat} {l1 : Int} {l2 : Int} {x1 : Int} : WP m190 39 [.inr (.inl l0), .inl l1, .inl l2] [.inl x1, .inr (.inl 130)] σ Q = CA m188 [.inr (.inl 130), .inl x1] σ (fun v σ2 => WP m190 42 [.inr (.inl l0), .inl l1, .inl l2] (v ++ []) σ2 Q) := (w_cV (k := 188) d190_39 (by decide +kernel) m188_at rfl rfl ⟨Nat.le_of_ble_eq_true rfl, Nat.le_of_ble_eq_true rfl, Nat.le_of_ble_eq_true rfl⟩ (by decide)).trans (g_and (isO_dec (by decide +kernel)))
theorem d190_42 : adec m190 42 = some (.goto (102), 3) := by decide +kernel
theorem s190_42 {l0 : Nat} {l1 : Int} {l2 : Int} : WP m190 42 [.inr (.inl l0), .inl l1, .inl l2] [] σ Q = WP m190 144 [.inr (.inl l0), .inl l1, .inl l2] [] σ Q := w_goto d190_42 (by decide)
theorem d190_45 : adec m190 45 = some (.aload_n 0, 1) := by decide +kernel
theorem s190_45 {l0 : Nat} {l1 : Int} {l2 : Int} : WP m190 45 [.inr (.inl l0), .inl l1, .inl l2] [] σ Q = WP m190 46 [.inr (.inl l0), .inl l1, .inl l2] [.inr (.inl l0)] σ Q := w_ld d190_45 rfl
theorem d190_46 : adec m190 46 = some (.getfield 24, 3) := by decide +kernel
theorem s190_46 {l0 : Nat} {l1 : Int} {l2 : Int} : WP m190 46 [.inr (.inl l0), .inl l1, .inl l2] [.inr (.inl 130)] σ Q = WP m190 49 [.inr (.inl l0), .inl l1, .inl l2] [.inr (.inl 134)] σ Q := (w_getR (c := 10) (n := 6) d190_46 (by decide +kernel) (by decide +kernel)).trans (g_and ⟨isO_dec (by decide +kernel), by decide +kernel⟩)
theorem d190_49 : adec m190 49 = some (.iload_n 2, 1) := by decide +kernel
theorem s190_49 {l0 : Nat} {l1 : Int} {l2 : Int} {x0 : Nat} : WP m190 49 [.inr (.inl l0), .inl l1, .inl l2] [.inr (.inl x0)] σ Q = WP m190 50 [.inr (.inl l0), .inl l1, .inl l2] [.inl l2, .inr (.inl x0)] σ Q := w_ld d190_49 rfl
theorem d190_50 : adec m190 50 = some (.iaload, 1) := by decide +kernel
theorem s190_50 {l0 : Nat} {l1 : Int} {l2 : Int} {x0 : Nat} {x1 : Int} : WP m190 50 [.inr (.inl l0), .inl l1, .inl l2] [.inl x1, .inr (.inl x0)] σ Q = ((kdS x0 = 20 ∧ 0 ≤ x1 ∧ x1 < ln x0) ∧ WP m190 51 [.inr (.inl l0), .inl l1, .inl l2] [.inl (σ x0 x1.toNat)] σ Q) := w_iald d190_50
theorem d190_51 : adec m190 51 = some (.ifCond .ne (11), 3) := by decide +kernel
theorem s190_51 {l0 : Nat} {l1 : Int} {l2 : Int} {x0 : Int} : WP m190 51 [.inr (.inl l0), .inl l1, .inl l2] [.inl x0] σ Q = (if x0 = 0 then WP m190 54 [.inr (.inl l0), .inl l1, .inl l2] [] σ Q else WP m190 62 [.inr (.inl l0), .inl l1, .inl l2] [] σ Q) := w_ifne d190_51 (by decide)
theorem d190_54 : adec m190 54 = some (.aload_n 0, 1) := by decide +kernel
theorem s190_54 {l0 : Nat} {l1 : Int} {l2 : Int} : WP m190 54 [.inr (.inl l0), .inl l1, .inl l2] [] σ Q = WP m190 55 [.inr (.inl l0), .inl l1, .inl l2] [.inr (.inl l0)] σ Q := w_ld d190_54 rfl
theorem d190_55 : adec m190 55 = some (.iload_n 2, 1) := by decide +kernel
theorem s190_55 {l0 : Nat} {l1 : Int} {l2 : Int} {x0 : Nat} : WP m190 55 [.inr (.inl l0), .inl l1, .inl l2] [.inr (.inl x0)] σ Q = WP m190 56 [.inr (.inl l0), .inl l1, .inl l2] [.inl l2, .inr (.inl x0)] σ Q := w_ld d190_55 rfl
theorem d190_56 : adec m190 56 = some (.invokevirtual 313, 3) := by decide +kernel
theorem s190_56 {l0 : Nat} {l1 : Int} {l2 : Int} {x1 : Int} : WP m190 56 [.inr (.inl l0), .inl l1, .inl l2] [.inl x1, .inr (.inl 130)] σ Q = CA m193 [.inr (.inl 130), .inl x1] σ (fun v σ2 => WP m190 59 [.inr (.inl l0), .inl l1, .inl l2] (v ++ []) σ2 Q) := (w_cV (k := 193) d190_56 (by decide +kernel) m193_at rfl rfl ⟨Nat.le_of_ble_eq_true rfl, Nat.le_of_ble_eq_true rfl, Nat.le_of_ble_eq_true rfl⟩ (by decide)).trans (g_and (isO_dec (by decide +kernel)))
theorem d190_59 : adec m190 59 = some (.goto (85), 3) := by decide +kernel
theorem s190_59 {l0 : Nat} {l1 : Int} {l2 : Int} : WP m190 59 [.inr (.inl l0), .inl l1, .inl l2] [] σ Q = WP m190 144 [.inr (.inl l0), .inl l1, .inl l2] [] σ Q := w_goto d190_59 (by decide)
theorem d190_62 : adec m190 62 = some (.aload_n 0, 1) := by decide +kernel
theorem s190_62 {l0 : Nat} {l1 : Int} {l2 : Int} : WP m190 62 [.inr (.inl l0), .inl l1, .inl l2] [] σ Q = WP m190 63 [.inr (.inl l0), .inl l1, .inl l2] [.inr (.inl l0)] σ Q := w_ld d190_62 rfl
theorem d190_63 : adec m190 63 = some (.getfield 24, 3) := by decide +kernel
theorem s190_63 {l0 : Nat} {l1 : Int} {l2 : Int} : WP m190 63 [.inr (.inl l0), .inl l1, .inl l2] [.inr (.inl 130)] σ Q = WP m190 66 [.inr (.inl l0), .inl l1, .inl l2] [.inr (.inl 134)] σ Q := (w_getR (c := 10) (n := 6) d190_63 (by decide +kernel) (by decide +kernel)).trans (g_and ⟨isO_dec (by decide +kernel), by decide +kernel⟩)
theorem d190_66 : adec m190 66 = some (.iload_n 2, 1) := by decide +kernel
theorem s190_66 {l0 : Nat} {l1 : Int} {l2 : Int} {x0 : Nat} : WP m190 66 [.inr (.inl l0), .inl l1, .inl l2] [.inr (.inl x0)] σ Q = WP m190 67 [.inr (.inl l0), .inl l1, .inl l2] [.inl l2, .inr (.inl x0)] σ Q := w_ld d190_66 rfl
theorem d190_67 : adec m190 67 = some (.iaload, 1) := by decide +kernel
theorem s190_67 {l0 : Nat} {l1 : Int} {l2 : Int} {x0 : Nat} {x1 : Int} : WP m190 67 [.inr (.inl l0), .inl l1, .inl l2] [.inl x1, .inr (.inl x0)] σ Q = ((kdS x0 = 20 ∧ 0 ≤ x1 ∧ x1 < ln x0) ∧ WP m190 68 [.inr (.inl l0), .inl l1, .inl l2] [.inl (σ x0 x1.toNat)] σ Q) := w_iald d190_67
theorem d190_68 : adec m190 68 = some (.invokestatic 162, 3) := by decide +kernel
theorem s190_68 {l0 : Nat} {l1 : Int} {l2 : Int} {x0 : Int} : WP m190 68 [.inr (.inl l0), .inl l1, .inl l2] [.inl x0] σ Q = CA m129 [.inl x0] σ (fun v σ2 => WP m190 71 [.inr (.inl l0), .inl l1, .inl l2] (v ++ []) σ2 Q) := w_cS (k := 129) d190_68 (by decide +kernel) (md := 1) (by decide +kernel) m129_at rfl rfl ⟨Nat.le_of_ble_eq_true rfl, Nat.le_of_ble_eq_true rfl, Nat.le_of_ble_eq_true rfl⟩ (by decide)
theorem d190_71 : adec m190 71 = some (.ifCond .eq (39), 3) := by decide +kernel
theorem s190_71 {l0 : Nat} {l1 : Int} {l2 : Int} {x0 : Int} : WP m190 71 [.inr (.inl l0), .inl l1, .inl l2] [.inl x0] σ Q = (if x0 = 0 then WP m190 110 [.inr (.inl l0), .inl l1, .inl l2] [] σ Q else WP m190 74 [.inr (.inl l0), .inl l1, .inl l2] [] σ Q) := w_ifeq d190_71 (by decide)
theorem d190_74 : adec m190 74 = some (.aload_n 0, 1) := by decide +kernel
theorem s190_74 {l0 : Nat} {l1 : Int} {l2 : Int} : WP m190 74 [.inr (.inl l0), .inl l1, .inl l2] [] σ Q = WP m190 75 [.inr (.inl l0), .inl l1, .inl l2] [.inr (.inl l0)] σ Q := w_ld d190_74 rfl
theorem d190_75 : adec m190 75 = some (.bipush (94), 2) := by decide +kernel
theorem s190_75 {l0 : Nat} {l1 : Int} {l2 : Int} {x0 : Nat} : WP m190 75 [.inr (.inl l0), .inl l1, .inl l2] [.inr (.inl x0)] σ Q = WP m190 77 [.inr (.inl l0), .inl l1, .inl l2] [.inl (94), .inr (.inl x0)] σ Q := w_bipush d190_75 (by decide)
theorem d190_77 : adec m190 77 = some (.invokevirtual 310, 3) := by decide +kernel
theorem s190_77 {l0 : Nat} {l1 : Int} {l2 : Int} {x1 : Int} : WP m190 77 [.inr (.inl l0), .inl l1, .inl l2] [.inl x1, .inr (.inl 130)] σ Q = CA m188 [.inr (.inl 130), .inl x1] σ (fun v σ2 => WP m190 80 [.inr (.inl l0), .inl l1, .inl l2] (v ++ []) σ2 Q) := (w_cV (k := 188) d190_77 (by decide +kernel) m188_at rfl rfl ⟨Nat.le_of_ble_eq_true rfl, Nat.le_of_ble_eq_true rfl, Nat.le_of_ble_eq_true rfl⟩ (by decide)).trans (g_and (isO_dec (by decide +kernel)))
theorem d190_80 : adec m190 80 = some (.aload_n 0, 1) := by decide +kernel
theorem s190_80 {l0 : Nat} {l1 : Int} {l2 : Int} : WP m190 80 [.inr (.inl l0), .inl l1, .inl l2] [] σ Q = WP m190 81 [.inr (.inl l0), .inl l1, .inl l2] [.inr (.inl l0)] σ Q := w_ld d190_80 rfl
theorem d190_81 : adec m190 81 = some (.aload_n 0, 1) := by decide +kernel
theorem s190_81 {l0 : Nat} {l1 : Int} {l2 : Int} {x0 : Nat} : WP m190 81 [.inr (.inl l0), .inl l1, .inl l2] [.inr (.inl x0)] σ Q = WP m190 82 [.inr (.inl l0), .inl l1, .inl l2] [.inr (.inl l0), .inr (.inl x0)] σ Q := w_ld d190_81 rfl
theorem d190_82 : adec m190 82 = some (.getfield 24, 3) := by decide +kernel
theorem s190_82 {l0 : Nat} {l1 : Int} {l2 : Int} {x0 : Nat} : WP m190 82 [.inr (.inl l0), .inl l1, .inl l2] [.inr (.inl 130), .inr (.inl x0)] σ Q = WP m190 85 [.inr (.inl l0), .inl l1, .inl l2] [.inr (.inl 134), .inr (.inl x0)] σ Q := (w_getR (c := 10) (n := 6) d190_82 (by decide +kernel) (by decide +kernel)).trans (g_and ⟨isO_dec (by decide +kernel), by decide +kernel⟩)
theorem d190_85 : adec m190 85 = some (.iload_n 2, 1) := by decide +kernel
theorem s190_85 {l0 : Nat} {l1 : Int} {l2 : Int} {x0 : Nat} {x1 : Nat} : WP m190 85 [.inr (.inl l0), .inl l1, .inl l2] [.inr (.inl x1), .inr (.inl x0)] σ Q = WP m190 86 [.inr (.inl l0), .inl l1, .inl l2] [.inl l2, .inr (.inl x1), .inr (.inl x0)] σ Q := w_ld d190_85 rfl
theorem d190_86 : adec m190 86 = some (.iaload, 1) := by decide +kernel
theorem s190_86 {l0 : Nat} {l1 : Int} {l2 : Int} {x0 : Nat} {x1 : Nat} {x2 : Int} : WP m190 86 [.inr (.inl l0), .inl l1, .inl l2] [.inl x2, .inr (.inl x1), .inr (.inl x0)] σ Q = ((kdS x1 = 20 ∧ 0 ≤ x2 ∧ x2 < ln x1) ∧ WP m190 87 [.inr (.inl l0), .inl l1, .inl l2] [.inl (σ x1 x2.toNat), .inr (.inl x0)] σ Q) := w_iald d190_86
theorem d190_87 : adec m190 87 = some (.sipush (1000), 3) := by decide +kernel
theorem s190_87 {l0 : Nat} {l1 : Int} {l2 : Int} {x0 : Nat} {x1 : Int} : WP m190 87 [.inr (.inl l0), .inl l1, .inl l2] [.inl x1, .inr (.inl x0)] σ Q = WP m190 90 [.inr (.inl l0), .inl l1, .inl l2] [.inl (1000), .inl x1, .inr (.inl x0)] σ Q := w_sipush d190_87 (by decide)
theorem d190_90 : adec m190 90 = some (.isub, 1) := by decide +kernel
theorem s190_90 {l0 : Nat} {l1 : Int} {l2 : Int} {x0 : Nat} {x1 : Int} {x2 : Int} : WP m190 90 [.inr (.inl l0), .inl l1, .inl l2] [.inl x2, .inl x1, .inr (.inl x0)] σ Q = (inI (x1 - x2) ∧ WP m190 91 [.inr (.inl l0), .inl l1, .inl l2] [.inl (x1 - x2), .inr (.inl x0)] σ Q) := w_isub d190_90
theorem d190_91 : adec m190 91 = some (.invokevirtual 310, 3) := by decide +kernel
theorem s190_91 {l0 : Nat} {l1 : Int} {l2 : Int} {x1 : Int} : WP m190 91 [.inr (.inl l0), .inl l1, .inl l2] [.inl x1, .inr (.inl 130)] σ Q = CA m188 [.inr (.inl 130), .inl x1] σ (fun v σ2 => WP m190 94 [.inr (.inl l0), .inl l1, .inl l2] (v ++ []) σ2 Q) := (w_cV (k := 188) d190_91 (by decide +kernel) m188_at rfl rfl ⟨Nat.le_of_ble_eq_true rfl, Nat.le_of_ble_eq_true rfl, Nat.le_of_ble_eq_true rfl⟩ (by decide)).trans (g_and (isO_dec (by decide +kernel)))
theorem d190_94 : adec m190 94 = some (.aload_n 0, 1) := by decide +kernel
theorem s190_94 {l0 : Nat} {l1 : Int} {l2 : Int} : WP m190 94 [.inr (.inl l0), .inl l1, .inl l2] [] σ Q = WP m190 95 [.inr (.inl l0), .inl l1, .inl l2] [.inr (.inl l0)] σ Q := w_ld d190_94 rfl
theorem d190_95 : adec m190 95 = some (.bipush (46), 2) := by decide +kernel
theorem s190_95 {l0 : Nat} {l1 : Int} {l2 : Int} {x0 : Nat} : WP m190 95 [.inr (.inl l0), .inl l1, .inl l2] [.inr (.inl x0)] σ Q = WP m190 97 [.inr (.inl l0), .inl l1, .inl l2] [.inl (46), .inr (.inl x0)] σ Q := w_bipush d190_95 (by decide)
theorem d190_97 : adec m190 97 = some (.invokevirtual 310, 3) := by decide +kernel
theorem s190_97 {l0 : Nat} {l1 : Int} {l2 : Int} {x1 : Int} : WP m190 97 [.inr (.inl l0), .inl l1, .inl l2] [.inl x1, .inr (.inl 130)] σ Q = CA m188 [.inr (.inl 130), .inl x1] σ (fun v σ2 => WP m190 100 [.inr (.inl l0), .inl l1, .inl l2] (v ++ []) σ2 Q) := (w_cV (k := 188) d190_97 (by decide +kernel) m188_at rfl rfl ⟨Nat.le_of_ble_eq_true rfl, Nat.le_of_ble_eq_true rfl, Nat.le_of_ble_eq_true rfl⟩ (by decide)).trans (g_and (isO_dec (by decide +kernel)))
theorem d190_100 : adec m190 100 = some (.aload_n 0, 1) := by decide +kernel
theorem s190_100 {l0 : Nat} {l1 : Int} {l2 : Int} : WP m190 100 [.inr (.inl l0), .inl l1, .inl l2] [] σ Q = WP m190 101 [.inr (.inl l0), .inl l1, .inl l2] [.inr (.inl l0)] σ Q := w_ld d190_100 rfl
theorem d190_101 : adec m190 101 = some (.iload_n 2, 1) := by decide +kernel
theorem s190_101 {l0 : Nat} {l1 : Int} {l2 : Int} {x0 : Nat} : WP m190 101 [.inr (.inl l0), .inl l1, .inl l2] [.inr (.inl x0)] σ Q = WP m190 102 [.inr (.inl l0), .inl l1, .inl l2] [.inl l2, .inr (.inl x0)] σ Q := w_ld d190_101 rfl
theorem d190_102 : adec m190 102 = some (.iconst (1), 1) := by decide +kernel
theorem s190_102 {l0 : Nat} {l1 : Int} {l2 : Int} {x0 : Nat} {x1 : Int} : WP m190 102 [.inr (.inl l0), .inl l1, .inl l2] [.inl x1, .inr (.inl x0)] σ Q = WP m190 103 [.inr (.inl l0), .inl l1, .inl l2] [.inl (1), .inl x1, .inr (.inl x0)] σ Q := w_iconst d190_102 (by decide)
theorem d190_103 : adec m190 103 = some (.iadd, 1) := by decide +kernel
theorem s190_103 {l0 : Nat} {l1 : Int} {l2 : Int} {x0 : Nat} {x1 : Int} {x2 : Int} : WP m190 103 [.inr (.inl l0), .inl l1, .inl l2] [.inl x2, .inl x1, .inr (.inl x0)] σ Q = (inI (x1 + x2) ∧ WP m190 104 [.inr (.inl l0), .inl l1, .inl l2] [.inl (x1 + x2), .inr (.inl x0)] σ Q) := w_iadd d190_103
theorem d190_104 : adec m190 104 = some (.invokevirtual 172, 3) := by decide +kernel
theorem s190_104 {l0 : Nat} {l1 : Int} {l2 : Int} {x1 : Int} : WP m190 104 [.inr (.inl l0), .inl l1, .inl l2] [.inl x1, .inr (.inl 130)] σ Q = CA m132 [.inr (.inl 130), .inl x1] σ (fun v σ2 => WP m190 107 [.inr (.inl l0), .inl l1, .inl l2] (v ++ []) σ2 Q) := (w_cV (k := 132) d190_104 (by decide +kernel) m132_at rfl rfl ⟨Nat.le_of_ble_eq_true rfl, Nat.le_of_ble_eq_true rfl, Nat.le_of_ble_eq_true rfl⟩ (by decide)).trans (g_and (isO_dec (by decide +kernel)))
theorem d190_107 : adec m190 107 = some (.goto (37), 3) := by decide +kernel
theorem s190_107 {l0 : Nat} {l1 : Int} {l2 : Int} : WP m190 107 [.inr (.inl l0), .inl l1, .inl l2] [] σ Q = WP m190 144 [.inr (.inl l0), .inl l1, .inl l2] [] σ Q := w_goto d190_107 (by decide)
theorem d190_110 : adec m190 110 = some (.aload_n 0, 1) := by decide +kernel
theorem s190_110 {l0 : Nat} {l1 : Int} {l2 : Int} : WP m190 110 [.inr (.inl l0), .inl l1, .inl l2] [] σ Q = WP m190 111 [.inr (.inl l0), .inl l1, .inl l2] [.inr (.inl l0)] σ Q := w_ld d190_110 rfl
theorem d190_111 : adec m190 111 = some (.aload_n 0, 1) := by decide +kernel
theorem s190_111 {l0 : Nat} {l1 : Int} {l2 : Int} {x0 : Nat} : WP m190 111 [.inr (.inl l0), .inl l1, .inl l2] [.inr (.inl x0)] σ Q = WP m190 112 [.inr (.inl l0), .inl l1, .inl l2] [.inr (.inl l0), .inr (.inl x0)] σ Q := w_ld d190_111 rfl
theorem d190_112 : adec m190 112 = some (.getfield 24, 3) := by decide +kernel
theorem s190_112 {l0 : Nat} {l1 : Int} {l2 : Int} {x0 : Nat} : WP m190 112 [.inr (.inl l0), .inl l1, .inl l2] [.inr (.inl 130), .inr (.inl x0)] σ Q = WP m190 115 [.inr (.inl l0), .inl l1, .inl l2] [.inr (.inl 134), .inr (.inl x0)] σ Q := (w_getR (c := 10) (n := 6) d190_112 (by decide +kernel) (by decide +kernel)).trans (g_and ⟨isO_dec (by decide +kernel), by decide +kernel⟩)
theorem d190_115 : adec m190 115 = some (.iload_n 2, 1) := by decide +kernel
theorem s190_115 {l0 : Nat} {l1 : Int} {l2 : Int} {x0 : Nat} {x1 : Nat} : WP m190 115 [.inr (.inl l0), .inl l1, .inl l2] [.inr (.inl x1), .inr (.inl x0)] σ Q = WP m190 116 [.inr (.inl l0), .inl l1, .inl l2] [.inl l2, .inr (.inl x1), .inr (.inl x0)] σ Q := w_ld d190_115 rfl
theorem d190_116 : adec m190 116 = some (.iaload, 1) := by decide +kernel
theorem s190_116 {l0 : Nat} {l1 : Int} {l2 : Int} {x0 : Nat} {x1 : Nat} {x2 : Int} : WP m190 116 [.inr (.inl l0), .inl l1, .inl l2] [.inl x2, .inr (.inl x1), .inr (.inl x0)] σ Q = ((kdS x1 = 20 ∧ 0 ≤ x2 ∧ x2 < ln x1) ∧ WP m190 117 [.inr (.inl l0), .inl l1, .inl l2] [.inl (σ x1 x2.toNat), .inr (.inl x0)] σ Q) := w_iald d190_116
theorem d190_117 : adec m190 117 = some (.invokestatic 134, 3) := by decide +kernel
theorem s190_117 {l0 : Nat} {l1 : Int} {l2 : Int} {x0 : Nat} {x1 : Int} : WP m190 117 [.inr (.inl l0), .inl l1, .inl l2] [.inl x1, .inr (.inl x0)] σ Q = CA m128 [.inl x1] σ (fun v σ2 => WP m190 120 [.inr (.inl l0), .inl l1, .inl l2] (v ++ [.inr (.inl x0)]) σ2 Q) := w_cS (k := 128) d190_117 (by decide +kernel) (md := 1) (by decide +kernel) m128_at rfl rfl ⟨Nat.le_of_ble_eq_true rfl, Nat.le_of_ble_eq_true rfl, Nat.le_of_ble_eq_true rfl⟩ (by decide)
theorem d190_120 : adec m190 120 = some (.ifCond .eq (12), 3) := by decide +kernel
theorem s190_120 {l0 : Nat} {l1 : Int} {l2 : Int} {x0 : Nat} {x1 : Int} : WP m190 120 [.inr (.inl l0), .inl l1, .inl l2] [.inl x1, .inr (.inl x0)] σ Q = (if x1 = 0 then WP m190 132 [.inr (.inl l0), .inl l1, .inl l2] [.inr (.inl x0)] σ Q else WP m190 123 [.inr (.inl l0), .inl l1, .inl l2] [.inr (.inl x0)] σ Q) := w_ifeq d190_120 (by decide)
theorem d190_123 : adec m190 123 = some (.aload_n 0, 1) := by decide +kernel
theorem s190_123 {l0 : Nat} {l1 : Int} {l2 : Int} {x0 : Nat} : WP m190 123 [.inr (.inl l0), .inl l1, .inl l2] [.inr (.inl x0)] σ Q = WP m190 124 [.inr (.inl l0), .inl l1, .inl l2] [.inr (.inl l0), .inr (.inl x0)] σ Q := w_ld d190_123 rfl
theorem d190_124 : adec m190 124 = some (.getfield 24, 3) := by decide +kernel
theorem s190_124 {l0 : Nat} {l1 : Int} {l2 : Int} {x0 : Nat} : WP m190 124 [.inr (.inl l0), .inl l1, .inl l2] [.inr (.inl 130), .inr (.inl x0)] σ Q = WP m190 127 [.inr (.inl l0), .inl l1, .inl l2] [.inr (.inl 134), .inr (.inl x0)] σ Q := (w_getR (c := 10) (n := 6) d190_124 (by decide +kernel) (by decide +kernel)).trans (g_and ⟨isO_dec (by decide +kernel), by decide +kernel⟩)
theorem d190_127 : adec m190 127 = some (.iload_n 2, 1) := by decide +kernel
theorem s190_127 {l0 : Nat} {l1 : Int} {l2 : Int} {x0 : Nat} {x1 : Nat} : WP m190 127 [.inr (.inl l0), .inl l1, .inl l2] [.inr (.inl x1), .inr (.inl x0)] σ Q = WP m190 128 [.inr (.inl l0), .inl l1, .inl l2] [.inl l2, .inr (.inl x1), .inr (.inl x0)] σ Q := w_ld d190_127 rfl
theorem d190_128 : adec m190 128 = some (.iaload, 1) := by decide +kernel
theorem s190_128 {l0 : Nat} {l1 : Int} {l2 : Int} {x0 : Nat} {x1 : Nat} {x2 : Int} : WP m190 128 [.inr (.inl l0), .inl l1, .inl l2] [.inl x2, .inr (.inl x1), .inr (.inl x0)] σ Q = ((kdS x1 = 20 ∧ 0 ≤ x2 ∧ x2 < ln x1) ∧ WP m190 129 [.inr (.inl l0), .inl l1, .inl l2] [.inl (σ x1 x2.toNat), .inr (.inl x0)] σ Q) := w_iald d190_128
theorem d190_129 : adec m190 129 = some (.goto (12), 3) := by decide +kernel
theorem s190_129 {l0 : Nat} {l1 : Int} {l2 : Int} {x0 : Nat} {x1 : Int} : WP m190 129 [.inr (.inl l0), .inl l1, .inl l2] [.inl x1, .inr (.inl x0)] σ Q = WP m190 141 [.inr (.inl l0), .inl l1, .inl l2] [.inl x1, .inr (.inl x0)] σ Q := w_goto d190_129 (by decide)
theorem d190_132 : adec m190 132 = some (.aload_n 0, 1) := by decide +kernel
theorem s190_132 {l0 : Nat} {l1 : Int} {l2 : Int} {x0 : Nat} : WP m190 132 [.inr (.inl l0), .inl l1, .inl l2] [.inr (.inl x0)] σ Q = WP m190 133 [.inr (.inl l0), .inl l1, .inl l2] [.inr (.inl l0), .inr (.inl x0)] σ Q := w_ld d190_132 rfl
theorem d190_133 : adec m190 133 = some (.getfield 24, 3) := by decide +kernel
theorem s190_133 {l0 : Nat} {l1 : Int} {l2 : Int} {x0 : Nat} : WP m190 133 [.inr (.inl l0), .inl l1, .inl l2] [.inr (.inl 130), .inr (.inl x0)] σ Q = WP m190 136 [.inr (.inl l0), .inl l1, .inl l2] [.inr (.inl 134), .inr (.inl x0)] σ Q := (w_getR (c := 10) (n := 6) d190_133 (by decide +kernel) (by decide +kernel)).trans (g_and ⟨isO_dec (by decide +kernel), by decide +kernel⟩)
theorem d190_136 : adec m190 136 = some (.iload_n 2, 1) := by decide +kernel
theorem s190_136 {l0 : Nat} {l1 : Int} {l2 : Int} {x0 : Nat} {x1 : Nat} : WP m190 136 [.inr (.inl l0), .inl l1, .inl l2] [.inr (.inl x1), .inr (.inl x0)] σ Q = WP m190 137 [.inr (.inl l0), .inl l1, .inl l2] [.inl l2, .inr (.inl x1), .inr (.inl x0)] σ Q := w_ld d190_136 rfl
theorem d190_137 : adec m190 137 = some (.iaload, 1) := by decide +kernel
theorem s190_137 {l0 : Nat} {l1 : Int} {l2 : Int} {x0 : Nat} {x1 : Nat} {x2 : Int} : WP m190 137 [.inr (.inl l0), .inl l1, .inl l2] [.inl x2, .inr (.inl x1), .inr (.inl x0)] σ Q = ((kdS x1 = 20 ∧ 0 ≤ x2 ∧ x2 < ln x1) ∧ WP m190 138 [.inr (.inl l0), .inl l1, .inl l2] [.inl (σ x1 x2.toNat), .inr (.inl x0)] σ Q) := w_iald d190_137
theorem d190_138 : adec m190 138 = some (.invokestatic 316, 3) := by decide +kernel
theorem s190_138 {l0 : Nat} {l1 : Int} {l2 : Int} {x0 : Nat} {x1 : Int} : WP m190 138 [.inr (.inl l0), .inl l1, .inl l2] [.inl x1, .inr (.inl x0)] σ Q = CA m191 [.inl x1] σ (fun v σ2 => WP m190 141 [.inr (.inl l0), .inl l1, .inl l2] (v ++ [.inr (.inl x0)]) σ2 Q) := w_cS (k := 191) d190_138 (by decide +kernel) (md := 1) (by decide +kernel) m191_at rfl rfl ⟨Nat.le_of_ble_eq_true rfl, Nat.le_of_ble_eq_true rfl, Nat.le_of_ble_eq_true rfl⟩ (by decide)
theorem d190_141 : adec m190 141 = some (.invokevirtual 310, 3) := by decide +kernel
theorem s190_141 {l0 : Nat} {l1 : Int} {l2 : Int} {x1 : Int} : WP m190 141 [.inr (.inl l0), .inl l1, .inl l2] [.inl x1, .inr (.inl 130)] σ Q = CA m188 [.inr (.inl 130), .inl x1] σ (fun v σ2 => WP m190 144 [.inr (.inl l0), .inl l1, .inl l2] (v ++ []) σ2 Q) := (w_cV (k := 188) d190_141 (by decide +kernel) m188_at rfl rfl ⟨Nat.le_of_ble_eq_true rfl, Nat.le_of_ble_eq_true rfl, Nat.le_of_ble_eq_true rfl⟩ (by decide)).trans (g_and (isO_dec (by decide +kernel)))
theorem d190_144 : adec m190 144 = some (.goto (-124), 3) := by decide +kernel
theorem s190_144 {l0 : Nat} {l1 : Int} {l2 : Int} : WP m190 144 [.inr (.inl l0), .inl l1, .inl l2] [] σ Q = WP m190 20 [.inr (.inl l0), .inl l1, .inl l2] [] σ Q := w_goto d190_144 (by decide)
theorem d190_147 : adec m190 147 = some (.return_, 1) := by decide +kernel
theorem s190_147 {l0 : Nat} {l1 : Int} {l2 : AV} : WP m190 147 [.inr (.inl l0), .inl l1, l2] [] σ Q = Q [] σ := w_rv d190_147 rfl
theorem e190 {p0 : Nat} {p1 : Int} : CA m190 [.inr (.inl p0), .inl p1] σ Q = WP m190 0 [.inr (.inl p0), .inl p1, vU] [] σ Q := rfl
-- BinderPressModel.letterOfSign(I)I
theorem d191_0 : adec m191 0 = some (.iload_n 0, 1) := by decide +kernel
theorem s191_0 {l0 : Int} : WP m191 0 [.inl l0] [] σ Q = WP m191 1 [.inl l0] [.inl l0] σ Q := w_ld d191_0 rfl
theorem d191_1 : adec m191 1 = some (.iconst (1), 1) := by decide +kernel
theorem s191_1 {l0 : Int} {x0 : Int} : WP m191 1 [.inl l0] [.inl x0] σ Q = WP m191 2 [.inl l0] [.inl (1), .inl x0] σ Q := w_iconst d191_1 (by decide)
theorem d191_2 : adec m191 2 = some (.if_icmp .ne (8), 3) := by decide +kernel
theorem s191_2 {l0 : Int} {x0 : Int} {x1 : Int} : WP m191 2 [.inl l0] [.inl x1, .inl x0] σ Q = (if x0 = x1 then WP m191 5 [.inl l0] [] σ Q else WP m191 10 [.inl l0] [] σ Q) := w_icne d191_2 (by decide)
theorem d191_5 : adec m191 5 = some (.bipush (73), 2) := by decide +kernel
theorem s191_5 {l0 : Int} : WP m191 5 [.inl l0] [] σ Q = WP m191 7 [.inl l0] [.inl (73)] σ Q := w_bipush d191_5 (by decide)
theorem d191_7 : adec m191 7 = some (.goto (35), 3) := by decide +kernel
theorem s191_7 {l0 : Int} {x0 : Int} : WP m191 7 [.inl l0] [.inl x0] σ Q = WP m191 42 [.inl l0] [.inl x0] σ Q := w_goto d191_7 (by decide)
theorem d191_10 : adec m191 10 = some (.iload_n 0, 1) := by decide +kernel
theorem s191_10 {l0 : Int} : WP m191 10 [.inl l0] [] σ Q = WP m191 11 [.inl l0] [.inl l0] σ Q := w_ld d191_10 rfl
theorem d191_11 : adec m191 11 = some (.iconst (2), 1) := by decide +kernel
theorem s191_11 {l0 : Int} {x0 : Int} : WP m191 11 [.inl l0] [.inl x0] σ Q = WP m191 12 [.inl l0] [.inl (2), .inl x0] σ Q := w_iconst d191_11 (by decide)
theorem d191_12 : adec m191 12 = some (.if_icmp .ne (8), 3) := by decide +kernel
theorem s191_12 {l0 : Int} {x0 : Int} {x1 : Int} : WP m191 12 [.inl l0] [.inl x1, .inl x0] σ Q = (if x0 = x1 then WP m191 15 [.inl l0] [] σ Q else WP m191 20 [.inl l0] [] σ Q) := w_icne d191_12 (by decide)
theorem d191_15 : adec m191 15 = some (.bipush (75), 2) := by decide +kernel
theorem s191_15 {l0 : Int} : WP m191 15 [.inl l0] [] σ Q = WP m191 17 [.inl l0] [.inl (75)] σ Q := w_bipush d191_15 (by decide)
theorem d191_17 : adec m191 17 = some (.goto (25), 3) := by decide +kernel
theorem s191_17 {l0 : Int} {x0 : Int} : WP m191 17 [.inl l0] [.inl x0] σ Q = WP m191 42 [.inl l0] [.inl x0] σ Q := w_goto d191_17 (by decide)
theorem d191_20 : adec m191 20 = some (.iload_n 0, 1) := by decide +kernel
theorem s191_20 {l0 : Int} : WP m191 20 [.inl l0] [] σ Q = WP m191 21 [.inl l0] [.inl l0] σ Q := w_ld d191_20 rfl
theorem d191_21 : adec m191 21 = some (.iconst (3), 1) := by decide +kernel
theorem s191_21 {l0 : Int} {x0 : Int} : WP m191 21 [.inl l0] [.inl x0] σ Q = WP m191 22 [.inl l0] [.inl (3), .inl x0] σ Q := w_iconst d191_21 (by decide)
theorem d191_22 : adec m191 22 = some (.if_icmp .ne (8), 3) := by decide +kernel
theorem s191_22 {l0 : Int} {x0 : Int} {x1 : Int} : WP m191 22 [.inl l0] [.inl x1, .inl x0] σ Q = (if x0 = x1 then WP m191 25 [.inl l0] [] σ Q else WP m191 30 [.inl l0] [] σ Q) := w_icne d191_22 (by decide)
theorem d191_25 : adec m191 25 = some (.bipush (83), 2) := by decide +kernel
theorem s191_25 {l0 : Int} : WP m191 25 [.inl l0] [] σ Q = WP m191 27 [.inl l0] [.inl (83)] σ Q := w_bipush d191_25 (by decide)
theorem d191_27 : adec m191 27 = some (.goto (15), 3) := by decide +kernel
theorem s191_27 {l0 : Int} {x0 : Int} : WP m191 27 [.inl l0] [.inl x0] σ Q = WP m191 42 [.inl l0] [.inl x0] σ Q := w_goto d191_27 (by decide)
theorem d191_30 : adec m191 30 = some (.iload_n 0, 1) := by decide +kernel
theorem s191_30 {l0 : Int} : WP m191 30 [.inl l0] [] σ Q = WP m191 31 [.inl l0] [.inl l0] σ Q := w_ld d191_30 rfl
theorem d191_31 : adec m191 31 = some (.iconst (4), 1) := by decide +kernel
theorem s191_31 {l0 : Int} {x0 : Int} : WP m191 31 [.inl l0] [.inl x0] σ Q = WP m191 32 [.inl l0] [.inl (4), .inl x0] σ Q := w_iconst d191_31 (by decide)
theorem d191_32 : adec m191 32 = some (.if_icmp .ne (8), 3) := by decide +kernel
theorem s191_32 {l0 : Int} {x0 : Int} {x1 : Int} : WP m191 32 [.inl l0] [.inl x1, .inl x0] σ Q = (if x0 = x1 then WP m191 35 [.inl l0] [] σ Q else WP m191 40 [.inl l0] [] σ Q) := w_icne d191_32 (by decide)
theorem d191_35 : adec m191 35 = some (.bipush (66), 2) := by decide +kernel
theorem s191_35 {l0 : Int} : WP m191 35 [.inl l0] [] σ Q = WP m191 37 [.inl l0] [.inl (66)] σ Q := w_bipush d191_35 (by decide)
theorem d191_37 : adec m191 37 = some (.goto (5), 3) := by decide +kernel
theorem s191_37 {l0 : Int} {x0 : Int} : WP m191 37 [.inl l0] [.inl x0] σ Q = WP m191 42 [.inl l0] [.inl x0] σ Q := w_goto d191_37 (by decide)
theorem d191_40 : adec m191 40 = some (.bipush (67), 2) := by decide +kernel
theorem s191_40 {l0 : Int} : WP m191 40 [.inl l0] [] σ Q = WP m191 42 [.inl l0] [.inl (67)] σ Q := w_bipush d191_40 (by decide)
theorem d191_42 : adec m191 42 = some (.ireturn, 1) := by decide +kernel
theorem s191_42 {l0 : Int} {x0 : Int} : WP m191 42 [.inl l0] [.inl x0] σ Q = Q [.inl x0] σ := w_ri d191_42 rfl
theorem e191 {p0 : Int} : CA m191 [.inl p0] σ Q = WP m191 0 [.inl p0] [] σ Q := rfl
-- BinderPressModel.pushIn(IZ)V
theorem d192_0 : adec m192 0 = some (.iload_n 2, 1) := by decide +kernel
theorem s192_0 {l0 : Nat} {l1 : Int} {l2 : Int} : WP m192 0 [.inr (.inl l0), .inl l1, .inl l2] [] σ Q = WP m192 1 [.inr (.inl l0), .inl l1, .inl l2] [.inl l2] σ Q := w_ld d192_0 rfl
theorem d192_1 : adec m192 1 = some (.ifCond .eq (9), 3) := by decide +kernel
theorem s192_1 {l0 : Nat} {l1 : Int} {l2 : Int} {x0 : Int} : WP m192 1 [.inr (.inl l0), .inl l1, .inl l2] [.inl x0] σ Q = (if x0 = 0 then WP m192 10 [.inr (.inl l0), .inl l1, .inl l2] [] σ Q else WP m192 4 [.inr (.inl l0), .inl l1, .inl l2] [] σ Q) := w_ifeq d192_1 (by decide)
theorem d192_4 : adec m192 4 = some (.aload_n 0, 1) := by decide +kernel
theorem s192_4 {l0 : Nat} {l1 : Int} {l2 : Int} : WP m192 4 [.inr (.inl l0), .inl l1, .inl l2] [] σ Q = WP m192 5 [.inr (.inl l0), .inl l1, .inl l2] [.inr (.inl l0)] σ Q := w_ld d192_4 rfl
theorem d192_5 : adec m192 5 = some (.bipush (-41), 2) := by decide +kernel
theorem s192_5 {l0 : Nat} {l1 : Int} {l2 : Int} {x0 : Nat} : WP m192 5 [.inr (.inl l0), .inl l1, .inl l2] [.inr (.inl x0)] σ Q = WP m192 7 [.inr (.inl l0), .inl l1, .inl l2] [.inl (-41), .inr (.inl x0)] σ Q := w_bipush d192_5 (by decide)
theorem d192_7 : adec m192 7 = some (.invokevirtual 172, 3) := by decide +kernel
theorem s192_7 {l0 : Nat} {l1 : Int} {l2 : Int} {x1 : Int} : WP m192 7 [.inr (.inl l0), .inl l1, .inl l2] [.inl x1, .inr (.inl 130)] σ Q = CA m132 [.inr (.inl 130), .inl x1] σ (fun v σ2 => WP m192 10 [.inr (.inl l0), .inl l1, .inl l2] (v ++ []) σ2 Q) := (w_cV (k := 132) d192_7 (by decide +kernel) m132_at rfl rfl ⟨Nat.le_of_ble_eq_true rfl, Nat.le_of_ble_eq_true rfl, Nat.le_of_ble_eq_true rfl⟩ (by decide)).trans (g_and (isO_dec (by decide +kernel)))
theorem d192_10 : adec m192 10 = some (.aload_n 0, 1) := by decide +kernel
theorem s192_10 {l0 : Nat} {l1 : Int} {l2 : Int} : WP m192 10 [.inr (.inl l0), .inl l1, .inl l2] [] σ Q = WP m192 11 [.inr (.inl l0), .inl l1, .inl l2] [.inr (.inl l0)] σ Q := w_ld d192_10 rfl
theorem d192_11 : adec m192 11 = some (.iload_n 1, 1) := by decide +kernel
theorem s192_11 {l0 : Nat} {l1 : Int} {l2 : Int} {x0 : Nat} : WP m192 11 [.inr (.inl l0), .inl l1, .inl l2] [.inr (.inl x0)] σ Q = WP m192 12 [.inr (.inl l0), .inl l1, .inl l2] [.inl l1, .inr (.inl x0)] σ Q := w_ld d192_11 rfl
theorem d192_12 : adec m192 12 = some (.invokevirtual 172, 3) := by decide +kernel
theorem s192_12 {l0 : Nat} {l1 : Int} {l2 : Int} {x1 : Int} : WP m192 12 [.inr (.inl l0), .inl l1, .inl l2] [.inl x1, .inr (.inl 130)] σ Q = CA m132 [.inr (.inl 130), .inl x1] σ (fun v σ2 => WP m192 15 [.inr (.inl l0), .inl l1, .inl l2] (v ++ []) σ2 Q) := (w_cV (k := 132) d192_12 (by decide +kernel) m132_at rfl rfl ⟨Nat.le_of_ble_eq_true rfl, Nat.le_of_ble_eq_true rfl, Nat.le_of_ble_eq_true rfl⟩ (by decide)).trans (g_and (isO_dec (by decide +kernel)))
theorem d192_15 : adec m192 15 = some (.iload_n 2, 1) := by decide +kernel
theorem s192_15 {l0 : Nat} {l1 : Int} {l2 : Int} : WP m192 15 [.inr (.inl l0), .inl l1, .inl l2] [] σ Q = WP m192 16 [.inr (.inl l0), .inl l1, .inl l2] [.inl l2] σ Q := w_ld d192_15 rfl
theorem d192_16 : adec m192 16 = some (.ifCond .eq (9), 3) := by decide +kernel
theorem s192_16 {l0 : Nat} {l1 : Int} {l2 : Int} {x0 : Int} : WP m192 16 [.inr (.inl l0), .inl l1, .inl l2] [.inl x0] σ Q = (if x0 = 0 then WP m192 25 [.inr (.inl l0), .inl l1, .inl l2] [] σ Q else WP m192 19 [.inr (.inl l0), .inl l1, .inl l2] [] σ Q) := w_ifeq d192_16 (by decide)
theorem d192_19 : adec m192 19 = some (.aload_n 0, 1) := by decide +kernel
theorem s192_19 {l0 : Nat} {l1 : Int} {l2 : Int} : WP m192 19 [.inr (.inl l0), .inl l1, .inl l2] [] σ Q = WP m192 20 [.inr (.inl l0), .inl l1, .inl l2] [.inr (.inl l0)] σ Q := w_ld d192_19 rfl
theorem d192_20 : adec m192 20 = some (.bipush (-40), 2) := by decide +kernel
theorem s192_20 {l0 : Nat} {l1 : Int} {l2 : Int} {x0 : Nat} : WP m192 20 [.inr (.inl l0), .inl l1, .inl l2] [.inr (.inl x0)] σ Q = WP m192 22 [.inr (.inl l0), .inl l1, .inl l2] [.inl (-40), .inr (.inl x0)] σ Q := w_bipush d192_20 (by decide)
theorem d192_22 : adec m192 22 = some (.invokevirtual 172, 3) := by decide +kernel
theorem s192_22 {l0 : Nat} {l1 : Int} {l2 : Int} {x1 : Int} : WP m192 22 [.inr (.inl l0), .inl l1, .inl l2] [.inl x1, .inr (.inl 130)] σ Q = CA m132 [.inr (.inl 130), .inl x1] σ (fun v σ2 => WP m192 25 [.inr (.inl l0), .inl l1, .inl l2] (v ++ []) σ2 Q) := (w_cV (k := 132) d192_22 (by decide +kernel) m132_at rfl rfl ⟨Nat.le_of_ble_eq_true rfl, Nat.le_of_ble_eq_true rfl, Nat.le_of_ble_eq_true rfl⟩ (by decide)).trans (g_and (isO_dec (by decide +kernel)))
theorem d192_25 : adec m192 25 = some (.return_, 1) := by decide +kernel
theorem s192_25 {l0 : Nat} {l1 : Int} {l2 : Int} : WP m192 25 [.inr (.inl l0), .inl l1, .inl l2] [] σ Q = Q [] σ := w_rv d192_25 rfl
theorem e192 {p0 : Nat} {p1 : Int} {p2 : Int} : CA m192 [.inr (.inl p0), .inl p1, .inl p2] σ Q = WP m192 0 [.inr (.inl p0), .inl p1, .inl p2] [] σ Q := rfl
-- BinderPressModel.writePut(I)V
theorem d193_0 : adec m193 0 = some (.aload_n 0, 1) := by decide +kernel
theorem s193_0 {l0 : Nat} {l1 : Int} {l2 : AV} : WP m193 0 [.inr (.inl l0), .inl l1, l2] [] σ Q = WP m193 1 [.inr (.inl l0), .inl l1, l2] [.inr (.inl l0)] σ Q := w_ld d193_0 rfl
theorem d193_1 : adec m193 1 = some (.iload_n 1, 1) := by decide +kernel
theorem s193_1 {l0 : Nat} {l1 : Int} {l2 : AV} {x0 : Nat} : WP m193 1 [.inr (.inl l0), .inl l1, l2] [.inr (.inl x0)] σ Q = WP m193 2 [.inr (.inl l0), .inl l1, l2] [.inl l1, .inr (.inl x0)] σ Q := w_ld d193_1 rfl
theorem d193_2 : adec m193 2 = some (.iconst (1), 1) := by decide +kernel
theorem s193_2 {l0 : Nat} {l1 : Int} {l2 : AV} {x0 : Nat} {x1 : Int} : WP m193 2 [.inr (.inl l0), .inl l1, l2] [.inl x1, .inr (.inl x0)] σ Q = WP m193 3 [.inr (.inl l0), .inl l1, l2] [.inl (1), .inl x1, .inr (.inl x0)] σ Q := w_iconst d193_2 (by decide)
theorem d193_3 : adec m193 3 = some (.iadd, 1) := by decide +kernel
theorem s193_3 {l0 : Nat} {l1 : Int} {l2 : AV} {x0 : Nat} {x1 : Int} {x2 : Int} : WP m193 3 [.inr (.inl l0), .inl l1, l2] [.inl x2, .inl x1, .inr (.inl x0)] σ Q = (inI (x1 + x2) ∧ WP m193 4 [.inr (.inl l0), .inl l1, l2] [.inl (x1 + x2), .inr (.inl x0)] σ Q) := w_iadd d193_3
theorem d193_4 : adec m193 4 = some (.invokevirtual 165, 3) := by decide +kernel
theorem s193_4 {l0 : Nat} {l1 : Int} {l2 : AV} {x1 : Int} : WP m193 4 [.inr (.inl l0), .inl l1, l2] [.inl x1, .inr (.inl 130)] σ Q = CA m149 [.inr (.inl 130), .inl x1] σ (fun v σ2 => WP m193 7 [.inr (.inl l0), .inl l1, l2] (v ++ []) σ2 Q) := (w_cV (k := 149) d193_4 (by decide +kernel) m149_at rfl rfl ⟨Nat.le_of_ble_eq_true rfl, Nat.le_of_ble_eq_true rfl, Nat.le_of_ble_eq_true rfl⟩ (by decide)).trans (g_and (isO_dec (by decide +kernel)))
theorem d193_7 : adec m193 7 = some (.istore_n 2, 1) := by decide +kernel
theorem s193_7 {l0 : Nat} {l1 : Int} {l2 : AV} {x0 : Int} : WP m193 7 [.inr (.inl l0), .inl l1, l2] [.inl x0] σ Q = WP m193 8 [.inr (.inl l0), .inl l1, .inl x0] [] σ Q := w_st1 (j := 2) d193_7 rfl (Nat.le_of_ble_eq_true rfl) rfl
theorem d193_8 : adec m193 8 = some (.aload_n 0, 1) := by decide +kernel
theorem s193_8 {l0 : Nat} {l1 : Int} {l2 : Int} : WP m193 8 [.inr (.inl l0), .inl l1, .inl l2] [] σ Q = WP m193 9 [.inr (.inl l0), .inl l1, .inl l2] [.inr (.inl l0)] σ Q := w_ld d193_8 rfl
theorem d193_9 : adec m193 9 = some (.iload_n 2, 1) := by decide +kernel
theorem s193_9 {l0 : Nat} {l1 : Int} {l2 : Int} {x0 : Nat} : WP m193 9 [.inr (.inl l0), .inl l1, .inl l2] [.inr (.inl x0)] σ Q = WP m193 10 [.inr (.inl l0), .inl l1, .inl l2] [.inl l2, .inr (.inl x0)] σ Q := w_ld d193_9 rfl
theorem d193_10 : adec m193 10 = some (.aload_n 0, 1) := by decide +kernel
theorem s193_10 {l0 : Nat} {l1 : Int} {l2 : Int} {x0 : Nat} {x1 : Int} : WP m193 10 [.inr (.inl l0), .inl l1, .inl l2] [.inl x1, .inr (.inl x0)] σ Q = WP m193 11 [.inr (.inl l0), .inl l1, .inl l2] [.inr (.inl l0), .inl x1, .inr (.inl x0)] σ Q := w_ld d193_10 rfl
theorem d193_11 : adec m193 11 = some (.getfield 24, 3) := by decide +kernel
theorem s193_11 {l0 : Nat} {l1 : Int} {l2 : Int} {x0 : Nat} {x1 : Int} : WP m193 11 [.inr (.inl l0), .inl l1, .inl l2] [.inr (.inl 130), .inl x1, .inr (.inl x0)] σ Q = WP m193 14 [.inr (.inl l0), .inl l1, .inl l2] [.inr (.inl 134), .inl x1, .inr (.inl x0)] σ Q := (w_getR (c := 10) (n := 6) d193_11 (by decide +kernel) (by decide +kernel)).trans (g_and ⟨isO_dec (by decide +kernel), by decide +kernel⟩)
theorem d193_14 : adec m193 14 = some (.iload_n 2, 1) := by decide +kernel
theorem s193_14 {l0 : Nat} {l1 : Int} {l2 : Int} {x0 : Nat} {x1 : Int} {x2 : Nat} : WP m193 14 [.inr (.inl l0), .inl l1, .inl l2] [.inr (.inl x2), .inl x1, .inr (.inl x0)] σ Q = WP m193 15 [.inr (.inl l0), .inl l1, .inl l2] [.inl l2, .inr (.inl x2), .inl x1, .inr (.inl x0)] σ Q := w_ld d193_14 rfl
theorem d193_15 : adec m193 15 = some (.iaload, 1) := by decide +kernel
theorem s193_15 {l0 : Nat} {l1 : Int} {l2 : Int} {x0 : Nat} {x1 : Int} {x2 : Nat} {x3 : Int} : WP m193 15 [.inr (.inl l0), .inl l1, .inl l2] [.inl x3, .inr (.inl x2), .inl x1, .inr (.inl x0)] σ Q = ((kdS x2 = 20 ∧ 0 ≤ x3 ∧ x3 < ln x2) ∧ WP m193 16 [.inr (.inl l0), .inl l1, .inl l2] [.inl (σ x2 x3.toNat), .inl x1, .inr (.inl x0)] σ Q) := w_iald d193_15
theorem d193_16 : adec m193 16 = some (.ifCond .eq (15), 3) := by decide +kernel
theorem s193_16 {l0 : Nat} {l1 : Int} {l2 : Int} {x0 : Nat} {x1 : Int} {x2 : Int} : WP m193 16 [.inr (.inl l0), .inl l1, .inl l2] [.inl x2, .inl x1, .inr (.inl x0)] σ Q = (if x2 = 0 then WP m193 31 [.inr (.inl l0), .inl l1, .inl l2] [.inl x1, .inr (.inl x0)] σ Q else WP m193 19 [.inr (.inl l0), .inl l1, .inl l2] [.inl x1, .inr (.inl x0)] σ Q) := w_ifeq d193_16 (by decide)
theorem d193_19 : adec m193 19 = some (.aload_n 0, 1) := by decide +kernel
theorem s193_19 {l0 : Nat} {l1 : Int} {l2 : Int} {x0 : Nat} {x1 : Int} : WP m193 19 [.inr (.inl l0), .inl l1, .inl l2] [.inl x1, .inr (.inl x0)] σ Q = WP m193 20 [.inr (.inl l0), .inl l1, .inl l2] [.inr (.inl l0), .inl x1, .inr (.inl x0)] σ Q := w_ld d193_19 rfl
theorem d193_20 : adec m193 20 = some (.getfield 24, 3) := by decide +kernel
theorem s193_20 {l0 : Nat} {l1 : Int} {l2 : Int} {x0 : Nat} {x1 : Int} : WP m193 20 [.inr (.inl l0), .inl l1, .inl l2] [.inr (.inl 130), .inl x1, .inr (.inl x0)] σ Q = WP m193 23 [.inr (.inl l0), .inl l1, .inl l2] [.inr (.inl 134), .inl x1, .inr (.inl x0)] σ Q := (w_getR (c := 10) (n := 6) d193_20 (by decide +kernel) (by decide +kernel)).trans (g_and ⟨isO_dec (by decide +kernel), by decide +kernel⟩)
theorem d193_23 : adec m193 23 = some (.iload_n 2, 1) := by decide +kernel
theorem s193_23 {l0 : Nat} {l1 : Int} {l2 : Int} {x0 : Nat} {x1 : Int} {x2 : Nat} : WP m193 23 [.inr (.inl l0), .inl l1, .inl l2] [.inr (.inl x2), .inl x1, .inr (.inl x0)] σ Q = WP m193 24 [.inr (.inl l0), .inl l1, .inl l2] [.inl l2, .inr (.inl x2), .inl x1, .inr (.inl x0)] σ Q := w_ld d193_23 rfl
theorem d193_24 : adec m193 24 = some (.iaload, 1) := by decide +kernel
theorem s193_24 {l0 : Nat} {l1 : Int} {l2 : Int} {x0 : Nat} {x1 : Int} {x2 : Nat} {x3 : Int} : WP m193 24 [.inr (.inl l0), .inl l1, .inl l2] [.inl x3, .inr (.inl x2), .inl x1, .inr (.inl x0)] σ Q = ((kdS x2 = 20 ∧ 0 ≤ x3 ∧ x3 < ln x2) ∧ WP m193 25 [.inr (.inl l0), .inl l1, .inl l2] [.inl (σ x2 x3.toNat), .inl x1, .inr (.inl x0)] σ Q) := w_iald d193_24
theorem d193_25 : adec m193 25 = some (.invokestatic 162, 3) := by decide +kernel
theorem s193_25 {l0 : Nat} {l1 : Int} {l2 : Int} {x0 : Nat} {x1 : Int} {x2 : Int} : WP m193 25 [.inr (.inl l0), .inl l1, .inl l2] [.inl x2, .inl x1, .inr (.inl x0)] σ Q = CA m129 [.inl x2] σ (fun v σ2 => WP m193 28 [.inr (.inl l0), .inl l1, .inl l2] (v ++ [.inl x1, .inr (.inl x0)]) σ2 Q) := w_cS (k := 129) d193_25 (by decide +kernel) (md := 1) (by decide +kernel) m129_at rfl rfl ⟨Nat.le_of_ble_eq_true rfl, Nat.le_of_ble_eq_true rfl, Nat.le_of_ble_eq_true rfl⟩ (by decide)
theorem d193_28 : adec m193 28 = some (.ifCond .eq (7), 3) := by decide +kernel
theorem s193_28 {l0 : Nat} {l1 : Int} {l2 : Int} {x0 : Nat} {x1 : Int} {x2 : Int} : WP m193 28 [.inr (.inl l0), .inl l1, .inl l2] [.inl x2, .inl x1, .inr (.inl x0)] σ Q = (if x2 = 0 then WP m193 35 [.inr (.inl l0), .inl l1, .inl l2] [.inl x1, .inr (.inl x0)] σ Q else WP m193 31 [.inr (.inl l0), .inl l1, .inl l2] [.inl x1, .inr (.inl x0)] σ Q) := w_ifeq d193_28 (by decide)
theorem d193_31 : adec m193 31 = some (.iconst (1), 1) := by decide +kernel
theorem s193_31 {l0 : Nat} {l1 : Int} {l2 : Int} {x0 : Nat} {x1 : Int} : WP m193 31 [.inr (.inl l0), .inl l1, .inl l2] [.inl x1, .inr (.inl x0)] σ Q = WP m193 32 [.inr (.inl l0), .inl l1, .inl l2] [.inl (1), .inl x1, .inr (.inl x0)] σ Q := w_iconst d193_31 (by decide)
theorem d193_32 : adec m193 32 = some (.goto (4), 3) := by decide +kernel
theorem s193_32 {l0 : Nat} {l1 : Int} {l2 : Int} {x0 : Nat} {x1 : Int} {x2 : Int} : WP m193 32 [.inr (.inl l0), .inl l1, .inl l2] [.inl x2, .inl x1, .inr (.inl x0)] σ Q = WP m193 36 [.inr (.inl l0), .inl l1, .inl l2] [.inl x2, .inl x1, .inr (.inl x0)] σ Q := w_goto d193_32 (by decide)
theorem d193_35 : adec m193 35 = some (.iconst (0), 1) := by decide +kernel
theorem s193_35 {l0 : Nat} {l1 : Int} {l2 : Int} {x0 : Nat} {x1 : Int} : WP m193 35 [.inr (.inl l0), .inl l1, .inl l2] [.inl x1, .inr (.inl x0)] σ Q = WP m193 36 [.inr (.inl l0), .inl l1, .inl l2] [.inl (0), .inl x1, .inr (.inl x0)] σ Q := w_iconst d193_35 (by decide)
theorem d193_36 : adec m193 36 = some (.invokevirtual 319, 3) := by decide +kernel
theorem s193_36 {l0 : Nat} {l1 : Int} {l2 : Int} {x1 : Int} {x2 : Int} : WP m193 36 [.inr (.inl l0), .inl l1, .inl l2] [.inl x2, .inl x1, .inr (.inl 130)] σ Q = CA m192 [.inr (.inl 130), .inl x1, .inl x2] σ (fun v σ2 => WP m193 39 [.inr (.inl l0), .inl l1, .inl l2] (v ++ []) σ2 Q) := (w_cV (k := 192) d193_36 (by decide +kernel) m192_at rfl rfl ⟨Nat.le_of_ble_eq_true rfl, Nat.le_of_ble_eq_true rfl, Nat.le_of_ble_eq_true rfl⟩ (by decide)).trans (g_and (isO_dec (by decide +kernel)))
theorem d193_39 : adec m193 39 = some (.aload_n 0, 1) := by decide +kernel
theorem s193_39 {l0 : Nat} {l1 : Int} {l2 : Int} : WP m193 39 [.inr (.inl l0), .inl l1, .inl l2] [] σ Q = WP m193 40 [.inr (.inl l0), .inl l1, .inl l2] [.inr (.inl l0)] σ Q := w_ld d193_39 rfl
theorem d193_40 : adec m193 40 = some (.iload_n 1, 1) := by decide +kernel
theorem s193_40 {l0 : Nat} {l1 : Int} {l2 : Int} {x0 : Nat} : WP m193 40 [.inr (.inl l0), .inl l1, .inl l2] [.inr (.inl x0)] σ Q = WP m193 41 [.inr (.inl l0), .inl l1, .inl l2] [.inl l1, .inr (.inl x0)] σ Q := w_ld d193_40 rfl
theorem d193_41 : adec m193 41 = some (.iconst (1), 1) := by decide +kernel
theorem s193_41 {l0 : Nat} {l1 : Int} {l2 : Int} {x0 : Nat} {x1 : Int} : WP m193 41 [.inr (.inl l0), .inl l1, .inl l2] [.inl x1, .inr (.inl x0)] σ Q = WP m193 42 [.inr (.inl l0), .inl l1, .inl l2] [.inl (1), .inl x1, .inr (.inl x0)] σ Q := w_iconst d193_41 (by decide)
theorem d193_42 : adec m193 42 = some (.iadd, 1) := by decide +kernel
theorem s193_42 {l0 : Nat} {l1 : Int} {l2 : Int} {x0 : Nat} {x1 : Int} {x2 : Int} : WP m193 42 [.inr (.inl l0), .inl l1, .inl l2] [.inl x2, .inl x1, .inr (.inl x0)] σ Q = (inI (x1 + x2) ∧ WP m193 43 [.inr (.inl l0), .inl l1, .inl l2] [.inl (x1 + x2), .inr (.inl x0)] σ Q) := w_iadd d193_42
theorem d193_43 : adec m193 43 = some (.aload_n 0, 1) := by decide +kernel
theorem s193_43 {l0 : Nat} {l1 : Int} {l2 : Int} {x0 : Nat} {x1 : Int} : WP m193 43 [.inr (.inl l0), .inl l1, .inl l2] [.inl x1, .inr (.inl x0)] σ Q = WP m193 44 [.inr (.inl l0), .inl l1, .inl l2] [.inr (.inl l0), .inl x1, .inr (.inl x0)] σ Q := w_ld d193_43 rfl
theorem d193_44 : adec m193 44 = some (.getfield 24, 3) := by decide +kernel
theorem s193_44 {l0 : Nat} {l1 : Int} {l2 : Int} {x0 : Nat} {x1 : Int} : WP m193 44 [.inr (.inl l0), .inl l1, .inl l2] [.inr (.inl 130), .inl x1, .inr (.inl x0)] σ Q = WP m193 47 [.inr (.inl l0), .inl l1, .inl l2] [.inr (.inl 134), .inl x1, .inr (.inl x0)] σ Q := (w_getR (c := 10) (n := 6) d193_44 (by decide +kernel) (by decide +kernel)).trans (g_and ⟨isO_dec (by decide +kernel), by decide +kernel⟩)
theorem d193_47 : adec m193 47 = some (.iload_n 1, 1) := by decide +kernel
theorem s193_47 {l0 : Nat} {l1 : Int} {l2 : Int} {x0 : Nat} {x1 : Int} {x2 : Nat} : WP m193 47 [.inr (.inl l0), .inl l1, .inl l2] [.inr (.inl x2), .inl x1, .inr (.inl x0)] σ Q = WP m193 48 [.inr (.inl l0), .inl l1, .inl l2] [.inl l1, .inr (.inl x2), .inl x1, .inr (.inl x0)] σ Q := w_ld d193_47 rfl
theorem d193_48 : adec m193 48 = some (.iconst (1), 1) := by decide +kernel
theorem s193_48 {l0 : Nat} {l1 : Int} {l2 : Int} {x0 : Nat} {x1 : Int} {x2 : Nat} {x3 : Int} : WP m193 48 [.inr (.inl l0), .inl l1, .inl l2] [.inl x3, .inr (.inl x2), .inl x1, .inr (.inl x0)] σ Q = WP m193 49 [.inr (.inl l0), .inl l1, .inl l2] [.inl (1), .inl x3, .inr (.inl x2), .inl x1, .inr (.inl x0)] σ Q := w_iconst d193_48 (by decide)
theorem d193_49 : adec m193 49 = some (.iadd, 1) := by decide +kernel
theorem s193_49 {l0 : Nat} {l1 : Int} {l2 : Int} {x0 : Nat} {x1 : Int} {x2 : Nat} {x3 : Int} {x4 : Int} : WP m193 49 [.inr (.inl l0), .inl l1, .inl l2] [.inl x4, .inl x3, .inr (.inl x2), .inl x1, .inr (.inl x0)] σ Q = (inI (x3 + x4) ∧ WP m193 50 [.inr (.inl l0), .inl l1, .inl l2] [.inl (x3 + x4), .inr (.inl x2), .inl x1, .inr (.inl x0)] σ Q) := w_iadd d193_49
theorem d193_50 : adec m193 50 = some (.iaload, 1) := by decide +kernel
theorem s193_50 {l0 : Nat} {l1 : Int} {l2 : Int} {x0 : Nat} {x1 : Int} {x2 : Nat} {x3 : Int} : WP m193 50 [.inr (.inl l0), .inl l1, .inl l2] [.inl x3, .inr (.inl x2), .inl x1, .inr (.inl x0)] σ Q = ((kdS x2 = 20 ∧ 0 ≤ x3 ∧ x3 < ln x2) ∧ WP m193 51 [.inr (.inl l0), .inl l1, .inl l2] [.inl (σ x2 x3.toNat), .inl x1, .inr (.inl x0)] σ Q) := w_iald d193_50
theorem d193_51 : adec m193 51 = some (.invokestatic 162, 3) := by decide +kernel
theorem s193_51 {l0 : Nat} {l1 : Int} {l2 : Int} {x0 : Nat} {x1 : Int} {x2 : Int} : WP m193 51 [.inr (.inl l0), .inl l1, .inl l2] [.inl x2, .inl x1, .inr (.inl x0)] σ Q = CA m129 [.inl x2] σ (fun v σ2 => WP m193 54 [.inr (.inl l0), .inl l1, .inl l2] (v ++ [.inl x1, .inr (.inl x0)]) σ2 Q) := w_cS (k := 129) d193_51 (by decide +kernel) (md := 1) (by decide +kernel) m129_at rfl rfl ⟨Nat.le_of_ble_eq_true rfl, Nat.le_of_ble_eq_true rfl, Nat.le_of_ble_eq_true rfl⟩ (by decide)
theorem d193_54 : adec m193 54 = some (.invokevirtual 319, 3) := by decide +kernel
theorem s193_54 {l0 : Nat} {l1 : Int} {l2 : Int} {x1 : Int} {x2 : Int} : WP m193 54 [.inr (.inl l0), .inl l1, .inl l2] [.inl x2, .inl x1, .inr (.inl 130)] σ Q = CA m192 [.inr (.inl 130), .inl x1, .inl x2] σ (fun v σ2 => WP m193 57 [.inr (.inl l0), .inl l1, .inl l2] (v ++ []) σ2 Q) := (w_cV (k := 192) d193_54 (by decide +kernel) m192_at rfl rfl ⟨Nat.le_of_ble_eq_true rfl, Nat.le_of_ble_eq_true rfl, Nat.le_of_ble_eq_true rfl⟩ (by decide)).trans (g_and (isO_dec (by decide +kernel)))
theorem d193_57 : adec m193 57 = some (.return_, 1) := by decide +kernel
theorem s193_57 {l0 : Nat} {l1 : Int} {l2 : Int} : WP m193 57 [.inr (.inl l0), .inl l1, .inl l2] [] σ Q = Q [] σ := w_rv d193_57 rfl
theorem e193 {p0 : Nat} {p1 : Int} : CA m193 [.inr (.inl p0), .inl p1] σ Q = WP m193 0 [.inr (.inl p0), .inl p1, vU] [] σ Q := rfl
-- BinderPressModel.told(I)I
theorem d194_0 : adec m194 0 = some (.iload_n 1, 1) := by decide +kernel
theorem s194_0 {l0 : Nat} {l1 : Int} {l2 : AV} {l3 : AV} : WP m194 0 [.inr (.inl l0), .inl l1, l2, l3] [] σ Q = WP m194 1 [.inr (.inl l0), .inl l1, l2, l3] [.inl l1] σ Q := w_ld d194_0 rfl
theorem d194_1 : adec m194 1 = some (.tableswitch (72) (0) (2) #[27, 32, 67], 27) := by decide +kernel
theorem s194_1 {l0 : Nat} {l1 : Int} {l2 : AV} {l3 : AV} {x0 : Int} : WP m194 1 [.inr (.inl l0), .inl l1, l2, l3] [.inl x0] σ Q = (if x0 = 0 then WP m194 28 [.inr (.inl l0), .inl l1, l2, l3] [] σ Q else if x0 = 1 then WP m194 33 [.inr (.inl l0), .inl l1, l2, l3] [] σ Q else if x0 = 2 then WP m194 68 [.inr (.inl l0), .inl l1, l2, l3] [] σ Q else WP m194 73 [.inr (.inl l0), .inl l1, l2, l3] [] σ Q) := by
  by_cases h0 : x0 = (0)
  · rw [if_pos h0]; subst h0; exact w_sw d194_1 rfl rfl
  by_cases h1 : x0 = (1)
  · rw [if_neg h0, if_pos h1]; subst h1; exact w_sw d194_1 rfl rfl
  by_cases h2 : x0 = (2)
  · rw [if_neg h0, if_neg h1, if_pos h2]; subst h2; exact w_sw d194_1 rfl rfl
  rw [if_neg h0, if_neg h1, if_neg h2]
  by_cases hr : x0 < (0) ∨ (2) < x0
  · exact w_sw d194_1 rfl (by simp only [bstep]; rw [if_pos hr]; rfl)
  · omega
theorem d194_28 : adec m194 28 = some (.aload_n 0, 1) := by decide +kernel
theorem s194_28 {l0 : Nat} {l1 : Int} {l2 : AV} {l3 : AV} : WP m194 28 [.inr (.inl l0), .inl l1, l2, l3] [] σ Q = WP m194 29 [.inr (.inl l0), .inl l1, l2, l3] [.inr (.inl l0)] σ Q := w_ld d194_28 rfl
theorem d194_29 : adec m194 29 = some (.getfield 121, 3) := by decide +kernel
theorem s194_29 {l0 : Nat} {l1 : Int} {l2 : AV} {l3 : AV} : WP m194 29 [.inr (.inl l0), .inl l1, l2, l3] [.inr (.inl 130)] σ Q = WP m194 32 [.inr (.inl l0), .inl l1, l2, l3] [.inl (σ 130 4)] σ Q := (w_getI (c := 10) (n := 4) d194_29 (by decide +kernel) (by decide +kernel)).trans (g_and (isO_dec (by decide +kernel)))
theorem d194_32 : adec m194 32 = some (.ireturn, 1) := by decide +kernel
theorem s194_32 {l0 : Nat} {l1 : Int} {l2 : AV} {l3 : AV} {x0 : Int} : WP m194 32 [.inr (.inl l0), .inl l1, l2, l3] [.inl x0] σ Q = Q [.inl x0] σ := w_ri d194_32 rfl
theorem d194_33 : adec m194 33 = some (.iconst (0), 1) := by decide +kernel
theorem s194_33 {l0 : Nat} {l1 : Int} {l2 : AV} {l3 : AV} : WP m194 33 [.inr (.inl l0), .inl l1, l2, l3] [] σ Q = WP m194 34 [.inr (.inl l0), .inl l1, l2, l3] [.inl (0)] σ Q := w_iconst d194_33 (by decide)
theorem d194_34 : adec m194 34 = some (.istore_n 2, 1) := by decide +kernel
theorem s194_34 {l0 : Nat} {l1 : Int} {l2 : AV} {l3 : AV} {x0 : Int} : WP m194 34 [.inr (.inl l0), .inl l1, l2, l3] [.inl x0] σ Q = WP m194 35 [.inr (.inl l0), .inl l1, .inl x0, l3] [] σ Q := w_st1 (j := 2) d194_34 rfl (Nat.le_of_ble_eq_true rfl) rfl
theorem d194_35 : adec m194 35 = some (.iconst (0), 1) := by decide +kernel
theorem s194_35 {l0 : Nat} {l1 : Int} {l2 : Int} {l3 : AV} : WP m194 35 [.inr (.inl l0), .inl l1, .inl l2, l3] [] σ Q = WP m194 36 [.inr (.inl l0), .inl l1, .inl l2, l3] [.inl (0)] σ Q := w_iconst d194_35 (by decide)
theorem d194_36 : adec m194 36 = some (.istore_n 3, 1) := by decide +kernel
theorem s194_36 {l0 : Nat} {l1 : Int} {l2 : Int} {l3 : AV} {x0 : Int} : WP m194 36 [.inr (.inl l0), .inl l1, .inl l2, l3] [.inl x0] σ Q = WP m194 37 [.inr (.inl l0), .inl l1, .inl l2, .inl x0] [] σ Q := w_st1 (j := 3) d194_36 rfl (Nat.le_of_ble_eq_true rfl) rfl
theorem d194_37 : adec m194 37 = some (.iload_n 3, 1) := by decide +kernel
theorem s194_37 {l0 : Nat} {l1 : Int} {l2 : Int} {l3 : Int} : WP m194 37 [.inr (.inl l0), .inl l1, .inl l2, .inl l3] [] σ Q = WP m194 38 [.inr (.inl l0), .inl l1, .inl l2, .inl l3] [.inl l3] σ Q := w_ld d194_37 rfl
theorem d194_38 : adec m194 38 = some (.iconst (4), 1) := by decide +kernel
theorem s194_38 {l0 : Nat} {l1 : Int} {l2 : Int} {l3 : Int} {x0 : Int} : WP m194 38 [.inr (.inl l0), .inl l1, .inl l2, .inl l3] [.inl x0] σ Q = WP m194 39 [.inr (.inl l0), .inl l1, .inl l2, .inl l3] [.inl (4), .inl x0] σ Q := w_iconst d194_38 (by decide)
theorem d194_39 : adec m194 39 = some (.if_icmp .ge (27), 3) := by decide +kernel
theorem s194_39 {l0 : Nat} {l1 : Int} {l2 : Int} {l3 : Int} {x0 : Int} {x1 : Int} : WP m194 39 [.inr (.inl l0), .inl l1, .inl l2, .inl l3] [.inl x1, .inl x0] σ Q = (if x1 ≤ x0 then WP m194 66 [.inr (.inl l0), .inl l1, .inl l2, .inl l3] [] σ Q else WP m194 42 [.inr (.inl l0), .inl l1, .inl l2, .inl l3] [] σ Q) := w_icge d194_39 (by decide)
theorem d194_42 : adec m194 42 = some (.iload_n 2, 1) := by decide +kernel
theorem s194_42 {l0 : Nat} {l1 : Int} {l2 : Int} {l3 : Int} : WP m194 42 [.inr (.inl l0), .inl l1, .inl l2, .inl l3] [] σ Q = WP m194 43 [.inr (.inl l0), .inl l1, .inl l2, .inl l3] [.inl l2] σ Q := w_ld d194_42 rfl
theorem d194_43 : adec m194 43 = some (.aload_n 0, 1) := by decide +kernel
theorem s194_43 {l0 : Nat} {l1 : Int} {l2 : Int} {l3 : Int} {x0 : Int} : WP m194 43 [.inr (.inl l0), .inl l1, .inl l2, .inl l3] [.inl x0] σ Q = WP m194 44 [.inr (.inl l0), .inl l1, .inl l2, .inl l3] [.inr (.inl l0), .inl x0] σ Q := w_ld d194_43 rfl
theorem d194_44 : adec m194 44 = some (.iload_n 3, 1) := by decide +kernel
theorem s194_44 {l0 : Nat} {l1 : Int} {l2 : Int} {l3 : Int} {x0 : Int} {x1 : Nat} : WP m194 44 [.inr (.inl l0), .inl l1, .inl l2, .inl l3] [.inr (.inl x1), .inl x0] σ Q = WP m194 45 [.inr (.inl l0), .inl l1, .inl l2, .inl l3] [.inl l3, .inr (.inl x1), .inl x0] σ Q := w_ld d194_44 rfl
theorem d194_45 : adec m194 45 = some (.invokevirtual 100, 3) := by decide +kernel
theorem s194_45 {l0 : Nat} {l1 : Int} {l2 : Int} {l3 : Int} {x0 : Int} {x2 : Int} : WP m194 45 [.inr (.inl l0), .inl l1, .inl l2, .inl l3] [.inl x2, .inr (.inl 130), .inl x0] σ Q = CA m131 [.inr (.inl 130), .inl x2] σ (fun v σ2 => WP m194 48 [.inr (.inl l0), .inl l1, .inl l2, .inl l3] (v ++ [.inl x0]) σ2 Q) := (w_cV (k := 131) d194_45 (by decide +kernel) m131_at rfl rfl ⟨Nat.le_of_ble_eq_true rfl, Nat.le_of_ble_eq_true rfl, Nat.le_of_ble_eq_true rfl⟩ (by decide)).trans (g_and (isO_dec (by decide +kernel)))
theorem d194_48 : adec m194 48 = some (.ifCond .le (9), 3) := by decide +kernel
theorem s194_48 {l0 : Nat} {l1 : Int} {l2 : Int} {l3 : Int} {x0 : Int} {x1 : Int} : WP m194 48 [.inr (.inl l0), .inl l1, .inl l2, .inl l3] [.inl x1, .inl x0] σ Q = (if x1 ≤ 0 then WP m194 57 [.inr (.inl l0), .inl l1, .inl l2, .inl l3] [.inl x0] σ Q else WP m194 51 [.inr (.inl l0), .inl l1, .inl l2, .inl l3] [.inl x0] σ Q) := w_ifle d194_48 (by decide)
theorem d194_51 : adec m194 51 = some (.iconst (1), 1) := by decide +kernel
theorem s194_51 {l0 : Nat} {l1 : Int} {l2 : Int} {l3 : Int} {x0 : Int} : WP m194 51 [.inr (.inl l0), .inl l1, .inl l2, .inl l3] [.inl x0] σ Q = WP m194 52 [.inr (.inl l0), .inl l1, .inl l2, .inl l3] [.inl (1), .inl x0] σ Q := w_iconst d194_51 (by decide)
theorem d194_52 : adec m194 52 = some (.iload_n 3, 1) := by decide +kernel
theorem s194_52 {l0 : Nat} {l1 : Int} {l2 : Int} {l3 : Int} {x0 : Int} {x1 : Int} : WP m194 52 [.inr (.inl l0), .inl l1, .inl l2, .inl l3] [.inl x1, .inl x0] σ Q = WP m194 53 [.inr (.inl l0), .inl l1, .inl l2, .inl l3] [.inl l3, .inl x1, .inl x0] σ Q := w_ld d194_52 rfl
theorem d194_53 : adec m194 53 = some (.ishl, 1) := by decide +kernel
theorem s194_53 {l0 : Nat} {l1 : Int} {l2 : Int} {l3 : Int} {x0 : Int} {x1 : Int} {x2 : Int} : WP m194 53 [.inr (.inl l0), .inl l1, .inl l2, .inl l3] [.inl x2, .inl x1, .inl x0] σ Q = (((0 ≤ x1 ∧ 0 ≤ x2 ∧ x2 ≤ 30) ∧ inI (x1 * 2 ^ x2.toNat)) ∧ WP m194 54 [.inr (.inl l0), .inl l1, .inl l2, .inl l3] [.inl (x1 * 2 ^ x2.toNat), .inl x0] σ Q) := w_ishl d194_53
theorem d194_54 : adec m194 54 = some (.goto (4), 3) := by decide +kernel
theorem s194_54 {l0 : Nat} {l1 : Int} {l2 : Int} {l3 : Int} {x0 : Int} {x1 : Int} : WP m194 54 [.inr (.inl l0), .inl l1, .inl l2, .inl l3] [.inl x1, .inl x0] σ Q = WP m194 58 [.inr (.inl l0), .inl l1, .inl l2, .inl l3] [.inl x1, .inl x0] σ Q := w_goto d194_54 (by decide)
theorem d194_57 : adec m194 57 = some (.iconst (0), 1) := by decide +kernel
theorem s194_57 {l0 : Nat} {l1 : Int} {l2 : Int} {l3 : Int} {x0 : Int} : WP m194 57 [.inr (.inl l0), .inl l1, .inl l2, .inl l3] [.inl x0] σ Q = WP m194 58 [.inr (.inl l0), .inl l1, .inl l2, .inl l3] [.inl (0), .inl x0] σ Q := w_iconst d194_57 (by decide)
theorem d194_58 : adec m194 58 = some (.ior, 1) := by decide +kernel
theorem s194_58 {l0 : Nat} {l1 : Int} {l2 : Int} {l3 : Int} {x0 : Int} {x1 : Int} : WP m194 58 [.inr (.inl l0), .inl l1, .inl l2, .inl l3] [.inl x1, .inl x0] σ Q = WP m194 59 [.inr (.inl l0), .inl l1, .inl l2, .inl l3] [.inl (bitA (· ||| ·) x0 x1)] σ Q := w_ior d194_58
theorem d194_59 : adec m194 59 = some (.istore_n 2, 1) := by decide +kernel
theorem s194_59 {l0 : Nat} {l1 : Int} {l2 : Int} {l3 : Int} {x0 : Int} : WP m194 59 [.inr (.inl l0), .inl l1, .inl l2, .inl l3] [.inl x0] σ Q = WP m194 60 [.inr (.inl l0), .inl l1, .inl x0, .inl l3] [] σ Q := w_st1 (j := 2) d194_59 rfl (Nat.le_of_ble_eq_true rfl) rfl
theorem d194_60 : adec m194 60 = some (.iinc 3 (1), 3) := by decide +kernel
theorem s194_60 {l0 : Nat} {l1 : Int} {l2 : Int} {l3 : Int} : WP m194 60 [.inr (.inl l0), .inl l1, .inl l2, .inl l3] [] σ Q = (inI (l3 + (1)) ∧ WP m194 63 [.inr (.inl l0), .inl l1, .inl l2, .inl (l3 + (1))] [] σ Q) := w_iinc d194_60 rfl rfl
theorem d194_63 : adec m194 63 = some (.goto (-26), 3) := by decide +kernel
theorem s194_63 {l0 : Nat} {l1 : Int} {l2 : Int} {l3 : Int} : WP m194 63 [.inr (.inl l0), .inl l1, .inl l2, .inl l3] [] σ Q = WP m194 37 [.inr (.inl l0), .inl l1, .inl l2, .inl l3] [] σ Q := w_goto d194_63 (by decide)
theorem d194_66 : adec m194 66 = some (.iload_n 2, 1) := by decide +kernel
theorem s194_66 {l0 : Nat} {l1 : Int} {l2 : Int} {l3 : Int} : WP m194 66 [.inr (.inl l0), .inl l1, .inl l2, .inl l3] [] σ Q = WP m194 67 [.inr (.inl l0), .inl l1, .inl l2, .inl l3] [.inl l2] σ Q := w_ld d194_66 rfl
theorem d194_67 : adec m194 67 = some (.ireturn, 1) := by decide +kernel
theorem s194_67 {l0 : Nat} {l1 : Int} {l2 : Int} {l3 : Int} {x0 : Int} : WP m194 67 [.inr (.inl l0), .inl l1, .inl l2, .inl l3] [.inl x0] σ Q = Q [.inl x0] σ := w_ri d194_67 rfl
theorem d194_68 : adec m194 68 = some (.aload_n 0, 1) := by decide +kernel
theorem s194_68 {l0 : Nat} {l1 : Int} {l2 : AV} {l3 : AV} : WP m194 68 [.inr (.inl l0), .inl l1, l2, l3] [] σ Q = WP m194 69 [.inr (.inl l0), .inl l1, l2, l3] [.inr (.inl l0)] σ Q := w_ld d194_68 rfl
theorem d194_69 : adec m194 69 = some (.getfield 107, 3) := by decide +kernel
theorem s194_69 {l0 : Nat} {l1 : Int} {l2 : AV} {l3 : AV} : WP m194 69 [.inr (.inl l0), .inl l1, l2, l3] [.inr (.inl 130)] σ Q = WP m194 72 [.inr (.inl l0), .inl l1, l2, l3] [.inl (σ 130 1)] σ Q := (w_getI (c := 10) (n := 1) d194_69 (by decide +kernel) (by decide +kernel)).trans (g_and (isO_dec (by decide +kernel)))
theorem d194_72 : adec m194 72 = some (.ireturn, 1) := by decide +kernel
theorem s194_72 {l0 : Nat} {l1 : Int} {l2 : AV} {l3 : AV} {x0 : Int} : WP m194 72 [.inr (.inl l0), .inl l1, l2, l3] [.inl x0] σ Q = Q [.inl x0] σ := w_ri d194_72 rfl
theorem d194_73 : adec m194 73 = some (.ldc 120, 2) := by decide +kernel
theorem s194_73 {l0 : Nat} {l1 : Int} {l2 : AV} {l3 : AV} : WP m194 73 [.inr (.inl l0), .inl l1, l2, l3] [] σ Q = WP m194 75 [.inr (.inl l0), .inl l1, l2, l3] [.inl (-1000000002)] σ Q := w_ldc d194_73 (by decide +kernel) (by decide)
theorem d194_75 : adec m194 75 = some (.ireturn, 1) := by decide +kernel
theorem s194_75 {l0 : Nat} {l1 : Int} {l2 : AV} {l3 : AV} {x0 : Int} : WP m194 75 [.inr (.inl l0), .inl l1, l2, l3] [.inl x0] σ Q = Q [.inl x0] σ := w_ri d194_75 rfl
theorem e194 {p0 : Nat} {p1 : Int} : CA m194 [.inr (.inl p0), .inl p1] σ Q = WP m194 0 [.inr (.inl p0), .inl p1, vU, vU] [] σ Q := rfl
-- BinderPressModel.freeNames()I
theorem d195_0 : adec m195 0 = some (.iconst (0), 1) := by decide +kernel
theorem s195_0 {l0 : Nat} {l1 : AV} {l2 : AV} : WP m195 0 [.inr (.inl l0), l1, l2] [] σ Q = WP m195 1 [.inr (.inl l0), l1, l2] [.inl (0)] σ Q := w_iconst d195_0 (by decide)
theorem d195_1 : adec m195 1 = some (.istore_n 1, 1) := by decide +kernel
theorem s195_1 {l0 : Nat} {l1 : AV} {l2 : AV} {x0 : Int} : WP m195 1 [.inr (.inl l0), l1, l2] [.inl x0] σ Q = WP m195 2 [.inr (.inl l0), .inl x0, l2] [] σ Q := w_st1 (j := 1) d195_1 rfl (Nat.le_of_ble_eq_true rfl) rfl
theorem d195_2 : adec m195 2 = some (.bipush (97), 2) := by decide +kernel
theorem s195_2 {l0 : Nat} {l1 : Int} {l2 : AV} : WP m195 2 [.inr (.inl l0), .inl l1, l2] [] σ Q = WP m195 4 [.inr (.inl l0), .inl l1, l2] [.inl (97)] σ Q := w_bipush d195_2 (by decide)
theorem d195_4 : adec m195 4 = some (.istore_n 2, 1) := by decide +kernel
theorem s195_4 {l0 : Nat} {l1 : Int} {l2 : AV} {x0 : Int} : WP m195 4 [.inr (.inl l0), .inl l1, l2] [.inl x0] σ Q = WP m195 5 [.inr (.inl l0), .inl l1, .inl x0] [] σ Q := w_st1 (j := 2) d195_4 rfl (Nat.le_of_ble_eq_true rfl) rfl
theorem d195_5 : adec m195 5 = some (.iload_n 2, 1) := by decide +kernel
theorem s195_5 {l0 : Nat} {l1 : Int} {l2 : Int} : WP m195 5 [.inr (.inl l0), .inl l1, .inl l2] [] σ Q = WP m195 6 [.inr (.inl l0), .inl l1, .inl l2] [.inl l2] σ Q := w_ld d195_5 rfl
theorem d195_6 : adec m195 6 = some (.bipush (123), 2) := by decide +kernel
theorem s195_6 {l0 : Nat} {l1 : Int} {l2 : Int} {x0 : Int} : WP m195 6 [.inr (.inl l0), .inl l1, .inl l2] [.inl x0] σ Q = WP m195 8 [.inr (.inl l0), .inl l1, .inl l2] [.inl (123), .inl x0] σ Q := w_bipush d195_6 (by decide)
theorem d195_8 : adec m195 8 = some (.if_icmp .ge (31), 3) := by decide +kernel
theorem s195_8 {l0 : Nat} {l1 : Int} {l2 : Int} {x0 : Int} {x1 : Int} : WP m195 8 [.inr (.inl l0), .inl l1, .inl l2] [.inl x1, .inl x0] σ Q = (if x1 ≤ x0 then WP m195 39 [.inr (.inl l0), .inl l1, .inl l2] [] σ Q else WP m195 11 [.inr (.inl l0), .inl l1, .inl l2] [] σ Q) := w_icge d195_8 (by decide)
theorem d195_11 : adec m195 11 = some (.iload_n 1, 1) := by decide +kernel
theorem s195_11 {l0 : Nat} {l1 : Int} {l2 : Int} : WP m195 11 [.inr (.inl l0), .inl l1, .inl l2] [] σ Q = WP m195 12 [.inr (.inl l0), .inl l1, .inl l2] [.inl l1] σ Q := w_ld d195_11 rfl
theorem d195_12 : adec m195 12 = some (.aload_n 0, 1) := by decide +kernel
theorem s195_12 {l0 : Nat} {l1 : Int} {l2 : Int} {x0 : Int} : WP m195 12 [.inr (.inl l0), .inl l1, .inl l2] [.inl x0] σ Q = WP m195 13 [.inr (.inl l0), .inl l1, .inl l2] [.inr (.inl l0), .inl x0] σ Q := w_ld d195_12 rfl
theorem d195_13 : adec m195 13 = some (.iconst (0), 1) := by decide +kernel
theorem s195_13 {l0 : Nat} {l1 : Int} {l2 : Int} {x0 : Int} {x1 : Nat} : WP m195 13 [.inr (.inl l0), .inl l1, .inl l2] [.inr (.inl x1), .inl x0] σ Q = WP m195 14 [.inr (.inl l0), .inl l1, .inl l2] [.inl (0), .inr (.inl x1), .inl x0] σ Q := w_iconst d195_13 (by decide)
theorem d195_14 : adec m195 14 = some (.iload_n 2, 1) := by decide +kernel
theorem s195_14 {l0 : Nat} {l1 : Int} {l2 : Int} {x0 : Int} {x1 : Nat} {x2 : Int} : WP m195 14 [.inr (.inl l0), .inl l1, .inl l2] [.inl x2, .inr (.inl x1), .inl x0] σ Q = WP m195 15 [.inr (.inl l0), .inl l1, .inl l2] [.inl l2, .inl x2, .inr (.inl x1), .inl x0] σ Q := w_ld d195_14 rfl
theorem d195_15 : adec m195 15 = some (.invokevirtual 182, 3) := by decide +kernel
theorem s195_15 {l0 : Nat} {l1 : Int} {l2 : Int} {x0 : Int} {x2 : Int} {x3 : Int} : WP m195 15 [.inr (.inl l0), .inl l1, .inl l2] [.inl x3, .inl x2, .inr (.inl 130), .inl x0] σ Q = CA m150 [.inr (.inl 130), .inl x2, .inl x3] σ (fun v σ2 => WP m195 18 [.inr (.inl l0), .inl l1, .inl l2] (v ++ [.inl x0]) σ2 Q) := (w_cV (k := 150) d195_15 (by decide +kernel) m150_at rfl rfl ⟨Nat.le_of_ble_eq_true rfl, Nat.le_of_ble_eq_true rfl, Nat.le_of_ble_eq_true rfl⟩ (by decide)).trans (g_and (isO_dec (by decide +kernel)))
theorem d195_18 : adec m195 18 = some (.ifCond .eq (12), 3) := by decide +kernel
theorem s195_18 {l0 : Nat} {l1 : Int} {l2 : Int} {x0 : Int} {x1 : Int} : WP m195 18 [.inr (.inl l0), .inl l1, .inl l2] [.inl x1, .inl x0] σ Q = (if x1 = 0 then WP m195 30 [.inr (.inl l0), .inl l1, .inl l2] [.inl x0] σ Q else WP m195 21 [.inr (.inl l0), .inl l1, .inl l2] [.inl x0] σ Q) := w_ifeq d195_18 (by decide)
theorem d195_21 : adec m195 21 = some (.iconst (1), 1) := by decide +kernel
theorem s195_21 {l0 : Nat} {l1 : Int} {l2 : Int} {x0 : Int} : WP m195 21 [.inr (.inl l0), .inl l1, .inl l2] [.inl x0] σ Q = WP m195 22 [.inr (.inl l0), .inl l1, .inl l2] [.inl (1), .inl x0] σ Q := w_iconst d195_21 (by decide)
theorem d195_22 : adec m195 22 = some (.iload_n 2, 1) := by decide +kernel
theorem s195_22 {l0 : Nat} {l1 : Int} {l2 : Int} {x0 : Int} {x1 : Int} : WP m195 22 [.inr (.inl l0), .inl l1, .inl l2] [.inl x1, .inl x0] σ Q = WP m195 23 [.inr (.inl l0), .inl l1, .inl l2] [.inl l2, .inl x1, .inl x0] σ Q := w_ld d195_22 rfl
theorem d195_23 : adec m195 23 = some (.bipush (97), 2) := by decide +kernel
theorem s195_23 {l0 : Nat} {l1 : Int} {l2 : Int} {x0 : Int} {x1 : Int} {x2 : Int} : WP m195 23 [.inr (.inl l0), .inl l1, .inl l2] [.inl x2, .inl x1, .inl x0] σ Q = WP m195 25 [.inr (.inl l0), .inl l1, .inl l2] [.inl (97), .inl x2, .inl x1, .inl x0] σ Q := w_bipush d195_23 (by decide)
theorem d195_25 : adec m195 25 = some (.isub, 1) := by decide +kernel
theorem s195_25 {l0 : Nat} {l1 : Int} {l2 : Int} {x0 : Int} {x1 : Int} {x2 : Int} {x3 : Int} : WP m195 25 [.inr (.inl l0), .inl l1, .inl l2] [.inl x3, .inl x2, .inl x1, .inl x0] σ Q = (inI (x2 - x3) ∧ WP m195 26 [.inr (.inl l0), .inl l1, .inl l2] [.inl (x2 - x3), .inl x1, .inl x0] σ Q) := w_isub d195_25
theorem d195_26 : adec m195 26 = some (.ishl, 1) := by decide +kernel
theorem s195_26 {l0 : Nat} {l1 : Int} {l2 : Int} {x0 : Int} {x1 : Int} {x2 : Int} : WP m195 26 [.inr (.inl l0), .inl l1, .inl l2] [.inl x2, .inl x1, .inl x0] σ Q = (((0 ≤ x1 ∧ 0 ≤ x2 ∧ x2 ≤ 30) ∧ inI (x1 * 2 ^ x2.toNat)) ∧ WP m195 27 [.inr (.inl l0), .inl l1, .inl l2] [.inl (x1 * 2 ^ x2.toNat), .inl x0] σ Q) := w_ishl d195_26
theorem d195_27 : adec m195 27 = some (.goto (4), 3) := by decide +kernel
theorem s195_27 {l0 : Nat} {l1 : Int} {l2 : Int} {x0 : Int} {x1 : Int} : WP m195 27 [.inr (.inl l0), .inl l1, .inl l2] [.inl x1, .inl x0] σ Q = WP m195 31 [.inr (.inl l0), .inl l1, .inl l2] [.inl x1, .inl x0] σ Q := w_goto d195_27 (by decide)
theorem d195_30 : adec m195 30 = some (.iconst (0), 1) := by decide +kernel
theorem s195_30 {l0 : Nat} {l1 : Int} {l2 : Int} {x0 : Int} : WP m195 30 [.inr (.inl l0), .inl l1, .inl l2] [.inl x0] σ Q = WP m195 31 [.inr (.inl l0), .inl l1, .inl l2] [.inl (0), .inl x0] σ Q := w_iconst d195_30 (by decide)
theorem d195_31 : adec m195 31 = some (.ior, 1) := by decide +kernel
theorem s195_31 {l0 : Nat} {l1 : Int} {l2 : Int} {x0 : Int} {x1 : Int} : WP m195 31 [.inr (.inl l0), .inl l1, .inl l2] [.inl x1, .inl x0] σ Q = WP m195 32 [.inr (.inl l0), .inl l1, .inl l2] [.inl (bitA (· ||| ·) x0 x1)] σ Q := w_ior d195_31
theorem d195_32 : adec m195 32 = some (.istore_n 1, 1) := by decide +kernel
theorem s195_32 {l0 : Nat} {l1 : Int} {l2 : Int} {x0 : Int} : WP m195 32 [.inr (.inl l0), .inl l1, .inl l2] [.inl x0] σ Q = WP m195 33 [.inr (.inl l0), .inl x0, .inl l2] [] σ Q := w_st1 (j := 1) d195_32 rfl (Nat.le_of_ble_eq_true rfl) rfl
theorem d195_33 : adec m195 33 = some (.iinc 2 (1), 3) := by decide +kernel
theorem s195_33 {l0 : Nat} {l1 : Int} {l2 : Int} : WP m195 33 [.inr (.inl l0), .inl l1, .inl l2] [] σ Q = (inI (l2 + (1)) ∧ WP m195 36 [.inr (.inl l0), .inl l1, .inl (l2 + (1))] [] σ Q) := w_iinc d195_33 rfl rfl
theorem d195_36 : adec m195 36 = some (.goto (-31), 3) := by decide +kernel
theorem s195_36 {l0 : Nat} {l1 : Int} {l2 : Int} : WP m195 36 [.inr (.inl l0), .inl l1, .inl l2] [] σ Q = WP m195 5 [.inr (.inl l0), .inl l1, .inl l2] [] σ Q := w_goto d195_36 (by decide)
theorem d195_39 : adec m195 39 = some (.iload_n 1, 1) := by decide +kernel
theorem s195_39 {l0 : Nat} {l1 : Int} {l2 : Int} : WP m195 39 [.inr (.inl l0), .inl l1, .inl l2] [] σ Q = WP m195 40 [.inr (.inl l0), .inl l1, .inl l2] [.inl l1] σ Q := w_ld d195_39 rfl
theorem d195_40 : adec m195 40 = some (.ireturn, 1) := by decide +kernel
theorem s195_40 {l0 : Nat} {l1 : Int} {l2 : Int} {x0 : Int} : WP m195 40 [.inr (.inl l0), .inl l1, .inl l2] [.inl x0] σ Q = Q [.inl x0] σ := w_ri d195_40 rfl
theorem e195 {p0 : Nat} : CA m195 [.inr (.inl p0)] σ Q = WP m195 0 [.inr (.inl p0), vU, vU] [] σ Q := rfl
-- BinderPressModel.howMany(II)I
theorem d196_0 : adec m196 0 = some (.iconst (0), 1) := by decide +kernel
theorem s196_0 {l0 : Nat} {l1 : Int} {l2 : Int} {l3 : AV} {l4 : AV} : WP m196 0 [.inr (.inl l0), .inl l1, .inl l2, l3, l4] [] σ Q = WP m196 1 [.inr (.inl l0), .inl l1, .inl l2, l3, l4] [.inl (0)] σ Q := w_iconst d196_0 (by decide)
theorem d196_1 : adec m196 1 = some (.istore_n 3, 1) := by decide +kernel
theorem s196_1 {l0 : Nat} {l1 : Int} {l2 : Int} {l3 : AV} {l4 : AV} {x0 : Int} : WP m196 1 [.inr (.inl l0), .inl l1, .inl l2, l3, l4] [.inl x0] σ Q = WP m196 2 [.inr (.inl l0), .inl l1, .inl l2, .inl x0, l4] [] σ Q := w_st1 (j := 3) d196_1 rfl (Nat.le_of_ble_eq_true rfl) rfl
theorem d196_2 : adec m196 2 = some (.iconst (0), 1) := by decide +kernel
theorem s196_2 {l0 : Nat} {l1 : Int} {l2 : Int} {l3 : Int} {l4 : AV} : WP m196 2 [.inr (.inl l0), .inl l1, .inl l2, .inl l3, l4] [] σ Q = WP m196 3 [.inr (.inl l0), .inl l1, .inl l2, .inl l3, l4] [.inl (0)] σ Q := w_iconst d196_2 (by decide)
theorem d196_3 : adec m196 3 = some (.istore 4, 2) := by decide +kernel
theorem s196_3 {l0 : Nat} {l1 : Int} {l2 : Int} {l3 : Int} {l4 : AV} {x0 : Int} : WP m196 3 [.inr (.inl l0), .inl l1, .inl l2, .inl l3, l4] [.inl x0] σ Q = WP m196 5 [.inr (.inl l0), .inl l1, .inl l2, .inl l3, .inl x0] [] σ Q := w_st1 (j := 4) d196_3 rfl (Nat.le_of_ble_eq_true rfl) rfl
theorem d196_5 : adec m196 5 = some (.iload 4, 2) := by decide +kernel
theorem s196_5 {l0 : Nat} {l1 : Int} {l2 : Int} {l3 : Int} {l4 : Int} : WP m196 5 [.inr (.inl l0), .inl l1, .inl l2, .inl l3, .inl l4] [] σ Q = WP m196 7 [.inr (.inl l0), .inl l1, .inl l2, .inl l3, .inl l4] [.inl l4] σ Q := w_ld d196_5 rfl
theorem d196_7 : adec m196 7 = some (.aload_n 0, 1) := by decide +kernel
theorem s196_7 {l0 : Nat} {l1 : Int} {l2 : Int} {l3 : Int} {l4 : Int} {x0 : Int} : WP m196 7 [.inr (.inl l0), .inl l1, .inl l2, .inl l3, .inl l4] [.inl x0] σ Q = WP m196 8 [.inr (.inl l0), .inl l1, .inl l2, .inl l3, .inl l4] [.inr (.inl l0), .inl x0] σ Q := w_ld d196_7 rfl
theorem d196_8 : adec m196 8 = some (.getfield 104, 3) := by decide +kernel
theorem s196_8 {l0 : Nat} {l1 : Int} {l2 : Int} {l3 : Int} {l4 : Int} {x0 : Int} : WP m196 8 [.inr (.inl l0), .inl l1, .inl l2, .inl l3, .inl l4] [.inr (.inl 130), .inl x0] σ Q = WP m196 11 [.inr (.inl l0), .inl l1, .inl l2, .inl l3, .inl l4] [.inl (σ 130 7), .inl x0] σ Q := (w_getI (c := 10) (n := 7) d196_8 (by decide +kernel) (by decide +kernel)).trans (g_and (isO_dec (by decide +kernel)))
theorem d196_11 : adec m196 11 = some (.if_icmp .ge (35), 3) := by decide +kernel
theorem s196_11 {l0 : Nat} {l1 : Int} {l2 : Int} {l3 : Int} {l4 : Int} {x0 : Int} {x1 : Int} : WP m196 11 [.inr (.inl l0), .inl l1, .inl l2, .inl l3, .inl l4] [.inl x1, .inl x0] σ Q = (if x1 ≤ x0 then WP m196 46 [.inr (.inl l0), .inl l1, .inl l2, .inl l3, .inl l4] [] σ Q else WP m196 14 [.inr (.inl l0), .inl l1, .inl l2, .inl l3, .inl l4] [] σ Q) := w_icge d196_11 (by decide)
theorem d196_14 : adec m196 14 = some (.iload_n 3, 1) := by decide +kernel
theorem s196_14 {l0 : Nat} {l1 : Int} {l2 : Int} {l3 : Int} {l4 : Int} : WP m196 14 [.inr (.inl l0), .inl l1, .inl l2, .inl l3, .inl l4] [] σ Q = WP m196 15 [.inr (.inl l0), .inl l1, .inl l2, .inl l3, .inl l4] [.inl l3] σ Q := w_ld d196_14 rfl
theorem d196_15 : adec m196 15 = some (.aload_n 0, 1) := by decide +kernel
theorem s196_15 {l0 : Nat} {l1 : Int} {l2 : Int} {l3 : Int} {l4 : Int} {x0 : Int} : WP m196 15 [.inr (.inl l0), .inl l1, .inl l2, .inl l3, .inl l4] [.inl x0] σ Q = WP m196 16 [.inr (.inl l0), .inl l1, .inl l2, .inl l3, .inl l4] [.inr (.inl l0), .inl x0] σ Q := w_ld d196_15 rfl
theorem d196_16 : adec m196 16 = some (.getfield 24, 3) := by decide +kernel
theorem s196_16 {l0 : Nat} {l1 : Int} {l2 : Int} {l3 : Int} {l4 : Int} {x0 : Int} : WP m196 16 [.inr (.inl l0), .inl l1, .inl l2, .inl l3, .inl l4] [.inr (.inl 130), .inl x0] σ Q = WP m196 19 [.inr (.inl l0), .inl l1, .inl l2, .inl l3, .inl l4] [.inr (.inl 134), .inl x0] σ Q := (w_getR (c := 10) (n := 6) d196_16 (by decide +kernel) (by decide +kernel)).trans (g_and ⟨isO_dec (by decide +kernel), by decide +kernel⟩)
theorem d196_19 : adec m196 19 = some (.iload 4, 2) := by decide +kernel
theorem s196_19 {l0 : Nat} {l1 : Int} {l2 : Int} {l3 : Int} {l4 : Int} {x0 : Int} {x1 : Nat} : WP m196 19 [.inr (.inl l0), .inl l1, .inl l2, .inl l3, .inl l4] [.inr (.inl x1), .inl x0] σ Q = WP m196 21 [.inr (.inl l0), .inl l1, .inl l2, .inl l3, .inl l4] [.inl l4, .inr (.inl x1), .inl x0] σ Q := w_ld d196_19 rfl
theorem d196_21 : adec m196 21 = some (.iaload, 1) := by decide +kernel
theorem s196_21 {l0 : Nat} {l1 : Int} {l2 : Int} {l3 : Int} {l4 : Int} {x0 : Int} {x1 : Nat} {x2 : Int} : WP m196 21 [.inr (.inl l0), .inl l1, .inl l2, .inl l3, .inl l4] [.inl x2, .inr (.inl x1), .inl x0] σ Q = ((kdS x1 = 20 ∧ 0 ≤ x2 ∧ x2 < ln x1) ∧ WP m196 22 [.inr (.inl l0), .inl l1, .inl l2, .inl l3, .inl l4] [.inl (σ x1 x2.toNat), .inl x0] σ Q) := w_iald d196_21
theorem d196_22 : adec m196 22 = some (.i2l, 1) := by decide +kernel
theorem s196_22 {l0 : Nat} {l1 : Int} {l2 : Int} {l3 : Int} {l4 : Int} {x0 : Int} {x1 : Int} : WP m196 22 [.inr (.inl l0), .inl l1, .inl l2, .inl l3, .inl l4] [.inl x1, .inl x0] σ Q = WP m196 23 [.inr (.inl l0), .inl l1, .inl l2, .inl l3, .inl l4] [.inr (.inr (.inl x1)), .inl x0] σ Q := w_ld d196_22 rfl
theorem d196_23 : adec m196 23 = some (.iload_n 1, 1) := by decide +kernel
theorem s196_23 {l0 : Nat} {l1 : Int} {l2 : Int} {l3 : Int} {l4 : Int} {x0 : Int} {x1 : Int} : WP m196 23 [.inr (.inl l0), .inl l1, .inl l2, .inl l3, .inl l4] [.inr (.inr (.inl x1)), .inl x0] σ Q = WP m196 24 [.inr (.inl l0), .inl l1, .inl l2, .inl l3, .inl l4] [.inl l1, .inr (.inr (.inl x1)), .inl x0] σ Q := w_ld d196_23 rfl
theorem d196_24 : adec m196 24 = some (.i2l, 1) := by decide +kernel
theorem s196_24 {l0 : Nat} {l1 : Int} {l2 : Int} {l3 : Int} {l4 : Int} {x0 : Int} {x1 : Int} {x2 : Int} : WP m196 24 [.inr (.inl l0), .inl l1, .inl l2, .inl l3, .inl l4] [.inl x2, .inr (.inr (.inl x1)), .inl x0] σ Q = WP m196 25 [.inr (.inl l0), .inl l1, .inl l2, .inl l3, .inl l4] [.inr (.inr (.inl x2)), .inr (.inr (.inl x1)), .inl x0] σ Q := w_ld d196_24 rfl
theorem d196_25 : adec m196 25 = some (.iload_n 2, 1) := by decide +kernel
theorem s196_25 {l0 : Nat} {l1 : Int} {l2 : Int} {l3 : Int} {l4 : Int} {x0 : Int} {x1 : Int} {x2 : Int} : WP m196 25 [.inr (.inl l0), .inl l1, .inl l2, .inl l3, .inl l4] [.inr (.inr (.inl x2)), .inr (.inr (.inl x1)), .inl x0] σ Q = WP m196 26 [.inr (.inl l0), .inl l1, .inl l2, .inl l3, .inl l4] [.inl l2, .inr (.inr (.inl x2)), .inr (.inr (.inl x1)), .inl x0] σ Q := w_ld d196_25 rfl
theorem d196_26 : adec m196 26 = some (.i2l, 1) := by decide +kernel
theorem s196_26 {l0 : Nat} {l1 : Int} {l2 : Int} {l3 : Int} {l4 : Int} {x0 : Int} {x1 : Int} {x2 : Int} {x3 : Int} : WP m196 26 [.inr (.inl l0), .inl l1, .inl l2, .inl l3, .inl l4] [.inl x3, .inr (.inr (.inl x2)), .inr (.inr (.inl x1)), .inl x0] σ Q = WP m196 27 [.inr (.inl l0), .inl l1, .inl l2, .inl l3, .inl l4] [.inr (.inr (.inl x3)), .inr (.inr (.inl x2)), .inr (.inr (.inl x1)), .inl x0] σ Q := w_ld d196_26 rfl
theorem d196_27 : adec m196 27 = some (.invokestatic 88, 3) := by decide +kernel
theorem s196_27 {l0 : Nat} {l1 : Int} {l2 : Int} {l3 : Int} {l4 : Int} {x0 : Int} {x1 : Int} {x2 : Int} {x3 : Int} : WP m196 27 [.inr (.inl l0), .inl l1, .inl l2, .inl l3, .inl l4] [.inr (.inr (.inl x3)), .inr (.inr (.inl x2)), .inr (.inr (.inl x1)), .inl x0] σ Q = CA m127 [.inr (.inr (.inl x1)), .inr (.inr (.inl x2)), .inr (.inr (.inl x3))] σ (fun v σ2 => WP m196 30 [.inr (.inl l0), .inl l1, .inl l2, .inl l3, .inl l4] (v ++ [.inl x0]) σ2 Q) := w_cS (k := 127) d196_27 (by decide +kernel) (md := 1) (by decide +kernel) m127_at rfl rfl ⟨Nat.le_of_ble_eq_true rfl, Nat.le_of_ble_eq_true rfl, Nat.le_of_ble_eq_true rfl⟩ (by decide)
theorem d196_30 : adec m196 30 = some (.ifCond .eq (7), 3) := by decide +kernel
theorem s196_30 {l0 : Nat} {l1 : Int} {l2 : Int} {l3 : Int} {l4 : Int} {x0 : Int} {x1 : Int} : WP m196 30 [.inr (.inl l0), .inl l1, .inl l2, .inl l3, .inl l4] [.inl x1, .inl x0] σ Q = (if x1 = 0 then WP m196 37 [.inr (.inl l0), .inl l1, .inl l2, .inl l3, .inl l4] [.inl x0] σ Q else WP m196 33 [.inr (.inl l0), .inl l1, .inl l2, .inl l3, .inl l4] [.inl x0] σ Q) := w_ifeq d196_30 (by decide)
theorem d196_33 : adec m196 33 = some (.iconst (1), 1) := by decide +kernel
theorem s196_33 {l0 : Nat} {l1 : Int} {l2 : Int} {l3 : Int} {l4 : Int} {x0 : Int} : WP m196 33 [.inr (.inl l0), .inl l1, .inl l2, .inl l3, .inl l4] [.inl x0] σ Q = WP m196 34 [.inr (.inl l0), .inl l1, .inl l2, .inl l3, .inl l4] [.inl (1), .inl x0] σ Q := w_iconst d196_33 (by decide)
theorem d196_34 : adec m196 34 = some (.goto (4), 3) := by decide +kernel
theorem s196_34 {l0 : Nat} {l1 : Int} {l2 : Int} {l3 : Int} {l4 : Int} {x0 : Int} {x1 : Int} : WP m196 34 [.inr (.inl l0), .inl l1, .inl l2, .inl l3, .inl l4] [.inl x1, .inl x0] σ Q = WP m196 38 [.inr (.inl l0), .inl l1, .inl l2, .inl l3, .inl l4] [.inl x1, .inl x0] σ Q := w_goto d196_34 (by decide)
theorem d196_37 : adec m196 37 = some (.iconst (0), 1) := by decide +kernel
theorem s196_37 {l0 : Nat} {l1 : Int} {l2 : Int} {l3 : Int} {l4 : Int} {x0 : Int} : WP m196 37 [.inr (.inl l0), .inl l1, .inl l2, .inl l3, .inl l4] [.inl x0] σ Q = WP m196 38 [.inr (.inl l0), .inl l1, .inl l2, .inl l3, .inl l4] [.inl (0), .inl x0] σ Q := w_iconst d196_37 (by decide)
theorem d196_38 : adec m196 38 = some (.iadd, 1) := by decide +kernel
theorem s196_38 {l0 : Nat} {l1 : Int} {l2 : Int} {l3 : Int} {l4 : Int} {x0 : Int} {x1 : Int} : WP m196 38 [.inr (.inl l0), .inl l1, .inl l2, .inl l3, .inl l4] [.inl x1, .inl x0] σ Q = (inI (x0 + x1) ∧ WP m196 39 [.inr (.inl l0), .inl l1, .inl l2, .inl l3, .inl l4] [.inl (x0 + x1)] σ Q) := w_iadd d196_38
theorem d196_39 : adec m196 39 = some (.istore_n 3, 1) := by decide +kernel
theorem s196_39 {l0 : Nat} {l1 : Int} {l2 : Int} {l3 : Int} {l4 : Int} {x0 : Int} : WP m196 39 [.inr (.inl l0), .inl l1, .inl l2, .inl l3, .inl l4] [.inl x0] σ Q = WP m196 40 [.inr (.inl l0), .inl l1, .inl l2, .inl x0, .inl l4] [] σ Q := w_st1 (j := 3) d196_39 rfl (Nat.le_of_ble_eq_true rfl) rfl
theorem d196_40 : adec m196 40 = some (.iinc 4 (1), 3) := by decide +kernel
theorem s196_40 {l0 : Nat} {l1 : Int} {l2 : Int} {l3 : Int} {l4 : Int} : WP m196 40 [.inr (.inl l0), .inl l1, .inl l2, .inl l3, .inl l4] [] σ Q = (inI (l4 + (1)) ∧ WP m196 43 [.inr (.inl l0), .inl l1, .inl l2, .inl l3, .inl (l4 + (1))] [] σ Q) := w_iinc d196_40 rfl rfl
theorem d196_43 : adec m196 43 = some (.goto (-38), 3) := by decide +kernel
theorem s196_43 {l0 : Nat} {l1 : Int} {l2 : Int} {l3 : Int} {l4 : Int} : WP m196 43 [.inr (.inl l0), .inl l1, .inl l2, .inl l3, .inl l4] [] σ Q = WP m196 5 [.inr (.inl l0), .inl l1, .inl l2, .inl l3, .inl l4] [] σ Q := w_goto d196_43 (by decide)
theorem d196_46 : adec m196 46 = some (.iload_n 3, 1) := by decide +kernel
theorem s196_46 {l0 : Nat} {l1 : Int} {l2 : Int} {l3 : Int} {l4 : Int} : WP m196 46 [.inr (.inl l0), .inl l1, .inl l2, .inl l3, .inl l4] [] σ Q = WP m196 47 [.inr (.inl l0), .inl l1, .inl l2, .inl l3, .inl l4] [.inl l3] σ Q := w_ld d196_46 rfl
theorem d196_47 : adec m196 47 = some (.ireturn, 1) := by decide +kernel
theorem s196_47 {l0 : Nat} {l1 : Int} {l2 : Int} {l3 : Int} {l4 : Int} {x0 : Int} : WP m196 47 [.inr (.inl l0), .inl l1, .inl l2, .inl l3, .inl l4] [.inl x0] σ Q = Q [.inl x0] σ := w_ri d196_47 rfl
theorem e196 {p0 : Nat} {p1 : Int} {p2 : Int} : CA m196 [.inr (.inl p0), .inl p1, .inl p2] σ Q = WP m196 0 [.inr (.inl p0), .inl p1, .inl p2, vU, vU] [] σ Q := rfl
-- BinderPressModel.deepest()I
theorem d197_0 : adec m197 0 = some (.iconst (0), 1) := by decide +kernel
theorem s197_0 {l0 : Nat} {l1 : AV} {l2 : AV} {l3 : AV} : WP m197 0 [.inr (.inl l0), l1, l2, l3] [] σ Q = WP m197 1 [.inr (.inl l0), l1, l2, l3] [.inl (0)] σ Q := w_iconst d197_0 (by decide)
theorem d197_1 : adec m197 1 = some (.istore_n 1, 1) := by decide +kernel
theorem s197_1 {l0 : Nat} {l1 : AV} {l2 : AV} {l3 : AV} {x0 : Int} : WP m197 1 [.inr (.inl l0), l1, l2, l3] [.inl x0] σ Q = WP m197 2 [.inr (.inl l0), .inl x0, l2, l3] [] σ Q := w_st1 (j := 1) d197_1 rfl (Nat.le_of_ble_eq_true rfl) rfl
theorem d197_2 : adec m197 2 = some (.aload_n 0, 1) := by decide +kernel
theorem s197_2 {l0 : Nat} {l1 : Int} {l2 : AV} {l3 : AV} : WP m197 2 [.inr (.inl l0), .inl l1, l2, l3] [] σ Q = WP m197 3 [.inr (.inl l0), .inl l1, l2, l3] [.inr (.inl l0)] σ Q := w_ld d197_2 rfl
theorem d197_3 : adec m197 3 = some (.iconst (0), 1) := by decide +kernel
theorem s197_3 {l0 : Nat} {l1 : Int} {l2 : AV} {l3 : AV} {x0 : Nat} : WP m197 3 [.inr (.inl l0), .inl l1, l2, l3] [.inr (.inl x0)] σ Q = WP m197 4 [.inr (.inl l0), .inl l1, l2, l3] [.inl (0), .inr (.inl x0)] σ Q := w_iconst d197_3 (by decide)
theorem d197_4 : adec m197 4 = some (.putfield 94, 3) := by decide +kernel
theorem s197_4 {l0 : Nat} {l1 : Int} {l2 : AV} {l3 : AV} {x1 : Int} : WP m197 4 [.inr (.inl l0), .inl l1, l2, l3] [.inl x1, .inr (.inl 130)] σ Q = WP m197 7 [.inr (.inl l0), .inl l1, l2, l3] [] (aup σ 130 11 x1) Q := (w_putI (c := 10) (n := 11) d197_4 (by decide +kernel) (by decide +kernel) (by decide +kernel)).trans (g_and (isO_dec (by decide +kernel)))
theorem d197_7 : adec m197 7 = some (.aload_n 0, 1) := by decide +kernel
theorem s197_7 {l0 : Nat} {l1 : Int} {l2 : AV} {l3 : AV} : WP m197 7 [.inr (.inl l0), .inl l1, l2, l3] [] σ Q = WP m197 8 [.inr (.inl l0), .inl l1, l2, l3] [.inr (.inl l0)] σ Q := w_ld d197_7 rfl
theorem d197_8 : adec m197 8 = some (.iconst (1), 1) := by decide +kernel
theorem s197_8 {l0 : Nat} {l1 : Int} {l2 : AV} {l3 : AV} {x0 : Nat} : WP m197 8 [.inr (.inl l0), .inl l1, l2, l3] [.inr (.inl x0)] σ Q = WP m197 9 [.inr (.inl l0), .inl l1, l2, l3] [.inl (1), .inr (.inl x0)] σ Q := w_iconst d197_8 (by decide)
theorem d197_9 : adec m197 9 = some (.invokevirtual 172, 3) := by decide +kernel
theorem s197_9 {l0 : Nat} {l1 : Int} {l2 : AV} {l3 : AV} {x1 : Int} : WP m197 9 [.inr (.inl l0), .inl l1, l2, l3] [.inl x1, .inr (.inl 130)] σ Q = CA m132 [.inr (.inl 130), .inl x1] σ (fun v σ2 => WP m197 12 [.inr (.inl l0), .inl l1, l2, l3] (v ++ []) σ2 Q) := (w_cV (k := 132) d197_9 (by decide +kernel) m132_at rfl rfl ⟨Nat.le_of_ble_eq_true rfl, Nat.le_of_ble_eq_true rfl, Nat.le_of_ble_eq_true rfl⟩ (by decide)).trans (g_and (isO_dec (by decide +kernel)))
theorem d197_12 : adec m197 12 = some (.iconst (0), 1) := by decide +kernel
theorem s197_12 {l0 : Nat} {l1 : Int} {l2 : AV} {l3 : AV} : WP m197 12 [.inr (.inl l0), .inl l1, l2, l3] [] σ Q = WP m197 13 [.inr (.inl l0), .inl l1, l2, l3] [.inl (0)] σ Q := w_iconst d197_12 (by decide)
theorem d197_13 : adec m197 13 = some (.istore_n 2, 1) := by decide +kernel
theorem s197_13 {l0 : Nat} {l1 : Int} {l2 : AV} {l3 : AV} {x0 : Int} : WP m197 13 [.inr (.inl l0), .inl l1, l2, l3] [.inl x0] σ Q = WP m197 14 [.inr (.inl l0), .inl l1, .inl x0, l3] [] σ Q := w_st1 (j := 2) d197_13 rfl (Nat.le_of_ble_eq_true rfl) rfl
theorem d197_14 : adec m197 14 = some (.iload_n 2, 1) := by decide +kernel
theorem s197_14 {l0 : Nat} {l1 : Int} {l2 : Int} {l3 : AV} : WP m197 14 [.inr (.inl l0), .inl l1, .inl l2, l3] [] σ Q = WP m197 15 [.inr (.inl l0), .inl l1, .inl l2, l3] [.inl l2] σ Q := w_ld d197_14 rfl
theorem d197_15 : adec m197 15 = some (.aload_n 0, 1) := by decide +kernel
theorem s197_15 {l0 : Nat} {l1 : Int} {l2 : Int} {l3 : AV} {x0 : Int} : WP m197 15 [.inr (.inl l0), .inl l1, .inl l2, l3] [.inl x0] σ Q = WP m197 16 [.inr (.inl l0), .inl l1, .inl l2, l3] [.inr (.inl l0), .inl x0] σ Q := w_ld d197_15 rfl
theorem d197_16 : adec m197 16 = some (.getfield 104, 3) := by decide +kernel
theorem s197_16 {l0 : Nat} {l1 : Int} {l2 : Int} {l3 : AV} {x0 : Int} : WP m197 16 [.inr (.inl l0), .inl l1, .inl l2, l3] [.inr (.inl 130), .inl x0] σ Q = WP m197 19 [.inr (.inl l0), .inl l1, .inl l2, l3] [.inl (σ 130 7), .inl x0] σ Q := (w_getI (c := 10) (n := 7) d197_16 (by decide +kernel) (by decide +kernel)).trans (g_and (isO_dec (by decide +kernel)))
theorem d197_19 : adec m197 19 = some (.if_icmp .ge (70), 3) := by decide +kernel
theorem s197_19 {l0 : Nat} {l1 : Int} {l2 : Int} {l3 : AV} {x0 : Int} {x1 : Int} : WP m197 19 [.inr (.inl l0), .inl l1, .inl l2, l3] [.inl x1, .inl x0] σ Q = (if x1 ≤ x0 then WP m197 89 [.inr (.inl l0), .inl l1, .inl l2, l3] [] σ Q else WP m197 22 [.inr (.inl l0), .inl l1, .inl l2, l3] [] σ Q) := w_icge d197_19 (by decide)
theorem d197_22 : adec m197 22 = some (.aload_n 0, 1) := by decide +kernel
theorem s197_22 {l0 : Nat} {l1 : Int} {l2 : Int} {l3 : AV} : WP m197 22 [.inr (.inl l0), .inl l1, .inl l2, l3] [] σ Q = WP m197 23 [.inr (.inl l0), .inl l1, .inl l2, l3] [.inr (.inl l0)] σ Q := w_ld d197_22 rfl
theorem d197_23 : adec m197 23 = some (.invokevirtual 175, 3) := by decide +kernel
theorem s197_23 {l0 : Nat} {l1 : Int} {l2 : Int} {l3 : AV} : WP m197 23 [.inr (.inl l0), .inl l1, .inl l2, l3] [.inr (.inl 130)] σ Q = CA m133 [.inr (.inl 130)] σ (fun v σ2 => WP m197 26 [.inr (.inl l0), .inl l1, .inl l2, l3] (v ++ []) σ2 Q) := (w_cV (k := 133) d197_23 (by decide +kernel) m133_at rfl rfl ⟨Nat.le_of_ble_eq_true rfl, Nat.le_of_ble_eq_true rfl, Nat.le_of_ble_eq_true rfl⟩ (by decide)).trans (g_and (isO_dec (by decide +kernel)))
theorem d197_26 : adec m197 26 = some (.istore_n 3, 1) := by decide +kernel
theorem s197_26 {l0 : Nat} {l1 : Int} {l2 : Int} {l3 : AV} {x0 : Int} : WP m197 26 [.inr (.inl l0), .inl l1, .inl l2, l3] [.inl x0] σ Q = WP m197 27 [.inr (.inl l0), .inl l1, .inl l2, .inl x0] [] σ Q := w_st1 (j := 3) d197_26 rfl (Nat.le_of_ble_eq_true rfl) rfl
theorem d197_27 : adec m197 27 = some (.iload_n 3, 1) := by decide +kernel
theorem s197_27 {l0 : Nat} {l1 : Int} {l2 : Int} {l3 : Int} : WP m197 27 [.inr (.inl l0), .inl l1, .inl l2, .inl l3] [] σ Q = WP m197 28 [.inr (.inl l0), .inl l1, .inl l2, .inl l3] [.inl l3] σ Q := w_ld d197_27 rfl
theorem d197_28 : adec m197 28 = some (.iload_n 1, 1) := by decide +kernel
theorem s197_28 {l0 : Nat} {l1 : Int} {l2 : Int} {l3 : Int} {x0 : Int} : WP m197 28 [.inr (.inl l0), .inl l1, .inl l2, .inl l3] [.inl x0] σ Q = WP m197 29 [.inr (.inl l0), .inl l1, .inl l2, .inl l3] [.inl l1, .inl x0] σ Q := w_ld d197_28 rfl
theorem d197_29 : adec m197 29 = some (.if_icmp .le (7), 3) := by decide +kernel
theorem s197_29 {l0 : Nat} {l1 : Int} {l2 : Int} {l3 : Int} {x0 : Int} {x1 : Int} : WP m197 29 [.inr (.inl l0), .inl l1, .inl l2, .inl l3] [.inl x1, .inl x0] σ Q = (if x0 ≤ x1 then WP m197 36 [.inr (.inl l0), .inl l1, .inl l2, .inl l3] [] σ Q else WP m197 32 [.inr (.inl l0), .inl l1, .inl l2, .inl l3] [] σ Q) := w_icle d197_29 (by decide)
theorem d197_32 : adec m197 32 = some (.iload_n 3, 1) := by decide +kernel
theorem s197_32 {l0 : Nat} {l1 : Int} {l2 : Int} {l3 : Int} : WP m197 32 [.inr (.inl l0), .inl l1, .inl l2, .inl l3] [] σ Q = WP m197 33 [.inr (.inl l0), .inl l1, .inl l2, .inl l3] [.inl l3] σ Q := w_ld d197_32 rfl
theorem d197_33 : adec m197 33 = some (.goto (4), 3) := by decide +kernel
theorem s197_33 {l0 : Nat} {l1 : Int} {l2 : Int} {l3 : Int} {x0 : Int} : WP m197 33 [.inr (.inl l0), .inl l1, .inl l2, .inl l3] [.inl x0] σ Q = WP m197 37 [.inr (.inl l0), .inl l1, .inl l2, .inl l3] [.inl x0] σ Q := w_goto d197_33 (by decide)
theorem d197_36 : adec m197 36 = some (.iload_n 1, 1) := by decide +kernel
theorem s197_36 {l0 : Nat} {l1 : Int} {l2 : Int} {l3 : Int} : WP m197 36 [.inr (.inl l0), .inl l1, .inl l2, .inl l3] [] σ Q = WP m197 37 [.inr (.inl l0), .inl l1, .inl l2, .inl l3] [.inl l1] σ Q := w_ld d197_36 rfl
theorem d197_37 : adec m197 37 = some (.istore_n 1, 1) := by decide +kernel
theorem s197_37 {l0 : Nat} {l1 : Int} {l2 : Int} {l3 : Int} {x0 : Int} : WP m197 37 [.inr (.inl l0), .inl l1, .inl l2, .inl l3] [.inl x0] σ Q = WP m197 38 [.inr (.inl l0), .inl x0, .inl l2, .inl l3] [] σ Q := w_st1 (j := 1) d197_37 rfl (Nat.le_of_ble_eq_true rfl) rfl
theorem d197_38 : adec m197 38 = some (.aload_n 0, 1) := by decide +kernel
theorem s197_38 {l0 : Nat} {l1 : Int} {l2 : Int} {l3 : Int} : WP m197 38 [.inr (.inl l0), .inl l1, .inl l2, .inl l3] [] σ Q = WP m197 39 [.inr (.inl l0), .inl l1, .inl l2, .inl l3] [.inr (.inl l0)] σ Q := w_ld d197_38 rfl
theorem d197_39 : adec m197 39 = some (.getfield 24, 3) := by decide +kernel
theorem s197_39 {l0 : Nat} {l1 : Int} {l2 : Int} {l3 : Int} : WP m197 39 [.inr (.inl l0), .inl l1, .inl l2, .inl l3] [.inr (.inl 130)] σ Q = WP m197 42 [.inr (.inl l0), .inl l1, .inl l2, .inl l3] [.inr (.inl 134)] σ Q := (w_getR (c := 10) (n := 6) d197_39 (by decide +kernel) (by decide +kernel)).trans (g_and ⟨isO_dec (by decide +kernel), by decide +kernel⟩)
theorem d197_42 : adec m197 42 = some (.iload_n 2, 1) := by decide +kernel
theorem s197_42 {l0 : Nat} {l1 : Int} {l2 : Int} {l3 : Int} {x0 : Nat} : WP m197 42 [.inr (.inl l0), .inl l1, .inl l2, .inl l3] [.inr (.inl x0)] σ Q = WP m197 43 [.inr (.inl l0), .inl l1, .inl l2, .inl l3] [.inl l2, .inr (.inl x0)] σ Q := w_ld d197_42 rfl
theorem d197_43 : adec m197 43 = some (.iaload, 1) := by decide +kernel
theorem s197_43 {l0 : Nat} {l1 : Int} {l2 : Int} {l3 : Int} {x0 : Nat} {x1 : Int} : WP m197 43 [.inr (.inl l0), .inl l1, .inl l2, .inl l3] [.inl x1, .inr (.inl x0)] σ Q = ((kdS x0 = 20 ∧ 0 ≤ x1 ∧ x1 < ln x0) ∧ WP m197 44 [.inr (.inl l0), .inl l1, .inl l2, .inl l3] [.inl (σ x0 x1.toNat)] σ Q) := w_iald d197_43
theorem d197_44 : adec m197 44 = some (.ifCond .ne (20), 3) := by decide +kernel
theorem s197_44 {l0 : Nat} {l1 : Int} {l2 : Int} {l3 : Int} {x0 : Int} : WP m197 44 [.inr (.inl l0), .inl l1, .inl l2, .inl l3] [.inl x0] σ Q = (if x0 = 0 then WP m197 47 [.inr (.inl l0), .inl l1, .inl l2, .inl l3] [] σ Q else WP m197 64 [.inr (.inl l0), .inl l1, .inl l2, .inl l3] [] σ Q) := w_ifne d197_44 (by decide)
theorem d197_47 : adec m197 47 = some (.aload_n 0, 1) := by decide +kernel
theorem s197_47 {l0 : Nat} {l1 : Int} {l2 : Int} {l3 : Int} : WP m197 47 [.inr (.inl l0), .inl l1, .inl l2, .inl l3] [] σ Q = WP m197 48 [.inr (.inl l0), .inl l1, .inl l2, .inl l3] [.inr (.inl l0)] σ Q := w_ld d197_47 rfl
theorem d197_48 : adec m197 48 = some (.iload_n 3, 1) := by decide +kernel
theorem s197_48 {l0 : Nat} {l1 : Int} {l2 : Int} {l3 : Int} {x0 : Nat} : WP m197 48 [.inr (.inl l0), .inl l1, .inl l2, .inl l3] [.inr (.inl x0)] σ Q = WP m197 49 [.inr (.inl l0), .inl l1, .inl l2, .inl l3] [.inl l3, .inr (.inl x0)] σ Q := w_ld d197_48 rfl
theorem d197_49 : adec m197 49 = some (.iconst (1), 1) := by decide +kernel
theorem s197_49 {l0 : Nat} {l1 : Int} {l2 : Int} {l3 : Int} {x0 : Nat} {x1 : Int} : WP m197 49 [.inr (.inl l0), .inl l1, .inl l2, .inl l3] [.inl x1, .inr (.inl x0)] σ Q = WP m197 50 [.inr (.inl l0), .inl l1, .inl l2, .inl l3] [.inl (1), .inl x1, .inr (.inl x0)] σ Q := w_iconst d197_49 (by decide)
theorem d197_50 : adec m197 50 = some (.iadd, 1) := by decide +kernel
theorem s197_50 {l0 : Nat} {l1 : Int} {l2 : Int} {l3 : Int} {x0 : Nat} {x1 : Int} {x2 : Int} : WP m197 50 [.inr (.inl l0), .inl l1, .inl l2, .inl l3] [.inl x2, .inl x1, .inr (.inl x0)] σ Q = (inI (x1 + x2) ∧ WP m197 51 [.inr (.inl l0), .inl l1, .inl l2, .inl l3] [.inl (x1 + x2), .inr (.inl x0)] σ Q) := w_iadd d197_50
theorem d197_51 : adec m197 51 = some (.invokevirtual 172, 3) := by decide +kernel
theorem s197_51 {l0 : Nat} {l1 : Int} {l2 : Int} {l3 : Int} {x1 : Int} : WP m197 51 [.inr (.inl l0), .inl l1, .inl l2, .inl l3] [.inl x1, .inr (.inl 130)] σ Q = CA m132 [.inr (.inl 130), .inl x1] σ (fun v σ2 => WP m197 54 [.inr (.inl l0), .inl l1, .inl l2, .inl l3] (v ++ []) σ2 Q) := (w_cV (k := 132) d197_51 (by decide +kernel) m132_at rfl rfl ⟨Nat.le_of_ble_eq_true rfl, Nat.le_of_ble_eq_true rfl, Nat.le_of_ble_eq_true rfl⟩ (by decide)).trans (g_and (isO_dec (by decide +kernel)))
theorem d197_54 : adec m197 54 = some (.aload_n 0, 1) := by decide +kernel
theorem s197_54 {l0 : Nat} {l1 : Int} {l2 : Int} {l3 : Int} : WP m197 54 [.inr (.inl l0), .inl l1, .inl l2, .inl l3] [] σ Q = WP m197 55 [.inr (.inl l0), .inl l1, .inl l2, .inl l3] [.inr (.inl l0)] σ Q := w_ld d197_54 rfl
theorem d197_55 : adec m197 55 = some (.iload_n 3, 1) := by decide +kernel
theorem s197_55 {l0 : Nat} {l1 : Int} {l2 : Int} {l3 : Int} {x0 : Nat} : WP m197 55 [.inr (.inl l0), .inl l1, .inl l2, .inl l3] [.inr (.inl x0)] σ Q = WP m197 56 [.inr (.inl l0), .inl l1, .inl l2, .inl l3] [.inl l3, .inr (.inl x0)] σ Q := w_ld d197_55 rfl
theorem d197_56 : adec m197 56 = some (.iconst (1), 1) := by decide +kernel
theorem s197_56 {l0 : Nat} {l1 : Int} {l2 : Int} {l3 : Int} {x0 : Nat} {x1 : Int} : WP m197 56 [.inr (.inl l0), .inl l1, .inl l2, .inl l3] [.inl x1, .inr (.inl x0)] σ Q = WP m197 57 [.inr (.inl l0), .inl l1, .inl l2, .inl l3] [.inl (1), .inl x1, .inr (.inl x0)] σ Q := w_iconst d197_56 (by decide)
theorem d197_57 : adec m197 57 = some (.iadd, 1) := by decide +kernel
theorem s197_57 {l0 : Nat} {l1 : Int} {l2 : Int} {l3 : Int} {x0 : Nat} {x1 : Int} {x2 : Int} : WP m197 57 [.inr (.inl l0), .inl l1, .inl l2, .inl l3] [.inl x2, .inl x1, .inr (.inl x0)] σ Q = (inI (x1 + x2) ∧ WP m197 58 [.inr (.inl l0), .inl l1, .inl l2, .inl l3] [.inl (x1 + x2), .inr (.inl x0)] σ Q) := w_iadd d197_57
theorem d197_58 : adec m197 58 = some (.invokevirtual 172, 3) := by decide +kernel
theorem s197_58 {l0 : Nat} {l1 : Int} {l2 : Int} {l3 : Int} {x1 : Int} : WP m197 58 [.inr (.inl l0), .inl l1, .inl l2, .inl l3] [.inl x1, .inr (.inl 130)] σ Q = CA m132 [.inr (.inl 130), .inl x1] σ (fun v σ2 => WP m197 61 [.inr (.inl l0), .inl l1, .inl l2, .inl l3] (v ++ []) σ2 Q) := (w_cV (k := 132) d197_58 (by decide +kernel) m132_at rfl rfl ⟨Nat.le_of_ble_eq_true rfl, Nat.le_of_ble_eq_true rfl, Nat.le_of_ble_eq_true rfl⟩ (by decide)).trans (g_and (isO_dec (by decide +kernel)))
theorem d197_61 : adec m197 61 = some (.goto (22), 3) := by decide +kernel
theorem s197_61 {l0 : Nat} {l1 : Int} {l2 : Int} {l3 : Int} : WP m197 61 [.inr (.inl l0), .inl l1, .inl l2, .inl l3] [] σ Q = WP m197 83 [.inr (.inl l0), .inl l1, .inl l2, .inl l3] [] σ Q := w_goto d197_61 (by decide)
theorem d197_64 : adec m197 64 = some (.aload_n 0, 1) := by decide +kernel
theorem s197_64 {l0 : Nat} {l1 : Int} {l2 : Int} {l3 : Int} : WP m197 64 [.inr (.inl l0), .inl l1, .inl l2, .inl l3] [] σ Q = WP m197 65 [.inr (.inl l0), .inl l1, .inl l2, .inl l3] [.inr (.inl l0)] σ Q := w_ld d197_64 rfl
theorem d197_65 : adec m197 65 = some (.getfield 24, 3) := by decide +kernel
theorem s197_65 {l0 : Nat} {l1 : Int} {l2 : Int} {l3 : Int} : WP m197 65 [.inr (.inl l0), .inl l1, .inl l2, .inl l3] [.inr (.inl 130)] σ Q = WP m197 68 [.inr (.inl l0), .inl l1, .inl l2, .inl l3] [.inr (.inl 134)] σ Q := (w_getR (c := 10) (n := 6) d197_65 (by decide +kernel) (by decide +kernel)).trans (g_and ⟨isO_dec (by decide +kernel), by decide +kernel⟩)
theorem d197_68 : adec m197 68 = some (.iload_n 2, 1) := by decide +kernel
theorem s197_68 {l0 : Nat} {l1 : Int} {l2 : Int} {l3 : Int} {x0 : Nat} : WP m197 68 [.inr (.inl l0), .inl l1, .inl l2, .inl l3] [.inr (.inl x0)] σ Q = WP m197 69 [.inr (.inl l0), .inl l1, .inl l2, .inl l3] [.inl l2, .inr (.inl x0)] σ Q := w_ld d197_68 rfl
theorem d197_69 : adec m197 69 = some (.iaload, 1) := by decide +kernel
theorem s197_69 {l0 : Nat} {l1 : Int} {l2 : Int} {l3 : Int} {x0 : Nat} {x1 : Int} : WP m197 69 [.inr (.inl l0), .inl l1, .inl l2, .inl l3] [.inl x1, .inr (.inl x0)] σ Q = ((kdS x0 = 20 ∧ 0 ≤ x1 ∧ x1 < ln x0) ∧ WP m197 70 [.inr (.inl l0), .inl l1, .inl l2, .inl l3] [.inl (σ x0 x1.toNat)] σ Q) := w_iald d197_69
theorem d197_70 : adec m197 70 = some (.invokestatic 162, 3) := by decide +kernel
theorem s197_70 {l0 : Nat} {l1 : Int} {l2 : Int} {l3 : Int} {x0 : Int} : WP m197 70 [.inr (.inl l0), .inl l1, .inl l2, .inl l3] [.inl x0] σ Q = CA m129 [.inl x0] σ (fun v σ2 => WP m197 73 [.inr (.inl l0), .inl l1, .inl l2, .inl l3] (v ++ []) σ2 Q) := w_cS (k := 129) d197_70 (by decide +kernel) (md := 1) (by decide +kernel) m129_at rfl rfl ⟨Nat.le_of_ble_eq_true rfl, Nat.le_of_ble_eq_true rfl, Nat.le_of_ble_eq_true rfl⟩ (by decide)
theorem d197_73 : adec m197 73 = some (.ifCond .eq (10), 3) := by decide +kernel
theorem s197_73 {l0 : Nat} {l1 : Int} {l2 : Int} {l3 : Int} {x0 : Int} : WP m197 73 [.inr (.inl l0), .inl l1, .inl l2, .inl l3] [.inl x0] σ Q = (if x0 = 0 then WP m197 83 [.inr (.inl l0), .inl l1, .inl l2, .inl l3] [] σ Q else WP m197 76 [.inr (.inl l0), .inl l1, .inl l2, .inl l3] [] σ Q) := w_ifeq d197_73 (by decide)
theorem d197_76 : adec m197 76 = some (.aload_n 0, 1) := by decide +kernel
theorem s197_76 {l0 : Nat} {l1 : Int} {l2 : Int} {l3 : Int} : WP m197 76 [.inr (.inl l0), .inl l1, .inl l2, .inl l3] [] σ Q = WP m197 77 [.inr (.inl l0), .inl l1, .inl l2, .inl l3] [.inr (.inl l0)] σ Q := w_ld d197_76 rfl
theorem d197_77 : adec m197 77 = some (.iload_n 3, 1) := by decide +kernel
theorem s197_77 {l0 : Nat} {l1 : Int} {l2 : Int} {l3 : Int} {x0 : Nat} : WP m197 77 [.inr (.inl l0), .inl l1, .inl l2, .inl l3] [.inr (.inl x0)] σ Q = WP m197 78 [.inr (.inl l0), .inl l1, .inl l2, .inl l3] [.inl l3, .inr (.inl x0)] σ Q := w_ld d197_77 rfl
theorem d197_78 : adec m197 78 = some (.iconst (1), 1) := by decide +kernel
theorem s197_78 {l0 : Nat} {l1 : Int} {l2 : Int} {l3 : Int} {x0 : Nat} {x1 : Int} : WP m197 78 [.inr (.inl l0), .inl l1, .inl l2, .inl l3] [.inl x1, .inr (.inl x0)] σ Q = WP m197 79 [.inr (.inl l0), .inl l1, .inl l2, .inl l3] [.inl (1), .inl x1, .inr (.inl x0)] σ Q := w_iconst d197_78 (by decide)
theorem d197_79 : adec m197 79 = some (.iadd, 1) := by decide +kernel
theorem s197_79 {l0 : Nat} {l1 : Int} {l2 : Int} {l3 : Int} {x0 : Nat} {x1 : Int} {x2 : Int} : WP m197 79 [.inr (.inl l0), .inl l1, .inl l2, .inl l3] [.inl x2, .inl x1, .inr (.inl x0)] σ Q = (inI (x1 + x2) ∧ WP m197 80 [.inr (.inl l0), .inl l1, .inl l2, .inl l3] [.inl (x1 + x2), .inr (.inl x0)] σ Q) := w_iadd d197_79
theorem d197_80 : adec m197 80 = some (.invokevirtual 172, 3) := by decide +kernel
theorem s197_80 {l0 : Nat} {l1 : Int} {l2 : Int} {l3 : Int} {x1 : Int} : WP m197 80 [.inr (.inl l0), .inl l1, .inl l2, .inl l3] [.inl x1, .inr (.inl 130)] σ Q = CA m132 [.inr (.inl 130), .inl x1] σ (fun v σ2 => WP m197 83 [.inr (.inl l0), .inl l1, .inl l2, .inl l3] (v ++ []) σ2 Q) := (w_cV (k := 132) d197_80 (by decide +kernel) m132_at rfl rfl ⟨Nat.le_of_ble_eq_true rfl, Nat.le_of_ble_eq_true rfl, Nat.le_of_ble_eq_true rfl⟩ (by decide)).trans (g_and (isO_dec (by decide +kernel)))
theorem d197_83 : adec m197 83 = some (.iinc 2 (1), 3) := by decide +kernel
theorem s197_83 {l0 : Nat} {l1 : Int} {l2 : Int} {l3 : Int} : WP m197 83 [.inr (.inl l0), .inl l1, .inl l2, .inl l3] [] σ Q = (inI (l2 + (1)) ∧ WP m197 86 [.inr (.inl l0), .inl l1, .inl (l2 + (1)), .inl l3] [] σ Q) := w_iinc d197_83 rfl rfl
theorem d197_86 : adec m197 86 = some (.goto (-72), 3) := by decide +kernel
theorem s197_86 {l0 : Nat} {l1 : Int} {l2 : Int} {l3 : Int} : WP m197 86 [.inr (.inl l0), .inl l1, .inl l2, .inl l3] [] σ Q = WP m197 14 [.inr (.inl l0), .inl l1, .inl l2, .inl l3] [] σ Q := w_goto d197_86 (by decide)
theorem d197_89 : adec m197 89 = some (.iload_n 1, 1) := by decide +kernel
theorem s197_89 {l0 : Nat} {l1 : Int} {l2 : Int} {l3 : AV} : WP m197 89 [.inr (.inl l0), .inl l1, .inl l2, l3] [] σ Q = WP m197 90 [.inr (.inl l0), .inl l1, .inl l2, l3] [.inl l1] σ Q := w_ld d197_89 rfl
theorem d197_90 : adec m197 90 = some (.ireturn, 1) := by decide +kernel
theorem s197_90 {l0 : Nat} {l1 : Int} {l2 : Int} {l3 : AV} {x0 : Int} : WP m197 90 [.inr (.inl l0), .inl l1, .inl l2, l3] [.inl x0] σ Q = Q [.inl x0] σ := w_ri d197_90 rfl
theorem e197 {p0 : Nat} : CA m197 [.inr (.inl p0)] σ Q = WP m197 0 [.inr (.inl p0), vU, vU, vU] [] σ Q := rfl
-- BinderPressModel.of(II)I
theorem d198_0 : adec m198 0 = some (.iload_n 1, 1) := by decide +kernel
theorem s198_0 {l0 : Nat} {l1 : Int} {l2 : Int} : WP m198 0 [.inr (.inl l0), .inl l1, .inl l2] [] σ Q = WP m198 1 [.inr (.inl l0), .inl l1, .inl l2] [.inl l1] σ Q := w_ld d198_0 rfl
theorem d198_1 : adec m198 1 = some (.invokestatic 152, 3) := by decide +kernel
theorem s198_1 {l0 : Nat} {l1 : Int} {l2 : Int} {x0 : Int} : WP m198 1 [.inr (.inl l0), .inl l1, .inl l2] [.inl x0] σ Q = CA m130 [.inl x0] σ (fun v σ2 => WP m198 4 [.inr (.inl l0), .inl l1, .inl l2] (v ++ []) σ2 Q) := w_cS (k := 130) d198_1 (by decide +kernel) (md := 1) (by decide +kernel) m130_at rfl rfl ⟨Nat.le_of_ble_eq_true rfl, Nat.le_of_ble_eq_true rfl, Nat.le_of_ble_eq_true rfl⟩ (by decide)
theorem d198_4 : adec m198 4 = some (.ifCond .ne (6), 3) := by decide +kernel
theorem s198_4 {l0 : Nat} {l1 : Int} {l2 : Int} {x0 : Int} : WP m198 4 [.inr (.inl l0), .inl l1, .inl l2] [.inl x0] σ Q = (if x0 = 0 then WP m198 7 [.inr (.inl l0), .inl l1, .inl l2] [] σ Q else WP m198 10 [.inr (.inl l0), .inl l1, .inl l2] [] σ Q) := w_ifne d198_4 (by decide)
theorem d198_7 : adec m198 7 = some (.ldc 155, 2) := by decide +kernel
theorem s198_7 {l0 : Nat} {l1 : Int} {l2 : Int} : WP m198 7 [.inr (.inl l0), .inl l1, .inl l2] [] σ Q = WP m198 9 [.inr (.inl l0), .inl l1, .inl l2] [.inl (-1000000001)] σ Q := w_ldc d198_7 (by decide +kernel) (by decide)
theorem d198_9 : adec m198 9 = some (.ireturn, 1) := by decide +kernel
theorem s198_9 {l0 : Nat} {l1 : Int} {l2 : Int} {x0 : Int} : WP m198 9 [.inr (.inl l0), .inl l1, .inl l2] [.inl x0] σ Q = Q [.inl x0] σ := w_ri d198_9 rfl
theorem d198_10 : adec m198 10 = some (.iload_n 2, 1) := by decide +kernel
theorem s198_10 {l0 : Nat} {l1 : Int} {l2 : Int} : WP m198 10 [.inr (.inl l0), .inl l1, .inl l2] [] σ Q = WP m198 11 [.inr (.inl l0), .inl l1, .inl l2] [.inl l2] σ Q := w_ld d198_10 rfl
theorem d198_11 : adec m198 11 = some (.i2l, 1) := by decide +kernel
theorem s198_11 {l0 : Nat} {l1 : Int} {l2 : Int} {x0 : Int} : WP m198 11 [.inr (.inl l0), .inl l1, .inl l2] [.inl x0] σ Q = WP m198 12 [.inr (.inl l0), .inl l1, .inl l2] [.inr (.inr (.inl x0))] σ Q := w_ld d198_11 rfl
theorem d198_12 : adec m198 12 = some (.lconst 0, 1) := by decide +kernel
theorem s198_12 {l0 : Nat} {l1 : Int} {l2 : Int} {x0 : Int} : WP m198 12 [.inr (.inl l0), .inl l1, .inl l2] [.inr (.inr (.inl x0))] σ Q = WP m198 13 [.inr (.inl l0), .inl l1, .inl l2] [.inr (.inr (.inl (0))), .inr (.inr (.inl x0))] σ Q := w_lconst d198_12
theorem d198_13 : adec m198 13 = some (.ldc2_w 323, 3) := by decide +kernel
theorem s198_13 {l0 : Nat} {l1 : Int} {l2 : Int} {x0 : Int} {x1 : Int} : WP m198 13 [.inr (.inl l0), .inl l1, .inl l2] [.inr (.inr (.inl x1)), .inr (.inr (.inl x0))] σ Q = WP m198 16 [.inr (.inl l0), .inl l1, .inl l2] [.inr (.inr (.inl (11))), .inr (.inr (.inl x1)), .inr (.inr (.inl x0))] σ Q := w_ldc2 d198_13 (by decide +kernel) (by decide)
theorem d198_16 : adec m198 16 = some (.invokestatic 88, 3) := by decide +kernel
theorem s198_16 {l0 : Nat} {l1 : Int} {l2 : Int} {x0 : Int} {x1 : Int} {x2 : Int} : WP m198 16 [.inr (.inl l0), .inl l1, .inl l2] [.inr (.inr (.inl x2)), .inr (.inr (.inl x1)), .inr (.inr (.inl x0))] σ Q = CA m127 [.inr (.inr (.inl x0)), .inr (.inr (.inl x1)), .inr (.inr (.inl x2))] σ (fun v σ2 => WP m198 19 [.inr (.inl l0), .inl l1, .inl l2] (v ++ []) σ2 Q) := w_cS (k := 127) d198_16 (by decide +kernel) (md := 1) (by decide +kernel) m127_at rfl rfl ⟨Nat.le_of_ble_eq_true rfl, Nat.le_of_ble_eq_true rfl, Nat.le_of_ble_eq_true rfl⟩ (by decide)
theorem d198_19 : adec m198 19 = some (.ifCond .ne (6), 3) := by decide +kernel
theorem s198_19 {l0 : Nat} {l1 : Int} {l2 : Int} {x0 : Int} : WP m198 19 [.inr (.inl l0), .inl l1, .inl l2] [.inl x0] σ Q = (if x0 = 0 then WP m198 22 [.inr (.inl l0), .inl l1, .inl l2] [] σ Q else WP m198 25 [.inr (.inl l0), .inl l1, .inl l2] [] σ Q) := w_ifne d198_19 (by decide)
theorem d198_22 : adec m198 22 = some (.ldc 120, 2) := by decide +kernel
theorem s198_22 {l0 : Nat} {l1 : Int} {l2 : Int} : WP m198 22 [.inr (.inl l0), .inl l1, .inl l2] [] σ Q = WP m198 24 [.inr (.inl l0), .inl l1, .inl l2] [.inl (-1000000002)] σ Q := w_ldc d198_22 (by decide +kernel) (by decide)
theorem d198_24 : adec m198 24 = some (.ireturn, 1) := by decide +kernel
theorem s198_24 {l0 : Nat} {l1 : Int} {l2 : Int} {x0 : Int} : WP m198 24 [.inr (.inl l0), .inl l1, .inl l2] [.inl x0] σ Q = Q [.inl x0] σ := w_ri d198_24 rfl
theorem d198_25 : adec m198 25 = some (.aload_n 0, 1) := by decide +kernel
theorem s198_25 {l0 : Nat} {l1 : Int} {l2 : Int} : WP m198 25 [.inr (.inl l0), .inl l1, .inl l2] [] σ Q = WP m198 26 [.inr (.inl l0), .inl l1, .inl l2] [.inr (.inl l0)] σ Q := w_ld d198_25 rfl
theorem d198_26 : adec m198 26 = some (.iload_n 1, 1) := by decide +kernel
theorem s198_26 {l0 : Nat} {l1 : Int} {l2 : Int} {x0 : Nat} : WP m198 26 [.inr (.inl l0), .inl l1, .inl l2] [.inr (.inl x0)] σ Q = WP m198 27 [.inr (.inl l0), .inl l1, .inl l2] [.inl l1, .inr (.inl x0)] σ Q := w_ld d198_26 rfl
theorem d198_27 : adec m198 27 = some (.invokevirtual 100, 3) := by decide +kernel
theorem s198_27 {l0 : Nat} {l1 : Int} {l2 : Int} {x1 : Int} : WP m198 27 [.inr (.inl l0), .inl l1, .inl l2] [.inl x1, .inr (.inl 130)] σ Q = CA m131 [.inr (.inl 130), .inl x1] σ (fun v σ2 => WP m198 30 [.inr (.inl l0), .inl l1, .inl l2] (v ++ []) σ2 Q) := (w_cV (k := 131) d198_27 (by decide +kernel) m131_at rfl rfl ⟨Nat.le_of_ble_eq_true rfl, Nat.le_of_ble_eq_true rfl, Nat.le_of_ble_eq_true rfl⟩ (by decide)).trans (g_and (isO_dec (by decide +kernel)))
theorem d198_30 : adec m198 30 = some (.ifCond .ne (6), 3) := by decide +kernel
theorem s198_30 {l0 : Nat} {l1 : Int} {l2 : Int} {x0 : Int} : WP m198 30 [.inr (.inl l0), .inl l1, .inl l2] [.inl x0] σ Q = (if x0 = 0 then WP m198 33 [.inr (.inl l0), .inl l1, .inl l2] [] σ Q else WP m198 36 [.inr (.inl l0), .inl l1, .inl l2] [] σ Q) := w_ifne d198_30 (by decide)
theorem d198_33 : adec m198 33 = some (.ldc 195, 2) := by decide +kernel
theorem s198_33 {l0 : Nat} {l1 : Int} {l2 : Int} : WP m198 33 [.inr (.inl l0), .inl l1, .inl l2] [] σ Q = WP m198 35 [.inr (.inl l0), .inl l1, .inl l2] [.inl (-1000000003)] σ Q := w_ldc d198_33 (by decide +kernel) (by decide)
theorem d198_35 : adec m198 35 = some (.ireturn, 1) := by decide +kernel
theorem s198_35 {l0 : Nat} {l1 : Int} {l2 : Int} {x0 : Int} : WP m198 35 [.inr (.inl l0), .inl l1, .inl l2] [.inl x0] σ Q = Q [.inl x0] σ := w_ri d198_35 rfl
theorem d198_36 : adec m198 36 = some (.aload_n 0, 1) := by decide +kernel
theorem s198_36 {l0 : Nat} {l1 : Int} {l2 : Int} : WP m198 36 [.inr (.inl l0), .inl l1, .inl l2] [] σ Q = WP m198 37 [.inr (.inl l0), .inl l1, .inl l2] [.inr (.inl l0)] σ Q := w_ld d198_36 rfl
theorem d198_37 : adec m198 37 = some (.iload_n 1, 1) := by decide +kernel
theorem s198_37 {l0 : Nat} {l1 : Int} {l2 : Int} {x0 : Nat} : WP m198 37 [.inr (.inl l0), .inl l1, .inl l2] [.inr (.inl x0)] σ Q = WP m198 38 [.inr (.inl l0), .inl l1, .inl l2] [.inl l1, .inr (.inl x0)] σ Q := w_ld d198_37 rfl
theorem d198_38 : adec m198 38 = some (.invokevirtual 196, 3) := by decide +kernel
theorem s198_38 {l0 : Nat} {l1 : Int} {l2 : Int} {x1 : Int} : WP m198 38 [.inr (.inl l0), .inl l1, .inl l2] [.inl x1, .inr (.inl 130)] σ Q = CA m136 [.inr (.inl 130), .inl x1] σ (fun v σ2 => WP m198 41 [.inr (.inl l0), .inl l1, .inl l2] (v ++ []) σ2 Q) := (w_cV (k := 136) d198_38 (by decide +kernel) m136_at rfl rfl ⟨Nat.le_of_ble_eq_true rfl, Nat.le_of_ble_eq_true rfl, Nat.le_of_ble_eq_true rfl⟩ (by decide)).trans (g_and (isO_dec (by decide +kernel)))
theorem d198_41 : adec m198 41 = some (.iload_n 2, 1) := by decide +kernel
theorem s198_41 {l0 : Nat} {l1 : Int} {l2 : Int} : WP m198 41 [.inr (.inl l0), .inl l1, .inl l2] [] σ Q = WP m198 42 [.inr (.inl l0), .inl l1, .inl l2] [.inl l2] σ Q := w_ld d198_41 rfl
theorem d198_42 : adec m198 42 = some (.tableswitch (119) (0) (11) #[62, 67, 72, 119, 119, 119, 119, 119, 83, 93, 98, 113], 62) := by decide +kernel
theorem s198_42 {l0 : Nat} {l1 : Int} {l2 : Int} {x0 : Int} : WP m198 42 [.inr (.inl l0), .inl l1, .inl l2] [.inl x0] σ Q = (if x0 = 0 then WP m198 104 [.inr (.inl l0), .inl l1, .inl l2] [] σ Q else if x0 = 1 then WP m198 109 [.inr (.inl l0), .inl l1, .inl l2] [] σ Q else if x0 = 2 then WP m198 114 [.inr (.inl l0), .inl l1, .inl l2] [] σ Q else if x0 = 8 then WP m198 125 [.inr (.inl l0), .inl l1, .inl l2] [] σ Q else if x0 = 9 then WP m198 135 [.inr (.inl l0), .inl l1, .inl l2] [] σ Q else if x0 = 10 then WP m198 140 [.inr (.inl l0), .inl l1, .inl l2] [] σ Q else if x0 = 11 then WP m198 155 [.inr (.inl l0), .inl l1, .inl l2] [] σ Q else WP m198 161 [.inr (.inl l0), .inl l1, .inl l2] [] σ Q) := by
  by_cases h0 : x0 = (0)
  · rw [if_pos h0]; subst h0; exact w_sw d198_42 rfl rfl
  by_cases h1 : x0 = (1)
  · rw [if_neg h0, if_pos h1]; subst h1; exact w_sw d198_42 rfl rfl
  by_cases h2 : x0 = (2)
  · rw [if_neg h0, if_neg h1, if_pos h2]; subst h2; exact w_sw d198_42 rfl rfl
  by_cases h3 : x0 = (8)
  · rw [if_neg h0, if_neg h1, if_neg h2, if_pos h3]; subst h3; exact w_sw d198_42 rfl rfl
  by_cases h4 : x0 = (9)
  · rw [if_neg h0, if_neg h1, if_neg h2, if_neg h3, if_pos h4]; subst h4; exact w_sw d198_42 rfl rfl
  by_cases h5 : x0 = (10)
  · rw [if_neg h0, if_neg h1, if_neg h2, if_neg h3, if_neg h4, if_pos h5]; subst h5; exact w_sw d198_42 rfl rfl
  by_cases h6 : x0 = (11)
  · rw [if_neg h0, if_neg h1, if_neg h2, if_neg h3, if_neg h4, if_neg h5, if_pos h6]; subst h6; exact w_sw d198_42 rfl rfl
  rw [if_neg h0, if_neg h1, if_neg h2, if_neg h3, if_neg h4, if_neg h5, if_neg h6]
  by_cases hr : x0 < (0) ∨ (11) < x0
  · exact w_sw d198_42 rfl (by simp only [bstep]; rw [if_pos hr]; rfl)
  · rcases (show x0 = (3) ∨ x0 = (4) ∨ x0 = (5) ∨ x0 = (6) ∨ x0 = (7) by omega) with rfl | rfl | rfl | rfl | rfl <;> exact w_sw d198_42 rfl rfl
theorem d198_104 : adec m198 104 = some (.aload_n 0, 1) := by decide +kernel
theorem s198_104 {l0 : Nat} {l1 : Int} {l2 : Int} : WP m198 104 [.inr (.inl l0), .inl l1, .inl l2] [] σ Q = WP m198 105 [.inr (.inl l0), .inl l1, .inl l2] [.inr (.inl l0)] σ Q := w_ld d198_104 rfl
theorem d198_105 : adec m198 105 = some (.getfield 104, 3) := by decide +kernel
theorem s198_105 {l0 : Nat} {l1 : Int} {l2 : Int} : WP m198 105 [.inr (.inl l0), .inl l1, .inl l2] [.inr (.inl 130)] σ Q = WP m198 108 [.inr (.inl l0), .inl l1, .inl l2] [.inl (σ 130 7)] σ Q := (w_getI (c := 10) (n := 7) d198_105 (by decide +kernel) (by decide +kernel)).trans (g_and (isO_dec (by decide +kernel)))
theorem d198_108 : adec m198 108 = some (.ireturn, 1) := by decide +kernel
theorem s198_108 {l0 : Nat} {l1 : Int} {l2 : Int} {x0 : Int} : WP m198 108 [.inr (.inl l0), .inl l1, .inl l2] [.inl x0] σ Q = Q [.inl x0] σ := w_ri d198_108 rfl
theorem d198_109 : adec m198 109 = some (.aload_n 0, 1) := by decide +kernel
theorem s198_109 {l0 : Nat} {l1 : Int} {l2 : Int} : WP m198 109 [.inr (.inl l0), .inl l1, .inl l2] [] σ Q = WP m198 110 [.inr (.inl l0), .inl l1, .inl l2] [.inr (.inl l0)] σ Q := w_ld d198_109 rfl
theorem d198_110 : adec m198 110 = some (.invokevirtual 325, 3) := by decide +kernel
theorem s198_110 {l0 : Nat} {l1 : Int} {l2 : Int} : WP m198 110 [.inr (.inl l0), .inl l1, .inl l2] [.inr (.inl 130)] σ Q = CA m195 [.inr (.inl 130)] σ (fun v σ2 => WP m198 113 [.inr (.inl l0), .inl l1, .inl l2] (v ++ []) σ2 Q) := (w_cV (k := 195) d198_110 (by decide +kernel) m195_at rfl rfl ⟨Nat.le_of_ble_eq_true rfl, Nat.le_of_ble_eq_true rfl, Nat.le_of_ble_eq_true rfl⟩ (by decide)).trans (g_and (isO_dec (by decide +kernel)))
theorem d198_113 : adec m198 113 = some (.ireturn, 1) := by decide +kernel
theorem s198_113 {l0 : Nat} {l1 : Int} {l2 : Int} {x0 : Int} : WP m198 113 [.inr (.inl l0), .inl l1, .inl l2] [.inl x0] σ Q = Q [.inl x0] σ := w_ri d198_113 rfl
theorem d198_114 : adec m198 114 = some (.aload_n 0, 1) := by decide +kernel
theorem s198_114 {l0 : Nat} {l1 : Int} {l2 : Int} : WP m198 114 [.inr (.inl l0), .inl l1, .inl l2] [] σ Q = WP m198 115 [.inr (.inl l0), .inl l1, .inl l2] [.inr (.inl l0)] σ Q := w_ld d198_114 rfl
theorem d198_115 : adec m198 115 = some (.sipush (1000), 3) := by decide +kernel
theorem s198_115 {l0 : Nat} {l1 : Int} {l2 : Int} {x0 : Nat} : WP m198 115 [.inr (.inl l0), .inl l1, .inl l2] [.inr (.inl x0)] σ Q = WP m198 118 [.inr (.inl l0), .inl l1, .inl l2] [.inl (1000), .inr (.inl x0)] σ Q := w_sipush d198_115 (by decide)
theorem d198_118 : adec m198 118 = some (.sipush (1255), 3) := by decide +kernel
theorem s198_118 {l0 : Nat} {l1 : Int} {l2 : Int} {x0 : Nat} {x1 : Int} : WP m198 118 [.inr (.inl l0), .inl l1, .inl l2] [.inl x1, .inr (.inl x0)] σ Q = WP m198 121 [.inr (.inl l0), .inl l1, .inl l2] [.inl (1255), .inl x1, .inr (.inl x0)] σ Q := w_sipush d198_118 (by decide)
theorem d198_121 : adec m198 121 = some (.invokevirtual 328, 3) := by decide +kernel
theorem s198_121 {l0 : Nat} {l1 : Int} {l2 : Int} {x1 : Int} {x2 : Int} : WP m198 121 [.inr (.inl l0), .inl l1, .inl l2] [.inl x2, .inl x1, .inr (.inl 130)] σ Q = CA m196 [.inr (.inl 130), .inl x1, .inl x2] σ (fun v σ2 => WP m198 124 [.inr (.inl l0), .inl l1, .inl l2] (v ++ []) σ2 Q) := (w_cV (k := 196) d198_121 (by decide +kernel) m196_at rfl rfl ⟨Nat.le_of_ble_eq_true rfl, Nat.le_of_ble_eq_true rfl, Nat.le_of_ble_eq_true rfl⟩ (by decide)).trans (g_and (isO_dec (by decide +kernel)))
theorem d198_124 : adec m198 124 = some (.ireturn, 1) := by decide +kernel
theorem s198_124 {l0 : Nat} {l1 : Int} {l2 : Int} {x0 : Int} : WP m198 124 [.inr (.inl l0), .inl l1, .inl l2] [.inl x0] σ Q = Q [.inl x0] σ := w_ri d198_124 rfl
theorem d198_125 : adec m198 125 = some (.aload_n 0, 1) := by decide +kernel
theorem s198_125 {l0 : Nat} {l1 : Int} {l2 : Int} : WP m198 125 [.inr (.inl l0), .inl l1, .inl l2] [] σ Q = WP m198 126 [.inr (.inl l0), .inl l1, .inl l2] [.inr (.inl l0)] σ Q := w_ld d198_125 rfl
theorem d198_126 : adec m198 126 = some (.iload_n 1, 1) := by decide +kernel
theorem s198_126 {l0 : Nat} {l1 : Int} {l2 : Int} {x0 : Nat} : WP m198 126 [.inr (.inl l0), .inl l1, .inl l2] [.inr (.inl x0)] σ Q = WP m198 127 [.inr (.inl l0), .inl l1, .inl l2] [.inl l1, .inr (.inl x0)] σ Q := w_ld d198_126 rfl
theorem d198_127 : adec m198 127 = some (.invokevirtual 331, 3) := by decide +kernel
theorem s198_127 {l0 : Nat} {l1 : Int} {l2 : Int} {x1 : Int} : WP m198 127 [.inr (.inl l0), .inl l1, .inl l2] [.inl x1, .inr (.inl 130)] σ Q = CA m190 [.inr (.inl 130), .inl x1] σ (fun v σ2 => WP m198 130 [.inr (.inl l0), .inl l1, .inl l2] (v ++ []) σ2 Q) := (w_cV (k := 190) d198_127 (by decide +kernel) m190_at rfl rfl ⟨Nat.le_of_ble_eq_true rfl, Nat.le_of_ble_eq_true rfl, Nat.le_of_ble_eq_true rfl⟩ (by decide)).trans (g_and (isO_dec (by decide +kernel)))
theorem d198_130 : adec m198 130 = some (.aload_n 0, 1) := by decide +kernel
theorem s198_130 {l0 : Nat} {l1 : Int} {l2 : Int} : WP m198 130 [.inr (.inl l0), .inl l1, .inl l2] [] σ Q = WP m198 131 [.inr (.inl l0), .inl l1, .inl l2] [.inr (.inl l0)] σ Q := w_ld d198_130 rfl
theorem d198_131 : adec m198 131 = some (.getfield 304, 3) := by decide +kernel
theorem s198_131 {l0 : Nat} {l1 : Int} {l2 : Int} : WP m198 131 [.inr (.inl l0), .inl l1, .inl l2] [.inr (.inl 130)] σ Q = WP m198 134 [.inr (.inl l0), .inl l1, .inl l2] [.inl (σ 130 34)] σ Q := (w_getI (c := 10) (n := 34) d198_131 (by decide +kernel) (by decide +kernel)).trans (g_and (isO_dec (by decide +kernel)))
theorem d198_134 : adec m198 134 = some (.ireturn, 1) := by decide +kernel
theorem s198_134 {l0 : Nat} {l1 : Int} {l2 : Int} {x0 : Int} : WP m198 134 [.inr (.inl l0), .inl l1, .inl l2] [.inl x0] σ Q = Q [.inl x0] σ := w_ri d198_134 rfl
theorem d198_135 : adec m198 135 = some (.aload_n 0, 1) := by decide +kernel
theorem s198_135 {l0 : Nat} {l1 : Int} {l2 : Int} : WP m198 135 [.inr (.inl l0), .inl l1, .inl l2] [] σ Q = WP m198 136 [.inr (.inl l0), .inl l1, .inl l2] [.inr (.inl l0)] σ Q := w_ld d198_135 rfl
theorem d198_136 : adec m198 136 = some (.invokevirtual 334, 3) := by decide +kernel
theorem s198_136 {l0 : Nat} {l1 : Int} {l2 : Int} : WP m198 136 [.inr (.inl l0), .inl l1, .inl l2] [.inr (.inl 130)] σ Q = CA m197 [.inr (.inl 130)] σ (fun v σ2 => WP m198 139 [.inr (.inl l0), .inl l1, .inl l2] (v ++ []) σ2 Q) := (w_cV (k := 197) d198_136 (by decide +kernel) m197_at rfl rfl ⟨Nat.le_of_ble_eq_true rfl, Nat.le_of_ble_eq_true rfl, Nat.le_of_ble_eq_true rfl⟩ (by decide)).trans (g_and (isO_dec (by decide +kernel)))
theorem d198_139 : adec m198 139 = some (.ireturn, 1) := by decide +kernel
theorem s198_139 {l0 : Nat} {l1 : Int} {l2 : Int} {x0 : Int} : WP m198 139 [.inr (.inl l0), .inl l1, .inl l2] [.inl x0] σ Q = Q [.inl x0] σ := w_ri d198_139 rfl
theorem d198_140 : adec m198 140 = some (.aload_n 0, 1) := by decide +kernel
theorem s198_140 {l0 : Nat} {l1 : Int} {l2 : Int} : WP m198 140 [.inr (.inl l0), .inl l1, .inl l2] [] σ Q = WP m198 141 [.inr (.inl l0), .inl l1, .inl l2] [.inr (.inl l0)] σ Q := w_ld d198_140 rfl
theorem d198_141 : adec m198 141 = some (.iload_n 1, 1) := by decide +kernel
theorem s198_141 {l0 : Nat} {l1 : Int} {l2 : Int} {x0 : Nat} : WP m198 141 [.inr (.inl l0), .inl l1, .inl l2] [.inr (.inl x0)] σ Q = WP m198 142 [.inr (.inl l0), .inl l1, .inl l2] [.inl l1, .inr (.inl x0)] σ Q := w_ld d198_141 rfl
theorem d198_142 : adec m198 142 = some (.invokevirtual 307, 3) := by decide +kernel
theorem s198_142 {l0 : Nat} {l1 : Int} {l2 : Int} {x1 : Int} : WP m198 142 [.inr (.inl l0), .inl l1, .inl l2] [.inl x1, .inr (.inl 130)] σ Q = CA m187 [.inr (.inl 130), .inl x1] σ (fun v σ2 => WP m198 145 [.inr (.inl l0), .inl l1, .inl l2] (v ++ []) σ2 Q) := (w_cV (k := 187) d198_142 (by decide +kernel) m187_at rfl rfl ⟨Nat.le_of_ble_eq_true rfl, Nat.le_of_ble_eq_true rfl, Nat.le_of_ble_eq_true rfl⟩ (by decide)).trans (g_and (isO_dec (by decide +kernel)))
theorem d198_145 : adec m198 145 = some (.iconst (-1), 1) := by decide +kernel
theorem s198_145 {l0 : Nat} {l1 : Int} {l2 : Int} {x0 : Int} : WP m198 145 [.inr (.inl l0), .inl l1, .inl l2] [.inl x0] σ Q = WP m198 146 [.inr (.inl l0), .inl l1, .inl l2] [.inl (-1), .inl x0] σ Q := w_iconst d198_145 (by decide)
theorem d198_146 : adec m198 146 = some (.if_icmp .ne (7), 3) := by decide +kernel
theorem s198_146 {l0 : Nat} {l1 : Int} {l2 : Int} {x0 : Int} {x1 : Int} : WP m198 146 [.inr (.inl l0), .inl l1, .inl l2] [.inl x1, .inl x0] σ Q = (if x0 = x1 then WP m198 149 [.inr (.inl l0), .inl l1, .inl l2] [] σ Q else WP m198 153 [.inr (.inl l0), .inl l1, .inl l2] [] σ Q) := w_icne d198_146 (by decide)
theorem d198_149 : adec m198 149 = some (.iconst (0), 1) := by decide +kernel
theorem s198_149 {l0 : Nat} {l1 : Int} {l2 : Int} : WP m198 149 [.inr (.inl l0), .inl l1, .inl l2] [] σ Q = WP m198 150 [.inr (.inl l0), .inl l1, .inl l2] [.inl (0)] σ Q := w_iconst d198_149 (by decide)
theorem d198_150 : adec m198 150 = some (.goto (4), 3) := by decide +kernel
theorem s198_150 {l0 : Nat} {l1 : Int} {l2 : Int} {x0 : Int} : WP m198 150 [.inr (.inl l0), .inl l1, .inl l2] [.inl x0] σ Q = WP m198 154 [.inr (.inl l0), .inl l1, .inl l2] [.inl x0] σ Q := w_goto d198_150 (by decide)
theorem d198_153 : adec m198 153 = some (.iconst (1), 1) := by decide +kernel
theorem s198_153 {l0 : Nat} {l1 : Int} {l2 : Int} : WP m198 153 [.inr (.inl l0), .inl l1, .inl l2] [] σ Q = WP m198 154 [.inr (.inl l0), .inl l1, .inl l2] [.inl (1)] σ Q := w_iconst d198_153 (by decide)
theorem d198_154 : adec m198 154 = some (.ireturn, 1) := by decide +kernel
theorem s198_154 {l0 : Nat} {l1 : Int} {l2 : Int} {x0 : Int} : WP m198 154 [.inr (.inl l0), .inl l1, .inl l2] [.inl x0] σ Q = Q [.inl x0] σ := w_ri d198_154 rfl
theorem d198_155 : adec m198 155 = some (.aload_n 0, 1) := by decide +kernel
theorem s198_155 {l0 : Nat} {l1 : Int} {l2 : Int} : WP m198 155 [.inr (.inl l0), .inl l1, .inl l2] [] σ Q = WP m198 156 [.inr (.inl l0), .inl l1, .inl l2] [.inr (.inl l0)] σ Q := w_ld d198_155 rfl
theorem d198_156 : adec m198 156 = some (.iload_n 1, 1) := by decide +kernel
theorem s198_156 {l0 : Nat} {l1 : Int} {l2 : Int} {x0 : Nat} : WP m198 156 [.inr (.inl l0), .inl l1, .inl l2] [.inr (.inl x0)] σ Q = WP m198 157 [.inr (.inl l0), .inl l1, .inl l2] [.inl l1, .inr (.inl x0)] σ Q := w_ld d198_156 rfl
theorem d198_157 : adec m198 157 = some (.invokevirtual 337, 3) := by decide +kernel
theorem s198_157 {l0 : Nat} {l1 : Int} {l2 : Int} {x1 : Int} : WP m198 157 [.inr (.inl l0), .inl l1, .inl l2] [.inl x1, .inr (.inl 130)] σ Q = CA m189 [.inr (.inl 130), .inl x1] σ (fun v σ2 => WP m198 160 [.inr (.inl l0), .inl l1, .inl l2] (v ++ []) σ2 Q) := (w_cV (k := 189) d198_157 (by decide +kernel) m189_at rfl rfl ⟨Nat.le_of_ble_eq_true rfl, Nat.le_of_ble_eq_true rfl, Nat.le_of_ble_eq_true rfl⟩ (by decide)).trans (g_and (isO_dec (by decide +kernel)))
theorem d198_160 : adec m198 160 = some (.ireturn, 1) := by decide +kernel
theorem s198_160 {l0 : Nat} {l1 : Int} {l2 : Int} {x0 : Int} : WP m198 160 [.inr (.inl l0), .inl l1, .inl l2] [.inl x0] σ Q = Q [.inl x0] σ := w_ri d198_160 rfl
theorem d198_161 : adec m198 161 = some (.aload_n 0, 1) := by decide +kernel
theorem s198_161 {l0 : Nat} {l1 : Int} {l2 : Int} : WP m198 161 [.inr (.inl l0), .inl l1, .inl l2] [] σ Q = WP m198 162 [.inr (.inl l0), .inl l1, .inl l2] [.inr (.inl l0)] σ Q := w_ld d198_161 rfl
theorem d198_162 : adec m198 162 = some (.iload_n 2, 1) := by decide +kernel
theorem s198_162 {l0 : Nat} {l1 : Int} {l2 : Int} {x0 : Nat} : WP m198 162 [.inr (.inl l0), .inl l1, .inl l2] [.inr (.inl x0)] σ Q = WP m198 163 [.inr (.inl l0), .inl l1, .inl l2] [.inl l2, .inr (.inl x0)] σ Q := w_ld d198_162 rfl
theorem d198_163 : adec m198 163 = some (.iconst (2), 1) := by decide +kernel
theorem s198_163 {l0 : Nat} {l1 : Int} {l2 : Int} {x0 : Nat} {x1 : Int} : WP m198 163 [.inr (.inl l0), .inl l1, .inl l2] [.inl x1, .inr (.inl x0)] σ Q = WP m198 164 [.inr (.inl l0), .inl l1, .inl l2] [.inl (2), .inl x1, .inr (.inl x0)] σ Q := w_iconst d198_163 (by decide)
theorem d198_164 : adec m198 164 = some (.isub, 1) := by decide +kernel
theorem s198_164 {l0 : Nat} {l1 : Int} {l2 : Int} {x0 : Nat} {x1 : Int} {x2 : Int} : WP m198 164 [.inr (.inl l0), .inl l1, .inl l2] [.inl x2, .inl x1, .inr (.inl x0)] σ Q = (inI (x1 - x2) ∧ WP m198 165 [.inr (.inl l0), .inl l1, .inl l2] [.inl (x1 - x2), .inr (.inl x0)] σ Q) := w_isub d198_164
theorem d198_165 : adec m198 165 = some (.iload_n 2, 1) := by decide +kernel
theorem s198_165 {l0 : Nat} {l1 : Int} {l2 : Int} {x0 : Nat} {x1 : Int} : WP m198 165 [.inr (.inl l0), .inl l1, .inl l2] [.inl x1, .inr (.inl x0)] σ Q = WP m198 166 [.inr (.inl l0), .inl l1, .inl l2] [.inl l2, .inl x1, .inr (.inl x0)] σ Q := w_ld d198_165 rfl
theorem d198_166 : adec m198 166 = some (.iconst (2), 1) := by decide +kernel
theorem s198_166 {l0 : Nat} {l1 : Int} {l2 : Int} {x0 : Nat} {x1 : Int} {x2 : Int} : WP m198 166 [.inr (.inl l0), .inl l1, .inl l2] [.inl x2, .inl x1, .inr (.inl x0)] σ Q = WP m198 167 [.inr (.inl l0), .inl l1, .inl l2] [.inl (2), .inl x2, .inl x1, .inr (.inl x0)] σ Q := w_iconst d198_166 (by decide)
theorem d198_167 : adec m198 167 = some (.isub, 1) := by decide +kernel
theorem s198_167 {l0 : Nat} {l1 : Int} {l2 : Int} {x0 : Nat} {x1 : Int} {x2 : Int} {x3 : Int} : WP m198 167 [.inr (.inl l0), .inl l1, .inl l2] [.inl x3, .inl x2, .inl x1, .inr (.inl x0)] σ Q = (inI (x2 - x3) ∧ WP m198 168 [.inr (.inl l0), .inl l1, .inl l2] [.inl (x2 - x3), .inl x1, .inr (.inl x0)] σ Q) := w_isub d198_167
theorem d198_168 : adec m198 168 = some (.invokevirtual 328, 3) := by decide +kernel
theorem s198_168 {l0 : Nat} {l1 : Int} {l2 : Int} {x1 : Int} {x2 : Int} : WP m198 168 [.inr (.inl l0), .inl l1, .inl l2] [.inl x2, .inl x1, .inr (.inl 130)] σ Q = CA m196 [.inr (.inl 130), .inl x1, .inl x2] σ (fun v σ2 => WP m198 171 [.inr (.inl l0), .inl l1, .inl l2] (v ++ []) σ2 Q) := (w_cV (k := 196) d198_168 (by decide +kernel) m196_at rfl rfl ⟨Nat.le_of_ble_eq_true rfl, Nat.le_of_ble_eq_true rfl, Nat.le_of_ble_eq_true rfl⟩ (by decide)).trans (g_and (isO_dec (by decide +kernel)))
theorem d198_171 : adec m198 171 = some (.ireturn, 1) := by decide +kernel
theorem s198_171 {l0 : Nat} {l1 : Int} {l2 : Int} {x0 : Int} : WP m198 171 [.inr (.inl l0), .inl l1, .inl l2] [.inl x0] σ Q = Q [.inl x0] σ := w_ri d198_171 rfl
theorem e198 {p0 : Nat} {p1 : Int} {p2 : Int} : CA m198 [.inr (.inl p0), .inl p1, .inl p2] σ Q = WP m198 0 [.inr (.inl p0), .inl p1, .inl p2] [] σ Q := rfl
-- BinderPressModel.sign(II)I
theorem d199_0 : adec m199 0 = some (.iload_n 1, 1) := by decide +kernel
theorem s199_0 {l0 : Nat} {l1 : Int} {l2 : Int} : WP m199 0 [.inr (.inl l0), .inl l1, .inl l2] [] σ Q = WP m199 1 [.inr (.inl l0), .inl l1, .inl l2] [.inl l1] σ Q := w_ld d199_0 rfl
theorem d199_1 : adec m199 1 = some (.invokestatic 152, 3) := by decide +kernel
theorem s199_1 {l0 : Nat} {l1 : Int} {l2 : Int} {x0 : Int} : WP m199 1 [.inr (.inl l0), .inl l1, .inl l2] [.inl x0] σ Q = CA m130 [.inl x0] σ (fun v σ2 => WP m199 4 [.inr (.inl l0), .inl l1, .inl l2] (v ++ []) σ2 Q) := w_cS (k := 130) d199_1 (by decide +kernel) (md := 1) (by decide +kernel) m130_at rfl rfl ⟨Nat.le_of_ble_eq_true rfl, Nat.le_of_ble_eq_true rfl, Nat.le_of_ble_eq_true rfl⟩ (by decide)
theorem d199_4 : adec m199 4 = some (.ifCond .ne (6), 3) := by decide +kernel
theorem s199_4 {l0 : Nat} {l1 : Int} {l2 : Int} {x0 : Int} : WP m199 4 [.inr (.inl l0), .inl l1, .inl l2] [.inl x0] σ Q = (if x0 = 0 then WP m199 7 [.inr (.inl l0), .inl l1, .inl l2] [] σ Q else WP m199 10 [.inr (.inl l0), .inl l1, .inl l2] [] σ Q) := w_ifne d199_4 (by decide)
theorem d199_7 : adec m199 7 = some (.ldc 155, 2) := by decide +kernel
theorem s199_7 {l0 : Nat} {l1 : Int} {l2 : Int} : WP m199 7 [.inr (.inl l0), .inl l1, .inl l2] [] σ Q = WP m199 9 [.inr (.inl l0), .inl l1, .inl l2] [.inl (-1000000001)] σ Q := w_ldc d199_7 (by decide +kernel) (by decide)
theorem d199_9 : adec m199 9 = some (.ireturn, 1) := by decide +kernel
theorem s199_9 {l0 : Nat} {l1 : Int} {l2 : Int} {x0 : Int} : WP m199 9 [.inr (.inl l0), .inl l1, .inl l2] [.inl x0] σ Q = Q [.inl x0] σ := w_ri d199_9 rfl
theorem d199_10 : adec m199 10 = some (.iload_n 2, 1) := by decide +kernel
theorem s199_10 {l0 : Nat} {l1 : Int} {l2 : Int} : WP m199 10 [.inr (.inl l0), .inl l1, .inl l2] [] σ Q = WP m199 11 [.inr (.inl l0), .inl l1, .inl l2] [.inl l2] σ Q := w_ld d199_10 rfl
theorem d199_11 : adec m199 11 = some (.ifCond .ge (6), 3) := by decide +kernel
theorem s199_11 {l0 : Nat} {l1 : Int} {l2 : Int} {x0 : Int} : WP m199 11 [.inr (.inl l0), .inl l1, .inl l2] [.inl x0] σ Q = (if 0 ≤ x0 then WP m199 17 [.inr (.inl l0), .inl l1, .inl l2] [] σ Q else WP m199 14 [.inr (.inl l0), .inl l1, .inl l2] [] σ Q) := w_ifge d199_11 (by decide)
theorem d199_14 : adec m199 14 = some (.ldc 120, 2) := by decide +kernel
theorem s199_14 {l0 : Nat} {l1 : Int} {l2 : Int} : WP m199 14 [.inr (.inl l0), .inl l1, .inl l2] [] σ Q = WP m199 16 [.inr (.inl l0), .inl l1, .inl l2] [.inl (-1000000002)] σ Q := w_ldc d199_14 (by decide +kernel) (by decide)
theorem d199_16 : adec m199 16 = some (.ireturn, 1) := by decide +kernel
theorem s199_16 {l0 : Nat} {l1 : Int} {l2 : Int} {x0 : Int} : WP m199 16 [.inr (.inl l0), .inl l1, .inl l2] [.inl x0] σ Q = Q [.inl x0] σ := w_ri d199_16 rfl
theorem d199_17 : adec m199 17 = some (.aload_n 0, 1) := by decide +kernel
theorem s199_17 {l0 : Nat} {l1 : Int} {l2 : Int} : WP m199 17 [.inr (.inl l0), .inl l1, .inl l2] [] σ Q = WP m199 18 [.inr (.inl l0), .inl l1, .inl l2] [.inr (.inl l0)] σ Q := w_ld d199_17 rfl
theorem d199_18 : adec m199 18 = some (.iload_n 1, 1) := by decide +kernel
theorem s199_18 {l0 : Nat} {l1 : Int} {l2 : Int} {x0 : Nat} : WP m199 18 [.inr (.inl l0), .inl l1, .inl l2] [.inr (.inl x0)] σ Q = WP m199 19 [.inr (.inl l0), .inl l1, .inl l2] [.inl l1, .inr (.inl x0)] σ Q := w_ld d199_18 rfl
theorem d199_19 : adec m199 19 = some (.invokevirtual 100, 3) := by decide +kernel
theorem s199_19 {l0 : Nat} {l1 : Int} {l2 : Int} {x1 : Int} : WP m199 19 [.inr (.inl l0), .inl l1, .inl l2] [.inl x1, .inr (.inl 130)] σ Q = CA m131 [.inr (.inl 130), .inl x1] σ (fun v σ2 => WP m199 22 [.inr (.inl l0), .inl l1, .inl l2] (v ++ []) σ2 Q) := (w_cV (k := 131) d199_19 (by decide +kernel) m131_at rfl rfl ⟨Nat.le_of_ble_eq_true rfl, Nat.le_of_ble_eq_true rfl, Nat.le_of_ble_eq_true rfl⟩ (by decide)).trans (g_and (isO_dec (by decide +kernel)))
theorem d199_22 : adec m199 22 = some (.ifCond .ne (6), 3) := by decide +kernel
theorem s199_22 {l0 : Nat} {l1 : Int} {l2 : Int} {x0 : Int} : WP m199 22 [.inr (.inl l0), .inl l1, .inl l2] [.inl x0] σ Q = (if x0 = 0 then WP m199 25 [.inr (.inl l0), .inl l1, .inl l2] [] σ Q else WP m199 28 [.inr (.inl l0), .inl l1, .inl l2] [] σ Q) := w_ifne d199_22 (by decide)
theorem d199_25 : adec m199 25 = some (.ldc 195, 2) := by decide +kernel
theorem s199_25 {l0 : Nat} {l1 : Int} {l2 : Int} : WP m199 25 [.inr (.inl l0), .inl l1, .inl l2] [] σ Q = WP m199 27 [.inr (.inl l0), .inl l1, .inl l2] [.inl (-1000000003)] σ Q := w_ldc d199_25 (by decide +kernel) (by decide)
theorem d199_27 : adec m199 27 = some (.ireturn, 1) := by decide +kernel
theorem s199_27 {l0 : Nat} {l1 : Int} {l2 : Int} {x0 : Int} : WP m199 27 [.inr (.inl l0), .inl l1, .inl l2] [.inl x0] σ Q = Q [.inl x0] σ := w_ri d199_27 rfl
theorem d199_28 : adec m199 28 = some (.aload_n 0, 1) := by decide +kernel
theorem s199_28 {l0 : Nat} {l1 : Int} {l2 : Int} : WP m199 28 [.inr (.inl l0), .inl l1, .inl l2] [] σ Q = WP m199 29 [.inr (.inl l0), .inl l1, .inl l2] [.inr (.inl l0)] σ Q := w_ld d199_28 rfl
theorem d199_29 : adec m199 29 = some (.iload_n 1, 1) := by decide +kernel
theorem s199_29 {l0 : Nat} {l1 : Int} {l2 : Int} {x0 : Nat} : WP m199 29 [.inr (.inl l0), .inl l1, .inl l2] [.inr (.inl x0)] σ Q = WP m199 30 [.inr (.inl l0), .inl l1, .inl l2] [.inl l1, .inr (.inl x0)] σ Q := w_ld d199_29 rfl
theorem d199_30 : adec m199 30 = some (.invokevirtual 331, 3) := by decide +kernel
theorem s199_30 {l0 : Nat} {l1 : Int} {l2 : Int} {x1 : Int} : WP m199 30 [.inr (.inl l0), .inl l1, .inl l2] [.inl x1, .inr (.inl 130)] σ Q = CA m190 [.inr (.inl 130), .inl x1] σ (fun v σ2 => WP m199 33 [.inr (.inl l0), .inl l1, .inl l2] (v ++ []) σ2 Q) := (w_cV (k := 190) d199_30 (by decide +kernel) m190_at rfl rfl ⟨Nat.le_of_ble_eq_true rfl, Nat.le_of_ble_eq_true rfl, Nat.le_of_ble_eq_true rfl⟩ (by decide)).trans (g_and (isO_dec (by decide +kernel)))
theorem d199_33 : adec m199 33 = some (.iload_n 2, 1) := by decide +kernel
theorem s199_33 {l0 : Nat} {l1 : Int} {l2 : Int} : WP m199 33 [.inr (.inl l0), .inl l1, .inl l2] [] σ Q = WP m199 34 [.inr (.inl l0), .inl l1, .inl l2] [.inl l2] σ Q := w_ld d199_33 rfl
theorem d199_34 : adec m199 34 = some (.aload_n 0, 1) := by decide +kernel
theorem s199_34 {l0 : Nat} {l1 : Int} {l2 : Int} {x0 : Int} : WP m199 34 [.inr (.inl l0), .inl l1, .inl l2] [.inl x0] σ Q = WP m199 35 [.inr (.inl l0), .inl l1, .inl l2] [.inr (.inl l0), .inl x0] σ Q := w_ld d199_34 rfl
theorem d199_35 : adec m199 35 = some (.getfield 304, 3) := by decide +kernel
theorem s199_35 {l0 : Nat} {l1 : Int} {l2 : Int} {x0 : Int} : WP m199 35 [.inr (.inl l0), .inl l1, .inl l2] [.inr (.inl 130), .inl x0] σ Q = WP m199 38 [.inr (.inl l0), .inl l1, .inl l2] [.inl (σ 130 34), .inl x0] σ Q := (w_getI (c := 10) (n := 34) d199_35 (by decide +kernel) (by decide +kernel)).trans (g_and (isO_dec (by decide +kernel)))
theorem d199_38 : adec m199 38 = some (.if_icmp .ge (12), 3) := by decide +kernel
theorem s199_38 {l0 : Nat} {l1 : Int} {l2 : Int} {x0 : Int} {x1 : Int} : WP m199 38 [.inr (.inl l0), .inl l1, .inl l2] [.inl x1, .inl x0] σ Q = (if x1 ≤ x0 then WP m199 50 [.inr (.inl l0), .inl l1, .inl l2] [] σ Q else WP m199 41 [.inr (.inl l0), .inl l1, .inl l2] [] σ Q) := w_icge d199_38 (by decide)
theorem d199_41 : adec m199 41 = some (.aload_n 0, 1) := by decide +kernel
theorem s199_41 {l0 : Nat} {l1 : Int} {l2 : Int} : WP m199 41 [.inr (.inl l0), .inl l1, .inl l2] [] σ Q = WP m199 42 [.inr (.inl l0), .inl l1, .inl l2] [.inr (.inl l0)] σ Q := w_ld d199_41 rfl
theorem d199_42 : adec m199 42 = some (.getfield 75, 3) := by decide +kernel
theorem s199_42 {l0 : Nat} {l1 : Int} {l2 : Int} : WP m199 42 [.inr (.inl l0), .inl l1, .inl l2] [.inr (.inl 130)] σ Q = WP m199 45 [.inr (.inl l0), .inl l1, .inl l2] [.inr (.inl 151)] σ Q := (w_getR (c := 10) (n := 33) d199_42 (by decide +kernel) (by decide +kernel)).trans (g_and ⟨isO_dec (by decide +kernel), by decide +kernel⟩)
theorem d199_45 : adec m199 45 = some (.iload_n 2, 1) := by decide +kernel
theorem s199_45 {l0 : Nat} {l1 : Int} {l2 : Int} {x0 : Nat} : WP m199 45 [.inr (.inl l0), .inl l1, .inl l2] [.inr (.inl x0)] σ Q = WP m199 46 [.inr (.inl l0), .inl l1, .inl l2] [.inl l2, .inr (.inl x0)] σ Q := w_ld d199_45 rfl
theorem d199_46 : adec m199 46 = some (.iaload, 1) := by decide +kernel
theorem s199_46 {l0 : Nat} {l1 : Int} {l2 : Int} {x0 : Nat} {x1 : Int} : WP m199 46 [.inr (.inl l0), .inl l1, .inl l2] [.inl x1, .inr (.inl x0)] σ Q = ((kdS x0 = 20 ∧ 0 ≤ x1 ∧ x1 < ln x0) ∧ WP m199 47 [.inr (.inl l0), .inl l1, .inl l2] [.inl (σ x0 x1.toNat)] σ Q) := w_iald d199_46
theorem d199_47 : adec m199 47 = some (.goto (4), 3) := by decide +kernel
theorem s199_47 {l0 : Nat} {l1 : Int} {l2 : Int} {x0 : Int} : WP m199 47 [.inr (.inl l0), .inl l1, .inl l2] [.inl x0] σ Q = WP m199 51 [.inr (.inl l0), .inl l1, .inl l2] [.inl x0] σ Q := w_goto d199_47 (by decide)
theorem d199_50 : adec m199 50 = some (.iconst (-1), 1) := by decide +kernel
theorem s199_50 {l0 : Nat} {l1 : Int} {l2 : Int} : WP m199 50 [.inr (.inl l0), .inl l1, .inl l2] [] σ Q = WP m199 51 [.inr (.inl l0), .inl l1, .inl l2] [.inl (-1)] σ Q := w_iconst d199_50 (by decide)
theorem d199_51 : adec m199 51 = some (.ireturn, 1) := by decide +kernel
theorem s199_51 {l0 : Nat} {l1 : Int} {l2 : Int} {x0 : Int} : WP m199 51 [.inr (.inl l0), .inl l1, .inl l2] [.inl x0] σ Q = Q [.inl x0] σ := w_ri d199_51 rfl
theorem e199 {p0 : Nat} {p1 : Int} {p2 : Int} : CA m199 [.inr (.inl p0), .inl p1, .inl p2] σ Q = WP m199 0 [.inr (.inl p0), .inl p1, .inl p2] [] σ Q := rfl
-- BinderPressModel.kind(II)I
theorem d200_0 : adec m200 0 = some (.iload_n 1, 1) := by decide +kernel
theorem s200_0 {l0 : Nat} {l1 : Int} {l2 : Int} {l3 : AV} : WP m200 0 [.inr (.inl l0), .inl l1, .inl l2, l3] [] σ Q = WP m200 1 [.inr (.inl l0), .inl l1, .inl l2, l3] [.inl l1] σ Q := w_ld d200_0 rfl
theorem d200_1 : adec m200 1 = some (.invokestatic 152, 3) := by decide +kernel
theorem s200_1 {l0 : Nat} {l1 : Int} {l2 : Int} {l3 : AV} {x0 : Int} : WP m200 1 [.inr (.inl l0), .inl l1, .inl l2, l3] [.inl x0] σ Q = CA m130 [.inl x0] σ (fun v σ2 => WP m200 4 [.inr (.inl l0), .inl l1, .inl l2, l3] (v ++ []) σ2 Q) := w_cS (k := 130) d200_1 (by decide +kernel) (md := 1) (by decide +kernel) m130_at rfl rfl ⟨Nat.le_of_ble_eq_true rfl, Nat.le_of_ble_eq_true rfl, Nat.le_of_ble_eq_true rfl⟩ (by decide)
theorem d200_4 : adec m200 4 = some (.ifCond .ne (6), 3) := by decide +kernel
theorem s200_4 {l0 : Nat} {l1 : Int} {l2 : Int} {l3 : AV} {x0 : Int} : WP m200 4 [.inr (.inl l0), .inl l1, .inl l2, l3] [.inl x0] σ Q = (if x0 = 0 then WP m200 7 [.inr (.inl l0), .inl l1, .inl l2, l3] [] σ Q else WP m200 10 [.inr (.inl l0), .inl l1, .inl l2, l3] [] σ Q) := w_ifne d200_4 (by decide)
theorem d200_7 : adec m200 7 = some (.ldc 155, 2) := by decide +kernel
theorem s200_7 {l0 : Nat} {l1 : Int} {l2 : Int} {l3 : AV} : WP m200 7 [.inr (.inl l0), .inl l1, .inl l2, l3] [] σ Q = WP m200 9 [.inr (.inl l0), .inl l1, .inl l2, l3] [.inl (-1000000001)] σ Q := w_ldc d200_7 (by decide +kernel) (by decide)
theorem d200_9 : adec m200 9 = some (.ireturn, 1) := by decide +kernel
theorem s200_9 {l0 : Nat} {l1 : Int} {l2 : Int} {l3 : AV} {x0 : Int} : WP m200 9 [.inr (.inl l0), .inl l1, .inl l2, l3] [.inl x0] σ Q = Q [.inl x0] σ := w_ri d200_9 rfl
theorem d200_10 : adec m200 10 = some (.iload_n 2, 1) := by decide +kernel
theorem s200_10 {l0 : Nat} {l1 : Int} {l2 : Int} {l3 : AV} : WP m200 10 [.inr (.inl l0), .inl l1, .inl l2, l3] [] σ Q = WP m200 11 [.inr (.inl l0), .inl l1, .inl l2, l3] [.inl l2] σ Q := w_ld d200_10 rfl
theorem d200_11 : adec m200 11 = some (.ifCond .ge (6), 3) := by decide +kernel
theorem s200_11 {l0 : Nat} {l1 : Int} {l2 : Int} {l3 : AV} {x0 : Int} : WP m200 11 [.inr (.inl l0), .inl l1, .inl l2, l3] [.inl x0] σ Q = (if 0 ≤ x0 then WP m200 17 [.inr (.inl l0), .inl l1, .inl l2, l3] [] σ Q else WP m200 14 [.inr (.inl l0), .inl l1, .inl l2, l3] [] σ Q) := w_ifge d200_11 (by decide)
theorem d200_14 : adec m200 14 = some (.ldc 120, 2) := by decide +kernel
theorem s200_14 {l0 : Nat} {l1 : Int} {l2 : Int} {l3 : AV} : WP m200 14 [.inr (.inl l0), .inl l1, .inl l2, l3] [] σ Q = WP m200 16 [.inr (.inl l0), .inl l1, .inl l2, l3] [.inl (-1000000002)] σ Q := w_ldc d200_14 (by decide +kernel) (by decide)
theorem d200_16 : adec m200 16 = some (.ireturn, 1) := by decide +kernel
theorem s200_16 {l0 : Nat} {l1 : Int} {l2 : Int} {l3 : AV} {x0 : Int} : WP m200 16 [.inr (.inl l0), .inl l1, .inl l2, l3] [.inl x0] σ Q = Q [.inl x0] σ := w_ri d200_16 rfl
theorem d200_17 : adec m200 17 = some (.aload_n 0, 1) := by decide +kernel
theorem s200_17 {l0 : Nat} {l1 : Int} {l2 : Int} {l3 : AV} : WP m200 17 [.inr (.inl l0), .inl l1, .inl l2, l3] [] σ Q = WP m200 18 [.inr (.inl l0), .inl l1, .inl l2, l3] [.inr (.inl l0)] σ Q := w_ld d200_17 rfl
theorem d200_18 : adec m200 18 = some (.iload_n 1, 1) := by decide +kernel
theorem s200_18 {l0 : Nat} {l1 : Int} {l2 : Int} {l3 : AV} {x0 : Nat} : WP m200 18 [.inr (.inl l0), .inl l1, .inl l2, l3] [.inr (.inl x0)] σ Q = WP m200 19 [.inr (.inl l0), .inl l1, .inl l2, l3] [.inl l1, .inr (.inl x0)] σ Q := w_ld d200_18 rfl
theorem d200_19 : adec m200 19 = some (.invokevirtual 100, 3) := by decide +kernel
theorem s200_19 {l0 : Nat} {l1 : Int} {l2 : Int} {l3 : AV} {x1 : Int} : WP m200 19 [.inr (.inl l0), .inl l1, .inl l2, l3] [.inl x1, .inr (.inl 130)] σ Q = CA m131 [.inr (.inl 130), .inl x1] σ (fun v σ2 => WP m200 22 [.inr (.inl l0), .inl l1, .inl l2, l3] (v ++ []) σ2 Q) := (w_cV (k := 131) d200_19 (by decide +kernel) m131_at rfl rfl ⟨Nat.le_of_ble_eq_true rfl, Nat.le_of_ble_eq_true rfl, Nat.le_of_ble_eq_true rfl⟩ (by decide)).trans (g_and (isO_dec (by decide +kernel)))
theorem d200_22 : adec m200 22 = some (.ifCond .ne (6), 3) := by decide +kernel
theorem s200_22 {l0 : Nat} {l1 : Int} {l2 : Int} {l3 : AV} {x0 : Int} : WP m200 22 [.inr (.inl l0), .inl l1, .inl l2, l3] [.inl x0] σ Q = (if x0 = 0 then WP m200 25 [.inr (.inl l0), .inl l1, .inl l2, l3] [] σ Q else WP m200 28 [.inr (.inl l0), .inl l1, .inl l2, l3] [] σ Q) := w_ifne d200_22 (by decide)
theorem d200_25 : adec m200 25 = some (.ldc 195, 2) := by decide +kernel
theorem s200_25 {l0 : Nat} {l1 : Int} {l2 : Int} {l3 : AV} : WP m200 25 [.inr (.inl l0), .inl l1, .inl l2, l3] [] σ Q = WP m200 27 [.inr (.inl l0), .inl l1, .inl l2, l3] [.inl (-1000000003)] σ Q := w_ldc d200_25 (by decide +kernel) (by decide)
theorem d200_27 : adec m200 27 = some (.ireturn, 1) := by decide +kernel
theorem s200_27 {l0 : Nat} {l1 : Int} {l2 : Int} {l3 : AV} {x0 : Int} : WP m200 27 [.inr (.inl l0), .inl l1, .inl l2, l3] [.inl x0] σ Q = Q [.inl x0] σ := w_ri d200_27 rfl
theorem d200_28 : adec m200 28 = some (.aload_n 0, 1) := by decide +kernel
theorem s200_28 {l0 : Nat} {l1 : Int} {l2 : Int} {l3 : AV} : WP m200 28 [.inr (.inl l0), .inl l1, .inl l2, l3] [] σ Q = WP m200 29 [.inr (.inl l0), .inl l1, .inl l2, l3] [.inr (.inl l0)] σ Q := w_ld d200_28 rfl
theorem d200_29 : adec m200 29 = some (.iload_n 1, 1) := by decide +kernel
theorem s200_29 {l0 : Nat} {l1 : Int} {l2 : Int} {l3 : AV} {x0 : Nat} : WP m200 29 [.inr (.inl l0), .inl l1, .inl l2, l3] [.inr (.inl x0)] σ Q = WP m200 30 [.inr (.inl l0), .inl l1, .inl l2, l3] [.inl l1, .inr (.inl x0)] σ Q := w_ld d200_29 rfl
theorem d200_30 : adec m200 30 = some (.invokevirtual 337, 3) := by decide +kernel
theorem s200_30 {l0 : Nat} {l1 : Int} {l2 : Int} {l3 : AV} {x1 : Int} : WP m200 30 [.inr (.inl l0), .inl l1, .inl l2, l3] [.inl x1, .inr (.inl 130)] σ Q = CA m189 [.inr (.inl 130), .inl x1] σ (fun v σ2 => WP m200 33 [.inr (.inl l0), .inl l1, .inl l2, l3] (v ++ []) σ2 Q) := (w_cV (k := 189) d200_30 (by decide +kernel) m189_at rfl rfl ⟨Nat.le_of_ble_eq_true rfl, Nat.le_of_ble_eq_true rfl, Nat.le_of_ble_eq_true rfl⟩ (by decide)).trans (g_and (isO_dec (by decide +kernel)))
theorem d200_33 : adec m200 33 = some (.istore_n 3, 1) := by decide +kernel
theorem s200_33 {l0 : Nat} {l1 : Int} {l2 : Int} {l3 : AV} {x0 : Int} : WP m200 33 [.inr (.inl l0), .inl l1, .inl l2, l3] [.inl x0] σ Q = WP m200 34 [.inr (.inl l0), .inl l1, .inl l2, .inl x0] [] σ Q := w_st1 (j := 3) d200_33 rfl (Nat.le_of_ble_eq_true rfl) rfl
theorem d200_34 : adec m200 34 = some (.iload_n 3, 1) := by decide +kernel
theorem s200_34 {l0 : Nat} {l1 : Int} {l2 : Int} {l3 : Int} : WP m200 34 [.inr (.inl l0), .inl l1, .inl l2, .inl l3] [] σ Q = WP m200 35 [.inr (.inl l0), .inl l1, .inl l2, .inl l3] [.inl l3] σ Q := w_ld d200_34 rfl
theorem d200_35 : adec m200 35 = some (.ifCond .ge (7), 3) := by decide +kernel
theorem s200_35 {l0 : Nat} {l1 : Int} {l2 : Int} {l3 : Int} {x0 : Int} : WP m200 35 [.inr (.inl l0), .inl l1, .inl l2, .inl l3] [.inl x0] σ Q = (if 0 ≤ x0 then WP m200 42 [.inr (.inl l0), .inl l1, .inl l2, .inl l3] [] σ Q else WP m200 38 [.inr (.inl l0), .inl l1, .inl l2, .inl l3] [] σ Q) := w_ifge d200_35 (by decide)
theorem d200_38 : adec m200 38 = some (.iload_n 3, 1) := by decide +kernel
theorem s200_38 {l0 : Nat} {l1 : Int} {l2 : Int} {l3 : Int} : WP m200 38 [.inr (.inl l0), .inl l1, .inl l2, .inl l3] [] σ Q = WP m200 39 [.inr (.inl l0), .inl l1, .inl l2, .inl l3] [.inl l3] σ Q := w_ld d200_38 rfl
theorem d200_39 : adec m200 39 = some (.goto (18), 3) := by decide +kernel
theorem s200_39 {l0 : Nat} {l1 : Int} {l2 : Int} {l3 : Int} {x0 : Int} : WP m200 39 [.inr (.inl l0), .inl l1, .inl l2, .inl l3] [.inl x0] σ Q = WP m200 57 [.inr (.inl l0), .inl l1, .inl l2, .inl l3] [.inl x0] σ Q := w_goto d200_39 (by decide)
theorem d200_42 : adec m200 42 = some (.iload_n 2, 1) := by decide +kernel
theorem s200_42 {l0 : Nat} {l1 : Int} {l2 : Int} {l3 : Int} : WP m200 42 [.inr (.inl l0), .inl l1, .inl l2, .inl l3] [] σ Q = WP m200 43 [.inr (.inl l0), .inl l1, .inl l2, .inl l3] [.inl l2] σ Q := w_ld d200_42 rfl
theorem d200_43 : adec m200 43 = some (.iload_n 3, 1) := by decide +kernel
theorem s200_43 {l0 : Nat} {l1 : Int} {l2 : Int} {l3 : Int} {x0 : Int} : WP m200 43 [.inr (.inl l0), .inl l1, .inl l2, .inl l3] [.inl x0] σ Q = WP m200 44 [.inr (.inl l0), .inl l1, .inl l2, .inl l3] [.inl l3, .inl x0] σ Q := w_ld d200_43 rfl
theorem d200_44 : adec m200 44 = some (.if_icmp .ge (12), 3) := by decide +kernel
theorem s200_44 {l0 : Nat} {l1 : Int} {l2 : Int} {l3 : Int} {x0 : Int} {x1 : Int} : WP m200 44 [.inr (.inl l0), .inl l1, .inl l2, .inl l3] [.inl x1, .inl x0] σ Q = (if x1 ≤ x0 then WP m200 56 [.inr (.inl l0), .inl l1, .inl l2, .inl l3] [] σ Q else WP m200 47 [.inr (.inl l0), .inl l1, .inl l2, .inl l3] [] σ Q) := w_icge d200_44 (by decide)
theorem d200_47 : adec m200 47 = some (.aload_n 0, 1) := by decide +kernel
theorem s200_47 {l0 : Nat} {l1 : Int} {l2 : Int} {l3 : Int} : WP m200 47 [.inr (.inl l0), .inl l1, .inl l2, .inl l3] [] σ Q = WP m200 48 [.inr (.inl l0), .inl l1, .inl l2, .inl l3] [.inr (.inl l0)] σ Q := w_ld d200_47 rfl
theorem d200_48 : adec m200 48 = some (.getfield 75, 3) := by decide +kernel
theorem s200_48 {l0 : Nat} {l1 : Int} {l2 : Int} {l3 : Int} : WP m200 48 [.inr (.inl l0), .inl l1, .inl l2, .inl l3] [.inr (.inl 130)] σ Q = WP m200 51 [.inr (.inl l0), .inl l1, .inl l2, .inl l3] [.inr (.inl 151)] σ Q := (w_getR (c := 10) (n := 33) d200_48 (by decide +kernel) (by decide +kernel)).trans (g_and ⟨isO_dec (by decide +kernel), by decide +kernel⟩)
theorem d200_51 : adec m200 51 = some (.iload_n 2, 1) := by decide +kernel
theorem s200_51 {l0 : Nat} {l1 : Int} {l2 : Int} {l3 : Int} {x0 : Nat} : WP m200 51 [.inr (.inl l0), .inl l1, .inl l2, .inl l3] [.inr (.inl x0)] σ Q = WP m200 52 [.inr (.inl l0), .inl l1, .inl l2, .inl l3] [.inl l2, .inr (.inl x0)] σ Q := w_ld d200_51 rfl
theorem d200_52 : adec m200 52 = some (.iaload, 1) := by decide +kernel
theorem s200_52 {l0 : Nat} {l1 : Int} {l2 : Int} {l3 : Int} {x0 : Nat} {x1 : Int} : WP m200 52 [.inr (.inl l0), .inl l1, .inl l2, .inl l3] [.inl x1, .inr (.inl x0)] σ Q = ((kdS x0 = 20 ∧ 0 ≤ x1 ∧ x1 < ln x0) ∧ WP m200 53 [.inr (.inl l0), .inl l1, .inl l2, .inl l3] [.inl (σ x0 x1.toNat)] σ Q) := w_iald d200_52
theorem d200_53 : adec m200 53 = some (.goto (4), 3) := by decide +kernel
theorem s200_53 {l0 : Nat} {l1 : Int} {l2 : Int} {l3 : Int} {x0 : Int} : WP m200 53 [.inr (.inl l0), .inl l1, .inl l2, .inl l3] [.inl x0] σ Q = WP m200 57 [.inr (.inl l0), .inl l1, .inl l2, .inl l3] [.inl x0] σ Q := w_goto d200_53 (by decide)
theorem d200_56 : adec m200 56 = some (.iconst (-1), 1) := by decide +kernel
theorem s200_56 {l0 : Nat} {l1 : Int} {l2 : Int} {l3 : Int} : WP m200 56 [.inr (.inl l0), .inl l1, .inl l2, .inl l3] [] σ Q = WP m200 57 [.inr (.inl l0), .inl l1, .inl l2, .inl l3] [.inl (-1)] σ Q := w_iconst d200_56 (by decide)
theorem d200_57 : adec m200 57 = some (.ireturn, 1) := by decide +kernel
theorem s200_57 {l0 : Nat} {l1 : Int} {l2 : Int} {l3 : Int} {x0 : Int} : WP m200 57 [.inr (.inl l0), .inl l1, .inl l2, .inl l3] [.inl x0] σ Q = Q [.inl x0] σ := w_ri d200_57 rfl
theorem e200 {p0 : Nat} {p1 : Int} {p2 : Int} : CA m200 [.inr (.inl p0), .inl p1, .inl p2] σ Q = WP m200 0 [.inr (.inl p0), .inl p1, .inl p2, vU] [] σ Q := rfl
-- BinderPressModel.same(II)I
theorem d201_0 : adec m201 0 = some (.iload_n 1, 1) := by decide +kernel
theorem s201_0 {l0 : Nat} {l1 : Int} {l2 : Int} {l3 : AV} {l4 : AV} : WP m201 0 [.inr (.inl l0), .inl l1, .inl l2, l3, l4] [] σ Q = WP m201 1 [.inr (.inl l0), .inl l1, .inl l2, l3, l4] [.inl l1] σ Q := w_ld d201_0 rfl
theorem d201_1 : adec m201 1 = some (.invokestatic 152, 3) := by decide +kernel
theorem s201_1 {l0 : Nat} {l1 : Int} {l2 : Int} {l3 : AV} {l4 : AV} {x0 : Int} : WP m201 1 [.inr (.inl l0), .inl l1, .inl l2, l3, l4] [.inl x0] σ Q = CA m130 [.inl x0] σ (fun v σ2 => WP m201 4 [.inr (.inl l0), .inl l1, .inl l2, l3, l4] (v ++ []) σ2 Q) := w_cS (k := 130) d201_1 (by decide +kernel) (md := 1) (by decide +kernel) m130_at rfl rfl ⟨Nat.le_of_ble_eq_true rfl, Nat.le_of_ble_eq_true rfl, Nat.le_of_ble_eq_true rfl⟩ (by decide)
theorem d201_4 : adec m201 4 = some (.ifCond .eq (10), 3) := by decide +kernel
theorem s201_4 {l0 : Nat} {l1 : Int} {l2 : Int} {l3 : AV} {l4 : AV} {x0 : Int} : WP m201 4 [.inr (.inl l0), .inl l1, .inl l2, l3, l4] [.inl x0] σ Q = (if x0 = 0 then WP m201 14 [.inr (.inl l0), .inl l1, .inl l2, l3, l4] [] σ Q else WP m201 7 [.inr (.inl l0), .inl l1, .inl l2, l3, l4] [] σ Q) := w_ifeq d201_4 (by decide)
theorem d201_7 : adec m201 7 = some (.iload_n 2, 1) := by decide +kernel
theorem s201_7 {l0 : Nat} {l1 : Int} {l2 : Int} {l3 : AV} {l4 : AV} : WP m201 7 [.inr (.inl l0), .inl l1, .inl l2, l3, l4] [] σ Q = WP m201 8 [.inr (.inl l0), .inl l1, .inl l2, l3, l4] [.inl l2] σ Q := w_ld d201_7 rfl
theorem d201_8 : adec m201 8 = some (.invokestatic 152, 3) := by decide +kernel
theorem s201_8 {l0 : Nat} {l1 : Int} {l2 : Int} {l3 : AV} {l4 : AV} {x0 : Int} : WP m201 8 [.inr (.inl l0), .inl l1, .inl l2, l3, l4] [.inl x0] σ Q = CA m130 [.inl x0] σ (fun v σ2 => WP m201 11 [.inr (.inl l0), .inl l1, .inl l2, l3, l4] (v ++ []) σ2 Q) := w_cS (k := 130) d201_8 (by decide +kernel) (md := 1) (by decide +kernel) m130_at rfl rfl ⟨Nat.le_of_ble_eq_true rfl, Nat.le_of_ble_eq_true rfl, Nat.le_of_ble_eq_true rfl⟩ (by decide)
theorem d201_11 : adec m201 11 = some (.ifCond .ne (6), 3) := by decide +kernel
theorem s201_11 {l0 : Nat} {l1 : Int} {l2 : Int} {l3 : AV} {l4 : AV} {x0 : Int} : WP m201 11 [.inr (.inl l0), .inl l1, .inl l2, l3, l4] [.inl x0] σ Q = (if x0 = 0 then WP m201 14 [.inr (.inl l0), .inl l1, .inl l2, l3, l4] [] σ Q else WP m201 17 [.inr (.inl l0), .inl l1, .inl l2, l3, l4] [] σ Q) := w_ifne d201_11 (by decide)
theorem d201_14 : adec m201 14 = some (.ldc 155, 2) := by decide +kernel
theorem s201_14 {l0 : Nat} {l1 : Int} {l2 : Int} {l3 : AV} {l4 : AV} : WP m201 14 [.inr (.inl l0), .inl l1, .inl l2, l3, l4] [] σ Q = WP m201 16 [.inr (.inl l0), .inl l1, .inl l2, l3, l4] [.inl (-1000000001)] σ Q := w_ldc d201_14 (by decide +kernel) (by decide)
theorem d201_16 : adec m201 16 = some (.ireturn, 1) := by decide +kernel
theorem s201_16 {l0 : Nat} {l1 : Int} {l2 : Int} {l3 : AV} {l4 : AV} {x0 : Int} : WP m201 16 [.inr (.inl l0), .inl l1, .inl l2, l3, l4] [.inl x0] σ Q = Q [.inl x0] σ := w_ri d201_16 rfl
theorem d201_17 : adec m201 17 = some (.aload_n 0, 1) := by decide +kernel
theorem s201_17 {l0 : Nat} {l1 : Int} {l2 : Int} {l3 : AV} {l4 : AV} : WP m201 17 [.inr (.inl l0), .inl l1, .inl l2, l3, l4] [] σ Q = WP m201 18 [.inr (.inl l0), .inl l1, .inl l2, l3, l4] [.inr (.inl l0)] σ Q := w_ld d201_17 rfl
theorem d201_18 : adec m201 18 = some (.iload_n 1, 1) := by decide +kernel
theorem s201_18 {l0 : Nat} {l1 : Int} {l2 : Int} {l3 : AV} {l4 : AV} {x0 : Nat} : WP m201 18 [.inr (.inl l0), .inl l1, .inl l2, l3, l4] [.inr (.inl x0)] σ Q = WP m201 19 [.inr (.inl l0), .inl l1, .inl l2, l3, l4] [.inl l1, .inr (.inl x0)] σ Q := w_ld d201_18 rfl
theorem d201_19 : adec m201 19 = some (.invokevirtual 100, 3) := by decide +kernel
theorem s201_19 {l0 : Nat} {l1 : Int} {l2 : Int} {l3 : AV} {l4 : AV} {x1 : Int} : WP m201 19 [.inr (.inl l0), .inl l1, .inl l2, l3, l4] [.inl x1, .inr (.inl 130)] σ Q = CA m131 [.inr (.inl 130), .inl x1] σ (fun v σ2 => WP m201 22 [.inr (.inl l0), .inl l1, .inl l2, l3, l4] (v ++ []) σ2 Q) := (w_cV (k := 131) d201_19 (by decide +kernel) m131_at rfl rfl ⟨Nat.le_of_ble_eq_true rfl, Nat.le_of_ble_eq_true rfl, Nat.le_of_ble_eq_true rfl⟩ (by decide)).trans (g_and (isO_dec (by decide +kernel)))
theorem d201_22 : adec m201 22 = some (.ifCond .eq (11), 3) := by decide +kernel
theorem s201_22 {l0 : Nat} {l1 : Int} {l2 : Int} {l3 : AV} {l4 : AV} {x0 : Int} : WP m201 22 [.inr (.inl l0), .inl l1, .inl l2, l3, l4] [.inl x0] σ Q = (if x0 = 0 then WP m201 33 [.inr (.inl l0), .inl l1, .inl l2, l3, l4] [] σ Q else WP m201 25 [.inr (.inl l0), .inl l1, .inl l2, l3, l4] [] σ Q) := w_ifeq d201_22 (by decide)
theorem d201_25 : adec m201 25 = some (.aload_n 0, 1) := by decide +kernel
theorem s201_25 {l0 : Nat} {l1 : Int} {l2 : Int} {l3 : AV} {l4 : AV} : WP m201 25 [.inr (.inl l0), .inl l1, .inl l2, l3, l4] [] σ Q = WP m201 26 [.inr (.inl l0), .inl l1, .inl l2, l3, l4] [.inr (.inl l0)] σ Q := w_ld d201_25 rfl
theorem d201_26 : adec m201 26 = some (.iload_n 2, 1) := by decide +kernel
theorem s201_26 {l0 : Nat} {l1 : Int} {l2 : Int} {l3 : AV} {l4 : AV} {x0 : Nat} : WP m201 26 [.inr (.inl l0), .inl l1, .inl l2, l3, l4] [.inr (.inl x0)] σ Q = WP m201 27 [.inr (.inl l0), .inl l1, .inl l2, l3, l4] [.inl l2, .inr (.inl x0)] σ Q := w_ld d201_26 rfl
theorem d201_27 : adec m201 27 = some (.invokevirtual 100, 3) := by decide +kernel
theorem s201_27 {l0 : Nat} {l1 : Int} {l2 : Int} {l3 : AV} {l4 : AV} {x1 : Int} : WP m201 27 [.inr (.inl l0), .inl l1, .inl l2, l3, l4] [.inl x1, .inr (.inl 130)] σ Q = CA m131 [.inr (.inl 130), .inl x1] σ (fun v σ2 => WP m201 30 [.inr (.inl l0), .inl l1, .inl l2, l3, l4] (v ++ []) σ2 Q) := (w_cV (k := 131) d201_27 (by decide +kernel) m131_at rfl rfl ⟨Nat.le_of_ble_eq_true rfl, Nat.le_of_ble_eq_true rfl, Nat.le_of_ble_eq_true rfl⟩ (by decide)).trans (g_and (isO_dec (by decide +kernel)))
theorem d201_30 : adec m201 30 = some (.ifCond .ne (6), 3) := by decide +kernel
theorem s201_30 {l0 : Nat} {l1 : Int} {l2 : Int} {l3 : AV} {l4 : AV} {x0 : Int} : WP m201 30 [.inr (.inl l0), .inl l1, .inl l2, l3, l4] [.inl x0] σ Q = (if x0 = 0 then WP m201 33 [.inr (.inl l0), .inl l1, .inl l2, l3, l4] [] σ Q else WP m201 36 [.inr (.inl l0), .inl l1, .inl l2, l3, l4] [] σ Q) := w_ifne d201_30 (by decide)
theorem d201_33 : adec m201 33 = some (.ldc 195, 2) := by decide +kernel
theorem s201_33 {l0 : Nat} {l1 : Int} {l2 : Int} {l3 : AV} {l4 : AV} : WP m201 33 [.inr (.inl l0), .inl l1, .inl l2, l3, l4] [] σ Q = WP m201 35 [.inr (.inl l0), .inl l1, .inl l2, l3, l4] [.inl (-1000000003)] σ Q := w_ldc d201_33 (by decide +kernel) (by decide)
theorem d201_35 : adec m201 35 = some (.ireturn, 1) := by decide +kernel
theorem s201_35 {l0 : Nat} {l1 : Int} {l2 : Int} {l3 : AV} {l4 : AV} {x0 : Int} : WP m201 35 [.inr (.inl l0), .inl l1, .inl l2, l3, l4] [.inl x0] σ Q = Q [.inl x0] σ := w_ri d201_35 rfl
theorem d201_36 : adec m201 36 = some (.iconst (1), 1) := by decide +kernel
theorem s201_36 {l0 : Nat} {l1 : Int} {l2 : Int} {l3 : AV} {l4 : AV} : WP m201 36 [.inr (.inl l0), .inl l1, .inl l2, l3, l4] [] σ Q = WP m201 37 [.inr (.inl l0), .inl l1, .inl l2, l3, l4] [.inl (1)] σ Q := w_iconst d201_36 (by decide)
theorem d201_37 : adec m201 37 = some (.istore_n 3, 1) := by decide +kernel
theorem s201_37 {l0 : Nat} {l1 : Int} {l2 : Int} {l3 : AV} {l4 : AV} {x0 : Int} : WP m201 37 [.inr (.inl l0), .inl l1, .inl l2, l3, l4] [.inl x0] σ Q = WP m201 38 [.inr (.inl l0), .inl l1, .inl l2, .inl x0, l4] [] σ Q := w_st1 (j := 3) d201_37 rfl (Nat.le_of_ble_eq_true rfl) rfl
theorem d201_38 : adec m201 38 = some (.iconst (0), 1) := by decide +kernel
theorem s201_38 {l0 : Nat} {l1 : Int} {l2 : Int} {l3 : Int} {l4 : AV} : WP m201 38 [.inr (.inl l0), .inl l1, .inl l2, .inl l3, l4] [] σ Q = WP m201 39 [.inr (.inl l0), .inl l1, .inl l2, .inl l3, l4] [.inl (0)] σ Q := w_iconst d201_38 (by decide)
theorem d201_39 : adec m201 39 = some (.istore 4, 2) := by decide +kernel
theorem s201_39 {l0 : Nat} {l1 : Int} {l2 : Int} {l3 : Int} {l4 : AV} {x0 : Int} : WP m201 39 [.inr (.inl l0), .inl l1, .inl l2, .inl l3, l4] [.inl x0] σ Q = WP m201 41 [.inr (.inl l0), .inl l1, .inl l2, .inl l3, .inl x0] [] σ Q := w_st1 (j := 4) d201_39 rfl (Nat.le_of_ble_eq_true rfl) rfl
theorem d201_41 : adec m201 41 = some (.iload 4, 2) := by decide +kernel
theorem s201_41 {l0 : Nat} {l1 : Int} {l2 : Int} {l3 : Int} {l4 : Int} : WP m201 41 [.inr (.inl l0), .inl l1, .inl l2, .inl l3, .inl l4] [] σ Q = WP m201 43 [.inr (.inl l0), .inl l1, .inl l2, .inl l3, .inl l4] [.inl l4] σ Q := w_ld d201_41 rfl
theorem d201_43 : adec m201 43 = some (.aload_n 0, 1) := by decide +kernel
theorem s201_43 {l0 : Nat} {l1 : Int} {l2 : Int} {l3 : Int} {l4 : Int} {x0 : Int} : WP m201 43 [.inr (.inl l0), .inl l1, .inl l2, .inl l3, .inl l4] [.inl x0] σ Q = WP m201 44 [.inr (.inl l0), .inl l1, .inl l2, .inl l3, .inl l4] [.inr (.inl l0), .inl x0] σ Q := w_ld d201_43 rfl
theorem d201_44 : adec m201 44 = some (.iload_n 1, 1) := by decide +kernel
theorem s201_44 {l0 : Nat} {l1 : Int} {l2 : Int} {l3 : Int} {l4 : Int} {x0 : Int} {x1 : Nat} : WP m201 44 [.inr (.inl l0), .inl l1, .inl l2, .inl l3, .inl l4] [.inr (.inl x1), .inl x0] σ Q = WP m201 45 [.inr (.inl l0), .inl l1, .inl l2, .inl l3, .inl l4] [.inl l1, .inr (.inl x1), .inl x0] σ Q := w_ld d201_44 rfl
theorem d201_45 : adec m201 45 = some (.invokevirtual 100, 3) := by decide +kernel
theorem s201_45 {l0 : Nat} {l1 : Int} {l2 : Int} {l3 : Int} {l4 : Int} {x0 : Int} {x2 : Int} : WP m201 45 [.inr (.inl l0), .inl l1, .inl l2, .inl l3, .inl l4] [.inl x2, .inr (.inl 130), .inl x0] σ Q = CA m131 [.inr (.inl 130), .inl x2] σ (fun v σ2 => WP m201 48 [.inr (.inl l0), .inl l1, .inl l2, .inl l3, .inl l4] (v ++ [.inl x0]) σ2 Q) := (w_cV (k := 131) d201_45 (by decide +kernel) m131_at rfl rfl ⟨Nat.le_of_ble_eq_true rfl, Nat.le_of_ble_eq_true rfl, Nat.le_of_ble_eq_true rfl⟩ (by decide)).trans (g_and (isO_dec (by decide +kernel)))
theorem d201_48 : adec m201 48 = some (.if_icmp .gt (46), 3) := by decide +kernel
theorem s201_48 {l0 : Nat} {l1 : Int} {l2 : Int} {l3 : Int} {l4 : Int} {x0 : Int} {x1 : Int} : WP m201 48 [.inr (.inl l0), .inl l1, .inl l2, .inl l3, .inl l4] [.inl x1, .inl x0] σ Q = (if x1 < x0 then WP m201 94 [.inr (.inl l0), .inl l1, .inl l2, .inl l3, .inl l4] [] σ Q else WP m201 51 [.inr (.inl l0), .inl l1, .inl l2, .inl l3, .inl l4] [] σ Q) := w_icgt d201_48 (by decide)
theorem d201_51 : adec m201 51 = some (.iload_n 3, 1) := by decide +kernel
theorem s201_51 {l0 : Nat} {l1 : Int} {l2 : Int} {l3 : Int} {l4 : Int} : WP m201 51 [.inr (.inl l0), .inl l1, .inl l2, .inl l3, .inl l4] [] σ Q = WP m201 52 [.inr (.inl l0), .inl l1, .inl l2, .inl l3, .inl l4] [.inl l3] σ Q := w_ld d201_51 rfl
theorem d201_52 : adec m201 52 = some (.ifCond .eq (42), 3) := by decide +kernel
theorem s201_52 {l0 : Nat} {l1 : Int} {l2 : Int} {l3 : Int} {l4 : Int} {x0 : Int} : WP m201 52 [.inr (.inl l0), .inl l1, .inl l2, .inl l3, .inl l4] [.inl x0] σ Q = (if x0 = 0 then WP m201 94 [.inr (.inl l0), .inl l1, .inl l2, .inl l3, .inl l4] [] σ Q else WP m201 55 [.inr (.inl l0), .inl l1, .inl l2, .inl l3, .inl l4] [] σ Q) := w_ifeq d201_52 (by decide)
theorem d201_55 : adec m201 55 = some (.aload_n 0, 1) := by decide +kernel
theorem s201_55 {l0 : Nat} {l1 : Int} {l2 : Int} {l3 : Int} {l4 : Int} : WP m201 55 [.inr (.inl l0), .inl l1, .inl l2, .inl l3, .inl l4] [] σ Q = WP m201 56 [.inr (.inl l0), .inl l1, .inl l2, .inl l3, .inl l4] [.inr (.inl l0)] σ Q := w_ld d201_55 rfl
theorem d201_56 : adec m201 56 = some (.getfield 7, 3) := by decide +kernel
theorem s201_56 {l0 : Nat} {l1 : Int} {l2 : Int} {l3 : Int} {l4 : Int} : WP m201 56 [.inr (.inl l0), .inl l1, .inl l2, .inl l3, .inl l4] [.inr (.inl 130)] σ Q = WP m201 59 [.inr (.inl l0), .inl l1, .inl l2, .inl l3, .inl l4] [.inr (.inl 131)] σ Q := (w_getR (c := 10) (n := 0) d201_56 (by decide +kernel) (by decide +kernel)).trans (g_and ⟨isO_dec (by decide +kernel), by decide +kernel⟩)
theorem d201_59 : adec m201 59 = some (.bipush (121), 2) := by decide +kernel
theorem s201_59 {l0 : Nat} {l1 : Int} {l2 : Int} {l3 : Int} {l4 : Int} {x0 : Nat} : WP m201 59 [.inr (.inl l0), .inl l1, .inl l2, .inl l3, .inl l4] [.inr (.inl x0)] σ Q = WP m201 61 [.inr (.inl l0), .inl l1, .inl l2, .inl l3, .inl l4] [.inl (121), .inr (.inl x0)] σ Q := w_bipush d201_59 (by decide)
theorem d201_61 : adec m201 61 = some (.iload_n 1, 1) := by decide +kernel
theorem s201_61 {l0 : Nat} {l1 : Int} {l2 : Int} {l3 : Int} {l4 : Int} {x0 : Nat} {x1 : Int} : WP m201 61 [.inr (.inl l0), .inl l1, .inl l2, .inl l3, .inl l4] [.inl x1, .inr (.inl x0)] σ Q = WP m201 62 [.inr (.inl l0), .inl l1, .inl l2, .inl l3, .inl l4] [.inl l1, .inl x1, .inr (.inl x0)] σ Q := w_ld d201_61 rfl
theorem d201_62 : adec m201 62 = some (.imul, 1) := by decide +kernel
theorem s201_62 {l0 : Nat} {l1 : Int} {l2 : Int} {l3 : Int} {l4 : Int} {x0 : Nat} {x1 : Int} {x2 : Int} : WP m201 62 [.inr (.inl l0), .inl l1, .inl l2, .inl l3, .inl l4] [.inl x2, .inl x1, .inr (.inl x0)] σ Q = (inI (x1 * x2) ∧ WP m201 63 [.inr (.inl l0), .inl l1, .inl l2, .inl l3, .inl l4] [.inl (x1 * x2), .inr (.inl x0)] σ Q) := w_imul d201_62
theorem d201_63 : adec m201 63 = some (.iload 4, 2) := by decide +kernel
theorem s201_63 {l0 : Nat} {l1 : Int} {l2 : Int} {l3 : Int} {l4 : Int} {x0 : Nat} {x1 : Int} : WP m201 63 [.inr (.inl l0), .inl l1, .inl l2, .inl l3, .inl l4] [.inl x1, .inr (.inl x0)] σ Q = WP m201 65 [.inr (.inl l0), .inl l1, .inl l2, .inl l3, .inl l4] [.inl l4, .inl x1, .inr (.inl x0)] σ Q := w_ld d201_63 rfl
theorem d201_65 : adec m201 65 = some (.iadd, 1) := by decide +kernel
theorem s201_65 {l0 : Nat} {l1 : Int} {l2 : Int} {l3 : Int} {l4 : Int} {x0 : Nat} {x1 : Int} {x2 : Int} : WP m201 65 [.inr (.inl l0), .inl l1, .inl l2, .inl l3, .inl l4] [.inl x2, .inl x1, .inr (.inl x0)] σ Q = (inI (x1 + x2) ∧ WP m201 66 [.inr (.inl l0), .inl l1, .inl l2, .inl l3, .inl l4] [.inl (x1 + x2), .inr (.inl x0)] σ Q) := w_iadd d201_65
theorem d201_66 : adec m201 66 = some (.iaload, 1) := by decide +kernel
theorem s201_66 {l0 : Nat} {l1 : Int} {l2 : Int} {l3 : Int} {l4 : Int} {x0 : Nat} {x1 : Int} : WP m201 66 [.inr (.inl l0), .inl l1, .inl l2, .inl l3, .inl l4] [.inl x1, .inr (.inl x0)] σ Q = ((kdS x0 = 20 ∧ 0 ≤ x1 ∧ x1 < ln x0) ∧ WP m201 67 [.inr (.inl l0), .inl l1, .inl l2, .inl l3, .inl l4] [.inl (σ x0 x1.toNat)] σ Q) := w_iald d201_66
theorem d201_67 : adec m201 67 = some (.aload_n 0, 1) := by decide +kernel
theorem s201_67 {l0 : Nat} {l1 : Int} {l2 : Int} {l3 : Int} {l4 : Int} {x0 : Int} : WP m201 67 [.inr (.inl l0), .inl l1, .inl l2, .inl l3, .inl l4] [.inl x0] σ Q = WP m201 68 [.inr (.inl l0), .inl l1, .inl l2, .inl l3, .inl l4] [.inr (.inl l0), .inl x0] σ Q := w_ld d201_67 rfl
theorem d201_68 : adec m201 68 = some (.getfield 7, 3) := by decide +kernel
theorem s201_68 {l0 : Nat} {l1 : Int} {l2 : Int} {l3 : Int} {l4 : Int} {x0 : Int} : WP m201 68 [.inr (.inl l0), .inl l1, .inl l2, .inl l3, .inl l4] [.inr (.inl 130), .inl x0] σ Q = WP m201 71 [.inr (.inl l0), .inl l1, .inl l2, .inl l3, .inl l4] [.inr (.inl 131), .inl x0] σ Q := (w_getR (c := 10) (n := 0) d201_68 (by decide +kernel) (by decide +kernel)).trans (g_and ⟨isO_dec (by decide +kernel), by decide +kernel⟩)
theorem d201_71 : adec m201 71 = some (.bipush (121), 2) := by decide +kernel
theorem s201_71 {l0 : Nat} {l1 : Int} {l2 : Int} {l3 : Int} {l4 : Int} {x0 : Int} {x1 : Nat} : WP m201 71 [.inr (.inl l0), .inl l1, .inl l2, .inl l3, .inl l4] [.inr (.inl x1), .inl x0] σ Q = WP m201 73 [.inr (.inl l0), .inl l1, .inl l2, .inl l3, .inl l4] [.inl (121), .inr (.inl x1), .inl x0] σ Q := w_bipush d201_71 (by decide)
theorem d201_73 : adec m201 73 = some (.iload_n 2, 1) := by decide +kernel
theorem s201_73 {l0 : Nat} {l1 : Int} {l2 : Int} {l3 : Int} {l4 : Int} {x0 : Int} {x1 : Nat} {x2 : Int} : WP m201 73 [.inr (.inl l0), .inl l1, .inl l2, .inl l3, .inl l4] [.inl x2, .inr (.inl x1), .inl x0] σ Q = WP m201 74 [.inr (.inl l0), .inl l1, .inl l2, .inl l3, .inl l4] [.inl l2, .inl x2, .inr (.inl x1), .inl x0] σ Q := w_ld d201_73 rfl
theorem d201_74 : adec m201 74 = some (.imul, 1) := by decide +kernel
theorem s201_74 {l0 : Nat} {l1 : Int} {l2 : Int} {l3 : Int} {l4 : Int} {x0 : Int} {x1 : Nat} {x2 : Int} {x3 : Int} : WP m201 74 [.inr (.inl l0), .inl l1, .inl l2, .inl l3, .inl l4] [.inl x3, .inl x2, .inr (.inl x1), .inl x0] σ Q = (inI (x2 * x3) ∧ WP m201 75 [.inr (.inl l0), .inl l1, .inl l2, .inl l3, .inl l4] [.inl (x2 * x3), .inr (.inl x1), .inl x0] σ Q) := w_imul d201_74
theorem d201_75 : adec m201 75 = some (.iload 4, 2) := by decide +kernel
theorem s201_75 {l0 : Nat} {l1 : Int} {l2 : Int} {l3 : Int} {l4 : Int} {x0 : Int} {x1 : Nat} {x2 : Int} : WP m201 75 [.inr (.inl l0), .inl l1, .inl l2, .inl l3, .inl l4] [.inl x2, .inr (.inl x1), .inl x0] σ Q = WP m201 77 [.inr (.inl l0), .inl l1, .inl l2, .inl l3, .inl l4] [.inl l4, .inl x2, .inr (.inl x1), .inl x0] σ Q := w_ld d201_75 rfl
theorem d201_77 : adec m201 77 = some (.iadd, 1) := by decide +kernel
theorem s201_77 {l0 : Nat} {l1 : Int} {l2 : Int} {l3 : Int} {l4 : Int} {x0 : Int} {x1 : Nat} {x2 : Int} {x3 : Int} : WP m201 77 [.inr (.inl l0), .inl l1, .inl l2, .inl l3, .inl l4] [.inl x3, .inl x2, .inr (.inl x1), .inl x0] σ Q = (inI (x2 + x3) ∧ WP m201 78 [.inr (.inl l0), .inl l1, .inl l2, .inl l3, .inl l4] [.inl (x2 + x3), .inr (.inl x1), .inl x0] σ Q) := w_iadd d201_77
theorem d201_78 : adec m201 78 = some (.iaload, 1) := by decide +kernel
theorem s201_78 {l0 : Nat} {l1 : Int} {l2 : Int} {l3 : Int} {l4 : Int} {x0 : Int} {x1 : Nat} {x2 : Int} : WP m201 78 [.inr (.inl l0), .inl l1, .inl l2, .inl l3, .inl l4] [.inl x2, .inr (.inl x1), .inl x0] σ Q = ((kdS x1 = 20 ∧ 0 ≤ x2 ∧ x2 < ln x1) ∧ WP m201 79 [.inr (.inl l0), .inl l1, .inl l2, .inl l3, .inl l4] [.inl (σ x1 x2.toNat), .inl x0] σ Q) := w_iald d201_78
theorem d201_79 : adec m201 79 = some (.if_icmp .ne (7), 3) := by decide +kernel
theorem s201_79 {l0 : Nat} {l1 : Int} {l2 : Int} {l3 : Int} {l4 : Int} {x0 : Int} {x1 : Int} : WP m201 79 [.inr (.inl l0), .inl l1, .inl l2, .inl l3, .inl l4] [.inl x1, .inl x0] σ Q = (if x0 = x1 then WP m201 82 [.inr (.inl l0), .inl l1, .inl l2, .inl l3, .inl l4] [] σ Q else WP m201 86 [.inr (.inl l0), .inl l1, .inl l2, .inl l3, .inl l4] [] σ Q) := w_icne d201_79 (by decide)
theorem d201_82 : adec m201 82 = some (.iconst (1), 1) := by decide +kernel
theorem s201_82 {l0 : Nat} {l1 : Int} {l2 : Int} {l3 : Int} {l4 : Int} : WP m201 82 [.inr (.inl l0), .inl l1, .inl l2, .inl l3, .inl l4] [] σ Q = WP m201 83 [.inr (.inl l0), .inl l1, .inl l2, .inl l3, .inl l4] [.inl (1)] σ Q := w_iconst d201_82 (by decide)
theorem d201_83 : adec m201 83 = some (.goto (4), 3) := by decide +kernel
theorem s201_83 {l0 : Nat} {l1 : Int} {l2 : Int} {l3 : Int} {l4 : Int} {x0 : Int} : WP m201 83 [.inr (.inl l0), .inl l1, .inl l2, .inl l3, .inl l4] [.inl x0] σ Q = WP m201 87 [.inr (.inl l0), .inl l1, .inl l2, .inl l3, .inl l4] [.inl x0] σ Q := w_goto d201_83 (by decide)
theorem d201_86 : adec m201 86 = some (.iconst (0), 1) := by decide +kernel
theorem s201_86 {l0 : Nat} {l1 : Int} {l2 : Int} {l3 : Int} {l4 : Int} : WP m201 86 [.inr (.inl l0), .inl l1, .inl l2, .inl l3, .inl l4] [] σ Q = WP m201 87 [.inr (.inl l0), .inl l1, .inl l2, .inl l3, .inl l4] [.inl (0)] σ Q := w_iconst d201_86 (by decide)
theorem d201_87 : adec m201 87 = some (.istore_n 3, 1) := by decide +kernel
theorem s201_87 {l0 : Nat} {l1 : Int} {l2 : Int} {l3 : Int} {l4 : Int} {x0 : Int} : WP m201 87 [.inr (.inl l0), .inl l1, .inl l2, .inl l3, .inl l4] [.inl x0] σ Q = WP m201 88 [.inr (.inl l0), .inl l1, .inl l2, .inl x0, .inl l4] [] σ Q := w_st1 (j := 3) d201_87 rfl (Nat.le_of_ble_eq_true rfl) rfl
theorem d201_88 : adec m201 88 = some (.iinc 4 (1), 3) := by decide +kernel
theorem s201_88 {l0 : Nat} {l1 : Int} {l2 : Int} {l3 : Int} {l4 : Int} : WP m201 88 [.inr (.inl l0), .inl l1, .inl l2, .inl l3, .inl l4] [] σ Q = (inI (l4 + (1)) ∧ WP m201 91 [.inr (.inl l0), .inl l1, .inl l2, .inl l3, .inl (l4 + (1))] [] σ Q) := w_iinc d201_88 rfl rfl
theorem d201_91 : adec m201 91 = some (.goto (-50), 3) := by decide +kernel
theorem s201_91 {l0 : Nat} {l1 : Int} {l2 : Int} {l3 : Int} {l4 : Int} : WP m201 91 [.inr (.inl l0), .inl l1, .inl l2, .inl l3, .inl l4] [] σ Q = WP m201 41 [.inr (.inl l0), .inl l1, .inl l2, .inl l3, .inl l4] [] σ Q := w_goto d201_91 (by decide)
theorem d201_94 : adec m201 94 = some (.iload_n 3, 1) := by decide +kernel
theorem s201_94 {l0 : Nat} {l1 : Int} {l2 : Int} {l3 : Int} {l4 : Int} : WP m201 94 [.inr (.inl l0), .inl l1, .inl l2, .inl l3, .inl l4] [] σ Q = WP m201 95 [.inr (.inl l0), .inl l1, .inl l2, .inl l3, .inl l4] [.inl l3] σ Q := w_ld d201_94 rfl
theorem d201_95 : adec m201 95 = some (.ifCond .eq (7), 3) := by decide +kernel
theorem s201_95 {l0 : Nat} {l1 : Int} {l2 : Int} {l3 : Int} {l4 : Int} {x0 : Int} : WP m201 95 [.inr (.inl l0), .inl l1, .inl l2, .inl l3, .inl l4] [.inl x0] σ Q = (if x0 = 0 then WP m201 102 [.inr (.inl l0), .inl l1, .inl l2, .inl l3, .inl l4] [] σ Q else WP m201 98 [.inr (.inl l0), .inl l1, .inl l2, .inl l3, .inl l4] [] σ Q) := w_ifeq d201_95 (by decide)
theorem d201_98 : adec m201 98 = some (.iconst (1), 1) := by decide +kernel
theorem s201_98 {l0 : Nat} {l1 : Int} {l2 : Int} {l3 : Int} {l4 : Int} : WP m201 98 [.inr (.inl l0), .inl l1, .inl l2, .inl l3, .inl l4] [] σ Q = WP m201 99 [.inr (.inl l0), .inl l1, .inl l2, .inl l3, .inl l4] [.inl (1)] σ Q := w_iconst d201_98 (by decide)
theorem d201_99 : adec m201 99 = some (.goto (4), 3) := by decide +kernel
theorem s201_99 {l0 : Nat} {l1 : Int} {l2 : Int} {l3 : Int} {l4 : Int} {x0 : Int} : WP m201 99 [.inr (.inl l0), .inl l1, .inl l2, .inl l3, .inl l4] [.inl x0] σ Q = WP m201 103 [.inr (.inl l0), .inl l1, .inl l2, .inl l3, .inl l4] [.inl x0] σ Q := w_goto d201_99 (by decide)
theorem d201_102 : adec m201 102 = some (.iconst (0), 1) := by decide +kernel
theorem s201_102 {l0 : Nat} {l1 : Int} {l2 : Int} {l3 : Int} {l4 : Int} : WP m201 102 [.inr (.inl l0), .inl l1, .inl l2, .inl l3, .inl l4] [] σ Q = WP m201 103 [.inr (.inl l0), .inl l1, .inl l2, .inl l3, .inl l4] [.inl (0)] σ Q := w_iconst d201_102 (by decide)
theorem d201_103 : adec m201 103 = some (.ireturn, 1) := by decide +kernel
theorem s201_103 {l0 : Nat} {l1 : Int} {l2 : Int} {l3 : Int} {l4 : Int} {x0 : Int} : WP m201 103 [.inr (.inl l0), .inl l1, .inl l2, .inl l3, .inl l4] [.inl x0] σ Q = Q [.inl x0] σ := w_ri d201_103 rfl
theorem e201 {p0 : Nat} {p1 : Int} {p2 : Int} : CA m201 [.inr (.inl p0), .inl p1, .inl p2] σ Q = WP m201 0 [.inr (.inl p0), .inl p1, .inl p2, vU, vU] [] σ Q := rfl
-- BinderPressModel.sameKind(II)I
theorem d202_0 : adec m202 0 = some (.iload_n 1, 1) := by decide +kernel
theorem s202_0 {l0 : Nat} {l1 : Int} {l2 : Int} {l3 : AV} {l4 : AV} {l5 : AV} {l6 : AV} : WP m202 0 [.inr (.inl l0), .inl l1, .inl l2, l3, l4, l5, l6] [] σ Q = WP m202 1 [.inr (.inl l0), .inl l1, .inl l2, l3, l4, l5, l6] [.inl l1] σ Q := w_ld d202_0 rfl
theorem d202_1 : adec m202 1 = some (.invokestatic 152, 3) := by decide +kernel
theorem s202_1 {l0 : Nat} {l1 : Int} {l2 : Int} {l3 : AV} {l4 : AV} {l5 : AV} {l6 : AV} {x0 : Int} : WP m202 1 [.inr (.inl l0), .inl l1, .inl l2, l3, l4, l5, l6] [.inl x0] σ Q = CA m130 [.inl x0] σ (fun v σ2 => WP m202 4 [.inr (.inl l0), .inl l1, .inl l2, l3, l4, l5, l6] (v ++ []) σ2 Q) := w_cS (k := 130) d202_1 (by decide +kernel) (md := 1) (by decide +kernel) m130_at rfl rfl ⟨Nat.le_of_ble_eq_true rfl, Nat.le_of_ble_eq_true rfl, Nat.le_of_ble_eq_true rfl⟩ (by decide)
theorem d202_4 : adec m202 4 = some (.ifCond .eq (10), 3) := by decide +kernel
theorem s202_4 {l0 : Nat} {l1 : Int} {l2 : Int} {l3 : AV} {l4 : AV} {l5 : AV} {l6 : AV} {x0 : Int} : WP m202 4 [.inr (.inl l0), .inl l1, .inl l2, l3, l4, l5, l6] [.inl x0] σ Q = (if x0 = 0 then WP m202 14 [.inr (.inl l0), .inl l1, .inl l2, l3, l4, l5, l6] [] σ Q else WP m202 7 [.inr (.inl l0), .inl l1, .inl l2, l3, l4, l5, l6] [] σ Q) := w_ifeq d202_4 (by decide)
theorem d202_7 : adec m202 7 = some (.iload_n 2, 1) := by decide +kernel
theorem s202_7 {l0 : Nat} {l1 : Int} {l2 : Int} {l3 : AV} {l4 : AV} {l5 : AV} {l6 : AV} : WP m202 7 [.inr (.inl l0), .inl l1, .inl l2, l3, l4, l5, l6] [] σ Q = WP m202 8 [.inr (.inl l0), .inl l1, .inl l2, l3, l4, l5, l6] [.inl l2] σ Q := w_ld d202_7 rfl
theorem d202_8 : adec m202 8 = some (.invokestatic 152, 3) := by decide +kernel
theorem s202_8 {l0 : Nat} {l1 : Int} {l2 : Int} {l3 : AV} {l4 : AV} {l5 : AV} {l6 : AV} {x0 : Int} : WP m202 8 [.inr (.inl l0), .inl l1, .inl l2, l3, l4, l5, l6] [.inl x0] σ Q = CA m130 [.inl x0] σ (fun v σ2 => WP m202 11 [.inr (.inl l0), .inl l1, .inl l2, l3, l4, l5, l6] (v ++ []) σ2 Q) := w_cS (k := 130) d202_8 (by decide +kernel) (md := 1) (by decide +kernel) m130_at rfl rfl ⟨Nat.le_of_ble_eq_true rfl, Nat.le_of_ble_eq_true rfl, Nat.le_of_ble_eq_true rfl⟩ (by decide)
theorem d202_11 : adec m202 11 = some (.ifCond .ne (6), 3) := by decide +kernel
theorem s202_11 {l0 : Nat} {l1 : Int} {l2 : Int} {l3 : AV} {l4 : AV} {l5 : AV} {l6 : AV} {x0 : Int} : WP m202 11 [.inr (.inl l0), .inl l1, .inl l2, l3, l4, l5, l6] [.inl x0] σ Q = (if x0 = 0 then WP m202 14 [.inr (.inl l0), .inl l1, .inl l2, l3, l4, l5, l6] [] σ Q else WP m202 17 [.inr (.inl l0), .inl l1, .inl l2, l3, l4, l5, l6] [] σ Q) := w_ifne d202_11 (by decide)
theorem d202_14 : adec m202 14 = some (.ldc 155, 2) := by decide +kernel
theorem s202_14 {l0 : Nat} {l1 : Int} {l2 : Int} {l3 : AV} {l4 : AV} {l5 : AV} {l6 : AV} : WP m202 14 [.inr (.inl l0), .inl l1, .inl l2, l3, l4, l5, l6] [] σ Q = WP m202 16 [.inr (.inl l0), .inl l1, .inl l2, l3, l4, l5, l6] [.inl (-1000000001)] σ Q := w_ldc d202_14 (by decide +kernel) (by decide)
theorem d202_16 : adec m202 16 = some (.ireturn, 1) := by decide +kernel
theorem s202_16 {l0 : Nat} {l1 : Int} {l2 : Int} {l3 : AV} {l4 : AV} {l5 : AV} {l6 : AV} {x0 : Int} : WP m202 16 [.inr (.inl l0), .inl l1, .inl l2, l3, l4, l5, l6] [.inl x0] σ Q = Q [.inl x0] σ := w_ri d202_16 rfl
theorem d202_17 : adec m202 17 = some (.aload_n 0, 1) := by decide +kernel
theorem s202_17 {l0 : Nat} {l1 : Int} {l2 : Int} {l3 : AV} {l4 : AV} {l5 : AV} {l6 : AV} : WP m202 17 [.inr (.inl l0), .inl l1, .inl l2, l3, l4, l5, l6] [] σ Q = WP m202 18 [.inr (.inl l0), .inl l1, .inl l2, l3, l4, l5, l6] [.inr (.inl l0)] σ Q := w_ld d202_17 rfl
theorem d202_18 : adec m202 18 = some (.iload_n 1, 1) := by decide +kernel
theorem s202_18 {l0 : Nat} {l1 : Int} {l2 : Int} {l3 : AV} {l4 : AV} {l5 : AV} {l6 : AV} {x0 : Nat} : WP m202 18 [.inr (.inl l0), .inl l1, .inl l2, l3, l4, l5, l6] [.inr (.inl x0)] σ Q = WP m202 19 [.inr (.inl l0), .inl l1, .inl l2, l3, l4, l5, l6] [.inl l1, .inr (.inl x0)] σ Q := w_ld d202_18 rfl
theorem d202_19 : adec m202 19 = some (.invokevirtual 100, 3) := by decide +kernel
theorem s202_19 {l0 : Nat} {l1 : Int} {l2 : Int} {l3 : AV} {l4 : AV} {l5 : AV} {l6 : AV} {x1 : Int} : WP m202 19 [.inr (.inl l0), .inl l1, .inl l2, l3, l4, l5, l6] [.inl x1, .inr (.inl 130)] σ Q = CA m131 [.inr (.inl 130), .inl x1] σ (fun v σ2 => WP m202 22 [.inr (.inl l0), .inl l1, .inl l2, l3, l4, l5, l6] (v ++ []) σ2 Q) := (w_cV (k := 131) d202_19 (by decide +kernel) m131_at rfl rfl ⟨Nat.le_of_ble_eq_true rfl, Nat.le_of_ble_eq_true rfl, Nat.le_of_ble_eq_true rfl⟩ (by decide)).trans (g_and (isO_dec (by decide +kernel)))
theorem d202_22 : adec m202 22 = some (.ifCond .eq (11), 3) := by decide +kernel
theorem s202_22 {l0 : Nat} {l1 : Int} {l2 : Int} {l3 : AV} {l4 : AV} {l5 : AV} {l6 : AV} {x0 : Int} : WP m202 22 [.inr (.inl l0), .inl l1, .inl l2, l3, l4, l5, l6] [.inl x0] σ Q = (if x0 = 0 then WP m202 33 [.inr (.inl l0), .inl l1, .inl l2, l3, l4, l5, l6] [] σ Q else WP m202 25 [.inr (.inl l0), .inl l1, .inl l2, l3, l4, l5, l6] [] σ Q) := w_ifeq d202_22 (by decide)
theorem d202_25 : adec m202 25 = some (.aload_n 0, 1) := by decide +kernel
theorem s202_25 {l0 : Nat} {l1 : Int} {l2 : Int} {l3 : AV} {l4 : AV} {l5 : AV} {l6 : AV} : WP m202 25 [.inr (.inl l0), .inl l1, .inl l2, l3, l4, l5, l6] [] σ Q = WP m202 26 [.inr (.inl l0), .inl l1, .inl l2, l3, l4, l5, l6] [.inr (.inl l0)] σ Q := w_ld d202_25 rfl
theorem d202_26 : adec m202 26 = some (.iload_n 2, 1) := by decide +kernel
theorem s202_26 {l0 : Nat} {l1 : Int} {l2 : Int} {l3 : AV} {l4 : AV} {l5 : AV} {l6 : AV} {x0 : Nat} : WP m202 26 [.inr (.inl l0), .inl l1, .inl l2, l3, l4, l5, l6] [.inr (.inl x0)] σ Q = WP m202 27 [.inr (.inl l0), .inl l1, .inl l2, l3, l4, l5, l6] [.inl l2, .inr (.inl x0)] σ Q := w_ld d202_26 rfl
theorem d202_27 : adec m202 27 = some (.invokevirtual 100, 3) := by decide +kernel
theorem s202_27 {l0 : Nat} {l1 : Int} {l2 : Int} {l3 : AV} {l4 : AV} {l5 : AV} {l6 : AV} {x1 : Int} : WP m202 27 [.inr (.inl l0), .inl l1, .inl l2, l3, l4, l5, l6] [.inl x1, .inr (.inl 130)] σ Q = CA m131 [.inr (.inl 130), .inl x1] σ (fun v σ2 => WP m202 30 [.inr (.inl l0), .inl l1, .inl l2, l3, l4, l5, l6] (v ++ []) σ2 Q) := (w_cV (k := 131) d202_27 (by decide +kernel) m131_at rfl rfl ⟨Nat.le_of_ble_eq_true rfl, Nat.le_of_ble_eq_true rfl, Nat.le_of_ble_eq_true rfl⟩ (by decide)).trans (g_and (isO_dec (by decide +kernel)))
theorem d202_30 : adec m202 30 = some (.ifCond .ne (6), 3) := by decide +kernel
theorem s202_30 {l0 : Nat} {l1 : Int} {l2 : Int} {l3 : AV} {l4 : AV} {l5 : AV} {l6 : AV} {x0 : Int} : WP m202 30 [.inr (.inl l0), .inl l1, .inl l2, l3, l4, l5, l6] [.inl x0] σ Q = (if x0 = 0 then WP m202 33 [.inr (.inl l0), .inl l1, .inl l2, l3, l4, l5, l6] [] σ Q else WP m202 36 [.inr (.inl l0), .inl l1, .inl l2, l3, l4, l5, l6] [] σ Q) := w_ifne d202_30 (by decide)
theorem d202_33 : adec m202 33 = some (.ldc 195, 2) := by decide +kernel
theorem s202_33 {l0 : Nat} {l1 : Int} {l2 : Int} {l3 : AV} {l4 : AV} {l5 : AV} {l6 : AV} : WP m202 33 [.inr (.inl l0), .inl l1, .inl l2, l3, l4, l5, l6] [] σ Q = WP m202 35 [.inr (.inl l0), .inl l1, .inl l2, l3, l4, l5, l6] [.inl (-1000000003)] σ Q := w_ldc d202_33 (by decide +kernel) (by decide)
theorem d202_35 : adec m202 35 = some (.ireturn, 1) := by decide +kernel
theorem s202_35 {l0 : Nat} {l1 : Int} {l2 : Int} {l3 : AV} {l4 : AV} {l5 : AV} {l6 : AV} {x0 : Int} : WP m202 35 [.inr (.inl l0), .inl l1, .inl l2, l3, l4, l5, l6] [.inl x0] σ Q = Q [.inl x0] σ := w_ri d202_35 rfl
theorem d202_36 : adec m202 36 = some (.aload_n 0, 1) := by decide +kernel
theorem s202_36 {l0 : Nat} {l1 : Int} {l2 : Int} {l3 : AV} {l4 : AV} {l5 : AV} {l6 : AV} : WP m202 36 [.inr (.inl l0), .inl l1, .inl l2, l3, l4, l5, l6] [] σ Q = WP m202 37 [.inr (.inl l0), .inl l1, .inl l2, l3, l4, l5, l6] [.inr (.inl l0)] σ Q := w_ld d202_36 rfl
theorem d202_37 : adec m202 37 = some (.iload_n 1, 1) := by decide +kernel
theorem s202_37 {l0 : Nat} {l1 : Int} {l2 : Int} {l3 : AV} {l4 : AV} {l5 : AV} {l6 : AV} {x0 : Nat} : WP m202 37 [.inr (.inl l0), .inl l1, .inl l2, l3, l4, l5, l6] [.inr (.inl x0)] σ Q = WP m202 38 [.inr (.inl l0), .inl l1, .inl l2, l3, l4, l5, l6] [.inl l1, .inr (.inl x0)] σ Q := w_ld d202_37 rfl
theorem d202_38 : adec m202 38 = some (.invokevirtual 337, 3) := by decide +kernel
theorem s202_38 {l0 : Nat} {l1 : Int} {l2 : Int} {l3 : AV} {l4 : AV} {l5 : AV} {l6 : AV} {x1 : Int} : WP m202 38 [.inr (.inl l0), .inl l1, .inl l2, l3, l4, l5, l6] [.inl x1, .inr (.inl 130)] σ Q = CA m189 [.inr (.inl 130), .inl x1] σ (fun v σ2 => WP m202 41 [.inr (.inl l0), .inl l1, .inl l2, l3, l4, l5, l6] (v ++ []) σ2 Q) := (w_cV (k := 189) d202_38 (by decide +kernel) m189_at rfl rfl ⟨Nat.le_of_ble_eq_true rfl, Nat.le_of_ble_eq_true rfl, Nat.le_of_ble_eq_true rfl⟩ (by decide)).trans (g_and (isO_dec (by decide +kernel)))
theorem d202_41 : adec m202 41 = some (.istore_n 3, 1) := by decide +kernel
theorem s202_41 {l0 : Nat} {l1 : Int} {l2 : Int} {l3 : AV} {l4 : AV} {l5 : AV} {l6 : AV} {x0 : Int} : WP m202 41 [.inr (.inl l0), .inl l1, .inl l2, l3, l4, l5, l6] [.inl x0] σ Q = WP m202 42 [.inr (.inl l0), .inl l1, .inl l2, .inl x0, l4, l5, l6] [] σ Q := w_st1 (j := 3) d202_41 rfl (Nat.le_of_ble_eq_true rfl) rfl
theorem d202_42 : adec m202 42 = some (.iconst (0), 1) := by decide +kernel
theorem s202_42 {l0 : Nat} {l1 : Int} {l2 : Int} {l3 : Int} {l4 : AV} {l5 : AV} {l6 : AV} : WP m202 42 [.inr (.inl l0), .inl l1, .inl l2, .inl l3, l4, l5, l6] [] σ Q = WP m202 43 [.inr (.inl l0), .inl l1, .inl l2, .inl l3, l4, l5, l6] [.inl (0)] σ Q := w_iconst d202_42 (by decide)
theorem d202_43 : adec m202 43 = some (.istore 4, 2) := by decide +kernel
theorem s202_43 {l0 : Nat} {l1 : Int} {l2 : Int} {l3 : Int} {l4 : AV} {l5 : AV} {l6 : AV} {x0 : Int} : WP m202 43 [.inr (.inl l0), .inl l1, .inl l2, .inl l3, l4, l5, l6] [.inl x0] σ Q = WP m202 45 [.inr (.inl l0), .inl l1, .inl l2, .inl l3, .inl x0, l5, l6] [] σ Q := w_st1 (j := 4) d202_43 rfl (Nat.le_of_ble_eq_true rfl) rfl
theorem d202_45 : adec m202 45 = some (.iload 4, 2) := by decide +kernel
theorem s202_45 {l0 : Nat} {l1 : Int} {l2 : Int} {l3 : Int} {l4 : Int} {l5 : AV} {l6 : AV} : WP m202 45 [.inr (.inl l0), .inl l1, .inl l2, .inl l3, .inl l4, l5, l6] [] σ Q = WP m202 47 [.inr (.inl l0), .inl l1, .inl l2, .inl l3, .inl l4, l5, l6] [.inl l4] σ Q := w_ld d202_45 rfl
theorem d202_47 : adec m202 47 = some (.iload_n 3, 1) := by decide +kernel
theorem s202_47 {l0 : Nat} {l1 : Int} {l2 : Int} {l3 : Int} {l4 : Int} {l5 : AV} {l6 : AV} {x0 : Int} : WP m202 47 [.inr (.inl l0), .inl l1, .inl l2, .inl l3, .inl l4, l5, l6] [.inl x0] σ Q = WP m202 48 [.inr (.inl l0), .inl l1, .inl l2, .inl l3, .inl l4, l5, l6] [.inl l3, .inl x0] σ Q := w_ld d202_47 rfl
theorem d202_48 : adec m202 48 = some (.if_icmp .ge (23), 3) := by decide +kernel
theorem s202_48 {l0 : Nat} {l1 : Int} {l2 : Int} {l3 : Int} {l4 : Int} {l5 : AV} {l6 : AV} {x0 : Int} {x1 : Int} : WP m202 48 [.inr (.inl l0), .inl l1, .inl l2, .inl l3, .inl l4, l5, l6] [.inl x1, .inl x0] σ Q = (if x1 ≤ x0 then WP m202 71 [.inr (.inl l0), .inl l1, .inl l2, .inl l3, .inl l4, l5, l6] [] σ Q else WP m202 51 [.inr (.inl l0), .inl l1, .inl l2, .inl l3, .inl l4, l5, l6] [] σ Q) := w_icge d202_48 (by decide)
theorem d202_51 : adec m202 51 = some (.aload_n 0, 1) := by decide +kernel
theorem s202_51 {l0 : Nat} {l1 : Int} {l2 : Int} {l3 : Int} {l4 : Int} {l5 : AV} {l6 : AV} : WP m202 51 [.inr (.inl l0), .inl l1, .inl l2, .inl l3, .inl l4, l5, l6] [] σ Q = WP m202 52 [.inr (.inl l0), .inl l1, .inl l2, .inl l3, .inl l4, l5, l6] [.inr (.inl l0)] σ Q := w_ld d202_51 rfl
theorem d202_52 : adec m202 52 = some (.getfield 81, 3) := by decide +kernel
theorem s202_52 {l0 : Nat} {l1 : Int} {l2 : Int} {l3 : Int} {l4 : Int} {l5 : AV} {l6 : AV} : WP m202 52 [.inr (.inl l0), .inl l1, .inl l2, .inl l3, .inl l4, l5, l6] [.inr (.inl 130)] σ Q = WP m202 55 [.inr (.inl l0), .inl l1, .inl l2, .inl l3, .inl l4, l5, l6] [.inr (.inl 153)] σ Q := (w_getR (c := 10) (n := 36) d202_52 (by decide +kernel) (by decide +kernel)).trans (g_and ⟨isO_dec (by decide +kernel), by decide +kernel⟩)
theorem d202_55 : adec m202 55 = some (.iload 4, 2) := by decide +kernel
theorem s202_55 {l0 : Nat} {l1 : Int} {l2 : Int} {l3 : Int} {l4 : Int} {l5 : AV} {l6 : AV} {x0 : Nat} : WP m202 55 [.inr (.inl l0), .inl l1, .inl l2, .inl l3, .inl l4, l5, l6] [.inr (.inl x0)] σ Q = WP m202 57 [.inr (.inl l0), .inl l1, .inl l2, .inl l3, .inl l4, l5, l6] [.inl l4, .inr (.inl x0)] σ Q := w_ld d202_55 rfl
theorem d202_57 : adec m202 57 = some (.aload_n 0, 1) := by decide +kernel
theorem s202_57 {l0 : Nat} {l1 : Int} {l2 : Int} {l3 : Int} {l4 : Int} {l5 : AV} {l6 : AV} {x0 : Nat} {x1 : Int} : WP m202 57 [.inr (.inl l0), .inl l1, .inl l2, .inl l3, .inl l4, l5, l6] [.inl x1, .inr (.inl x0)] σ Q = WP m202 58 [.inr (.inl l0), .inl l1, .inl l2, .inl l3, .inl l4, l5, l6] [.inr (.inl l0), .inl x1, .inr (.inl x0)] σ Q := w_ld d202_57 rfl
theorem d202_58 : adec m202 58 = some (.getfield 75, 3) := by decide +kernel
theorem s202_58 {l0 : Nat} {l1 : Int} {l2 : Int} {l3 : Int} {l4 : Int} {l5 : AV} {l6 : AV} {x0 : Nat} {x1 : Int} : WP m202 58 [.inr (.inl l0), .inl l1, .inl l2, .inl l3, .inl l4, l5, l6] [.inr (.inl 130), .inl x1, .inr (.inl x0)] σ Q = WP m202 61 [.inr (.inl l0), .inl l1, .inl l2, .inl l3, .inl l4, l5, l6] [.inr (.inl 151), .inl x1, .inr (.inl x0)] σ Q := (w_getR (c := 10) (n := 33) d202_58 (by decide +kernel) (by decide +kernel)).trans (g_and ⟨isO_dec (by decide +kernel), by decide +kernel⟩)
theorem d202_61 : adec m202 61 = some (.iload 4, 2) := by decide +kernel
theorem s202_61 {l0 : Nat} {l1 : Int} {l2 : Int} {l3 : Int} {l4 : Int} {l5 : AV} {l6 : AV} {x0 : Nat} {x1 : Int} {x2 : Nat} : WP m202 61 [.inr (.inl l0), .inl l1, .inl l2, .inl l3, .inl l4, l5, l6] [.inr (.inl x2), .inl x1, .inr (.inl x0)] σ Q = WP m202 63 [.inr (.inl l0), .inl l1, .inl l2, .inl l3, .inl l4, l5, l6] [.inl l4, .inr (.inl x2), .inl x1, .inr (.inl x0)] σ Q := w_ld d202_61 rfl
theorem d202_63 : adec m202 63 = some (.iaload, 1) := by decide +kernel
theorem s202_63 {l0 : Nat} {l1 : Int} {l2 : Int} {l3 : Int} {l4 : Int} {l5 : AV} {l6 : AV} {x0 : Nat} {x1 : Int} {x2 : Nat} {x3 : Int} : WP m202 63 [.inr (.inl l0), .inl l1, .inl l2, .inl l3, .inl l4, l5, l6] [.inl x3, .inr (.inl x2), .inl x1, .inr (.inl x0)] σ Q = ((kdS x2 = 20 ∧ 0 ≤ x3 ∧ x3 < ln x2) ∧ WP m202 64 [.inr (.inl l0), .inl l1, .inl l2, .inl l3, .inl l4, l5, l6] [.inl (σ x2 x3.toNat), .inl x1, .inr (.inl x0)] σ Q) := w_iald d202_63
theorem d202_64 : adec m202 64 = some (.iastore, 1) := by decide +kernel
theorem s202_64 {l0 : Nat} {l1 : Int} {l2 : Int} {l3 : Int} {l4 : Int} {l5 : AV} {l6 : AV} {x0 : Nat} {x1 : Int} {x2 : Int} : WP m202 64 [.inr (.inl l0), .inl l1, .inl l2, .inl l3, .inl l4, l5, l6] [.inl x2, .inl x1, .inr (.inl x0)] σ Q = ((kdS x0 = 20 ∧ 0 ≤ x1 ∧ x1 < ln x0) ∧ WP m202 65 [.inr (.inl l0), .inl l1, .inl l2, .inl l3, .inl l4, l5, l6] [] (aup σ x0 x1.toNat x2) Q) := w_iast d202_64
theorem d202_65 : adec m202 65 = some (.iinc 4 (1), 3) := by decide +kernel
theorem s202_65 {l0 : Nat} {l1 : Int} {l2 : Int} {l3 : Int} {l4 : Int} {l5 : AV} {l6 : AV} : WP m202 65 [.inr (.inl l0), .inl l1, .inl l2, .inl l3, .inl l4, l5, l6] [] σ Q = (inI (l4 + (1)) ∧ WP m202 68 [.inr (.inl l0), .inl l1, .inl l2, .inl l3, .inl (l4 + (1)), l5, l6] [] σ Q) := w_iinc d202_65 rfl rfl
theorem d202_68 : adec m202 68 = some (.goto (-23), 3) := by decide +kernel
theorem s202_68 {l0 : Nat} {l1 : Int} {l2 : Int} {l3 : Int} {l4 : Int} {l5 : AV} {l6 : AV} : WP m202 68 [.inr (.inl l0), .inl l1, .inl l2, .inl l3, .inl l4, l5, l6] [] σ Q = WP m202 45 [.inr (.inl l0), .inl l1, .inl l2, .inl l3, .inl l4, l5, l6] [] σ Q := w_goto d202_68 (by decide)
theorem d202_71 : adec m202 71 = some (.aload_n 0, 1) := by decide +kernel
theorem s202_71 {l0 : Nat} {l1 : Int} {l2 : Int} {l3 : Int} {l4 : Int} {l5 : AV} {l6 : AV} : WP m202 71 [.inr (.inl l0), .inl l1, .inl l2, .inl l3, .inl l4, l5, l6] [] σ Q = WP m202 72 [.inr (.inl l0), .inl l1, .inl l2, .inl l3, .inl l4, l5, l6] [.inr (.inl l0)] σ Q := w_ld d202_71 rfl
theorem d202_72 : adec m202 72 = some (.iload_n 2, 1) := by decide +kernel
theorem s202_72 {l0 : Nat} {l1 : Int} {l2 : Int} {l3 : Int} {l4 : Int} {l5 : AV} {l6 : AV} {x0 : Nat} : WP m202 72 [.inr (.inl l0), .inl l1, .inl l2, .inl l3, .inl l4, l5, l6] [.inr (.inl x0)] σ Q = WP m202 73 [.inr (.inl l0), .inl l1, .inl l2, .inl l3, .inl l4, l5, l6] [.inl l2, .inr (.inl x0)] σ Q := w_ld d202_72 rfl
theorem d202_73 : adec m202 73 = some (.invokevirtual 337, 3) := by decide +kernel
theorem s202_73 {l0 : Nat} {l1 : Int} {l2 : Int} {l3 : Int} {l4 : Int} {l5 : AV} {l6 : AV} {x1 : Int} : WP m202 73 [.inr (.inl l0), .inl l1, .inl l2, .inl l3, .inl l4, l5, l6] [.inl x1, .inr (.inl 130)] σ Q = CA m189 [.inr (.inl 130), .inl x1] σ (fun v σ2 => WP m202 76 [.inr (.inl l0), .inl l1, .inl l2, .inl l3, .inl l4, l5, l6] (v ++ []) σ2 Q) := (w_cV (k := 189) d202_73 (by decide +kernel) m189_at rfl rfl ⟨Nat.le_of_ble_eq_true rfl, Nat.le_of_ble_eq_true rfl, Nat.le_of_ble_eq_true rfl⟩ (by decide)).trans (g_and (isO_dec (by decide +kernel)))
theorem d202_76 : adec m202 76 = some (.istore 4, 2) := by decide +kernel
theorem s202_76 {l0 : Nat} {l1 : Int} {l2 : Int} {l3 : Int} {l4 : Int} {l5 : AV} {l6 : AV} {x0 : Int} : WP m202 76 [.inr (.inl l0), .inl l1, .inl l2, .inl l3, .inl l4, l5, l6] [.inl x0] σ Q = WP m202 78 [.inr (.inl l0), .inl l1, .inl l2, .inl l3, .inl x0, l5, l6] [] σ Q := w_st1 (j := 4) d202_76 rfl (Nat.le_of_ble_eq_true rfl) rfl
theorem d202_78 : adec m202 78 = some (.iload_n 3, 1) := by decide +kernel
theorem s202_78 {l0 : Nat} {l1 : Int} {l2 : Int} {l3 : Int} {l4 : Int} {l5 : AV} {l6 : AV} : WP m202 78 [.inr (.inl l0), .inl l1, .inl l2, .inl l3, .inl l4, l5, l6] [] σ Q = WP m202 79 [.inr (.inl l0), .inl l1, .inl l2, .inl l3, .inl l4, l5, l6] [.inl l3] σ Q := w_ld d202_78 rfl
theorem d202_79 : adec m202 79 = some (.ldc 114, 2) := by decide +kernel
theorem s202_79 {l0 : Nat} {l1 : Int} {l2 : Int} {l3 : Int} {l4 : Int} {l5 : AV} {l6 : AV} {x0 : Int} : WP m202 79 [.inr (.inl l0), .inl l1, .inl l2, .inl l3, .inl l4, l5, l6] [.inl x0] σ Q = WP m202 81 [.inr (.inl l0), .inl l1, .inl l2, .inl l3, .inl l4, l5, l6] [.inl (-1000000004), .inl x0] σ Q := w_ldc d202_79 (by decide +kernel) (by decide)
theorem d202_81 : adec m202 81 = some (.if_icmp .eq (10), 3) := by decide +kernel
theorem s202_81 {l0 : Nat} {l1 : Int} {l2 : Int} {l3 : Int} {l4 : Int} {l5 : AV} {l6 : AV} {x0 : Int} {x1 : Int} : WP m202 81 [.inr (.inl l0), .inl l1, .inl l2, .inl l3, .inl l4, l5, l6] [.inl x1, .inl x0] σ Q = (if x0 = x1 then WP m202 91 [.inr (.inl l0), .inl l1, .inl l2, .inl l3, .inl l4, l5, l6] [] σ Q else WP m202 84 [.inr (.inl l0), .inl l1, .inl l2, .inl l3, .inl l4, l5, l6] [] σ Q) := w_iceq d202_81 (by decide)
theorem d202_84 : adec m202 84 = some (.iload 4, 2) := by decide +kernel
theorem s202_84 {l0 : Nat} {l1 : Int} {l2 : Int} {l3 : Int} {l4 : Int} {l5 : AV} {l6 : AV} : WP m202 84 [.inr (.inl l0), .inl l1, .inl l2, .inl l3, .inl l4, l5, l6] [] σ Q = WP m202 86 [.inr (.inl l0), .inl l1, .inl l2, .inl l3, .inl l4, l5, l6] [.inl l4] σ Q := w_ld d202_84 rfl
theorem d202_86 : adec m202 86 = some (.ldc 114, 2) := by decide +kernel
theorem s202_86 {l0 : Nat} {l1 : Int} {l2 : Int} {l3 : Int} {l4 : Int} {l5 : AV} {l6 : AV} {x0 : Int} : WP m202 86 [.inr (.inl l0), .inl l1, .inl l2, .inl l3, .inl l4, l5, l6] [.inl x0] σ Q = WP m202 88 [.inr (.inl l0), .inl l1, .inl l2, .inl l3, .inl l4, l5, l6] [.inl (-1000000004), .inl x0] σ Q := w_ldc d202_86 (by decide +kernel) (by decide)
theorem d202_88 : adec m202 88 = some (.if_icmp .ne (6), 3) := by decide +kernel
theorem s202_88 {l0 : Nat} {l1 : Int} {l2 : Int} {l3 : Int} {l4 : Int} {l5 : AV} {l6 : AV} {x0 : Int} {x1 : Int} : WP m202 88 [.inr (.inl l0), .inl l1, .inl l2, .inl l3, .inl l4, l5, l6] [.inl x1, .inl x0] σ Q = (if x0 = x1 then WP m202 91 [.inr (.inl l0), .inl l1, .inl l2, .inl l3, .inl l4, l5, l6] [] σ Q else WP m202 94 [.inr (.inl l0), .inl l1, .inl l2, .inl l3, .inl l4, l5, l6] [] σ Q) := w_icne d202_88 (by decide)
theorem d202_91 : adec m202 91 = some (.ldc 114, 2) := by decide +kernel
theorem s202_91 {l0 : Nat} {l1 : Int} {l2 : Int} {l3 : Int} {l4 : Int} {l5 : AV} {l6 : AV} : WP m202 91 [.inr (.inl l0), .inl l1, .inl l2, .inl l3, .inl l4, l5, l6] [] σ Q = WP m202 93 [.inr (.inl l0), .inl l1, .inl l2, .inl l3, .inl l4, l5, l6] [.inl (-1000000004)] σ Q := w_ldc d202_91 (by decide +kernel) (by decide)
theorem d202_93 : adec m202 93 = some (.ireturn, 1) := by decide +kernel
theorem s202_93 {l0 : Nat} {l1 : Int} {l2 : Int} {l3 : Int} {l4 : Int} {l5 : AV} {l6 : AV} {x0 : Int} : WP m202 93 [.inr (.inl l0), .inl l1, .inl l2, .inl l3, .inl l4, l5, l6] [.inl x0] σ Q = Q [.inl x0] σ := w_ri d202_93 rfl
theorem d202_94 : adec m202 94 = some (.iload_n 3, 1) := by decide +kernel
theorem s202_94 {l0 : Nat} {l1 : Int} {l2 : Int} {l3 : Int} {l4 : Int} {l5 : AV} {l6 : AV} : WP m202 94 [.inr (.inl l0), .inl l1, .inl l2, .inl l3, .inl l4, l5, l6] [] σ Q = WP m202 95 [.inr (.inl l0), .inl l1, .inl l2, .inl l3, .inl l4, l5, l6] [.inl l3] σ Q := w_ld d202_94 rfl
theorem d202_95 : adec m202 95 = some (.iload 4, 2) := by decide +kernel
theorem s202_95 {l0 : Nat} {l1 : Int} {l2 : Int} {l3 : Int} {l4 : Int} {l5 : AV} {l6 : AV} {x0 : Int} : WP m202 95 [.inr (.inl l0), .inl l1, .inl l2, .inl l3, .inl l4, l5, l6] [.inl x0] σ Q = WP m202 97 [.inr (.inl l0), .inl l1, .inl l2, .inl l3, .inl l4, l5, l6] [.inl l4, .inl x0] σ Q := w_ld d202_95 rfl
theorem d202_97 : adec m202 97 = some (.if_icmp .ne (7), 3) := by decide +kernel
theorem s202_97 {l0 : Nat} {l1 : Int} {l2 : Int} {l3 : Int} {l4 : Int} {l5 : AV} {l6 : AV} {x0 : Int} {x1 : Int} : WP m202 97 [.inr (.inl l0), .inl l1, .inl l2, .inl l3, .inl l4, l5, l6] [.inl x1, .inl x0] σ Q = (if x0 = x1 then WP m202 100 [.inr (.inl l0), .inl l1, .inl l2, .inl l3, .inl l4, l5, l6] [] σ Q else WP m202 104 [.inr (.inl l0), .inl l1, .inl l2, .inl l3, .inl l4, l5, l6] [] σ Q) := w_icne d202_97 (by decide)
theorem d202_100 : adec m202 100 = some (.iconst (1), 1) := by decide +kernel
theorem s202_100 {l0 : Nat} {l1 : Int} {l2 : Int} {l3 : Int} {l4 : Int} {l5 : AV} {l6 : AV} : WP m202 100 [.inr (.inl l0), .inl l1, .inl l2, .inl l3, .inl l4, l5, l6] [] σ Q = WP m202 101 [.inr (.inl l0), .inl l1, .inl l2, .inl l3, .inl l4, l5, l6] [.inl (1)] σ Q := w_iconst d202_100 (by decide)
theorem d202_101 : adec m202 101 = some (.goto (4), 3) := by decide +kernel
theorem s202_101 {l0 : Nat} {l1 : Int} {l2 : Int} {l3 : Int} {l4 : Int} {l5 : AV} {l6 : AV} {x0 : Int} : WP m202 101 [.inr (.inl l0), .inl l1, .inl l2, .inl l3, .inl l4, l5, l6] [.inl x0] σ Q = WP m202 105 [.inr (.inl l0), .inl l1, .inl l2, .inl l3, .inl l4, l5, l6] [.inl x0] σ Q := w_goto d202_101 (by decide)
theorem d202_104 : adec m202 104 = some (.iconst (0), 1) := by decide +kernel
theorem s202_104 {l0 : Nat} {l1 : Int} {l2 : Int} {l3 : Int} {l4 : Int} {l5 : AV} {l6 : AV} : WP m202 104 [.inr (.inl l0), .inl l1, .inl l2, .inl l3, .inl l4, l5, l6] [] σ Q = WP m202 105 [.inr (.inl l0), .inl l1, .inl l2, .inl l3, .inl l4, l5, l6] [.inl (0)] σ Q := w_iconst d202_104 (by decide)
theorem d202_105 : adec m202 105 = some (.istore 5, 2) := by decide +kernel
theorem s202_105 {l0 : Nat} {l1 : Int} {l2 : Int} {l3 : Int} {l4 : Int} {l5 : AV} {l6 : AV} {x0 : Int} : WP m202 105 [.inr (.inl l0), .inl l1, .inl l2, .inl l3, .inl l4, l5, l6] [.inl x0] σ Q = WP m202 107 [.inr (.inl l0), .inl l1, .inl l2, .inl l3, .inl l4, .inl x0, l6] [] σ Q := w_st1 (j := 5) d202_105 rfl (Nat.le_of_ble_eq_true rfl) rfl
theorem d202_107 : adec m202 107 = some (.iconst (0), 1) := by decide +kernel
theorem s202_107 {l0 : Nat} {l1 : Int} {l2 : Int} {l3 : Int} {l4 : Int} {l5 : Int} {l6 : AV} : WP m202 107 [.inr (.inl l0), .inl l1, .inl l2, .inl l3, .inl l4, .inl l5, l6] [] σ Q = WP m202 108 [.inr (.inl l0), .inl l1, .inl l2, .inl l3, .inl l4, .inl l5, l6] [.inl (0)] σ Q := w_iconst d202_107 (by decide)
theorem d202_108 : adec m202 108 = some (.istore 6, 2) := by decide +kernel
theorem s202_108 {l0 : Nat} {l1 : Int} {l2 : Int} {l3 : Int} {l4 : Int} {l5 : Int} {l6 : AV} {x0 : Int} : WP m202 108 [.inr (.inl l0), .inl l1, .inl l2, .inl l3, .inl l4, .inl l5, l6] [.inl x0] σ Q = WP m202 110 [.inr (.inl l0), .inl l1, .inl l2, .inl l3, .inl l4, .inl l5, .inl x0] [] σ Q := w_st1 (j := 6) d202_108 rfl (Nat.le_of_ble_eq_true rfl) rfl
theorem d202_110 : adec m202 110 = some (.iload 6, 2) := by decide +kernel
theorem s202_110 {l0 : Nat} {l1 : Int} {l2 : Int} {l3 : Int} {l4 : Int} {l5 : Int} {l6 : Int} : WP m202 110 [.inr (.inl l0), .inl l1, .inl l2, .inl l3, .inl l4, .inl l5, .inl l6] [] σ Q = WP m202 112 [.inr (.inl l0), .inl l1, .inl l2, .inl l3, .inl l4, .inl l5, .inl l6] [.inl l6] σ Q := w_ld d202_110 rfl
theorem d202_112 : adec m202 112 = some (.iload_n 3, 1) := by decide +kernel
theorem s202_112 {l0 : Nat} {l1 : Int} {l2 : Int} {l3 : Int} {l4 : Int} {l5 : Int} {l6 : Int} {x0 : Int} : WP m202 112 [.inr (.inl l0), .inl l1, .inl l2, .inl l3, .inl l4, .inl l5, .inl l6] [.inl x0] σ Q = WP m202 113 [.inr (.inl l0), .inl l1, .inl l2, .inl l3, .inl l4, .inl l5, .inl l6] [.inl l3, .inl x0] σ Q := w_ld d202_112 rfl
theorem d202_113 : adec m202 113 = some (.if_icmp .ge (38), 3) := by decide +kernel
theorem s202_113 {l0 : Nat} {l1 : Int} {l2 : Int} {l3 : Int} {l4 : Int} {l5 : Int} {l6 : Int} {x0 : Int} {x1 : Int} : WP m202 113 [.inr (.inl l0), .inl l1, .inl l2, .inl l3, .inl l4, .inl l5, .inl l6] [.inl x1, .inl x0] σ Q = (if x1 ≤ x0 then WP m202 151 [.inr (.inl l0), .inl l1, .inl l2, .inl l3, .inl l4, .inl l5, .inl l6] [] σ Q else WP m202 116 [.inr (.inl l0), .inl l1, .inl l2, .inl l3, .inl l4, .inl l5, .inl l6] [] σ Q) := w_icge d202_113 (by decide)
theorem d202_116 : adec m202 116 = some (.iload 5, 2) := by decide +kernel
theorem s202_116 {l0 : Nat} {l1 : Int} {l2 : Int} {l3 : Int} {l4 : Int} {l5 : Int} {l6 : Int} : WP m202 116 [.inr (.inl l0), .inl l1, .inl l2, .inl l3, .inl l4, .inl l5, .inl l6] [] σ Q = WP m202 118 [.inr (.inl l0), .inl l1, .inl l2, .inl l3, .inl l4, .inl l5, .inl l6] [.inl l5] σ Q := w_ld d202_116 rfl
theorem d202_118 : adec m202 118 = some (.ifCond .eq (33), 3) := by decide +kernel
theorem s202_118 {l0 : Nat} {l1 : Int} {l2 : Int} {l3 : Int} {l4 : Int} {l5 : Int} {l6 : Int} {x0 : Int} : WP m202 118 [.inr (.inl l0), .inl l1, .inl l2, .inl l3, .inl l4, .inl l5, .inl l6] [.inl x0] σ Q = (if x0 = 0 then WP m202 151 [.inr (.inl l0), .inl l1, .inl l2, .inl l3, .inl l4, .inl l5, .inl l6] [] σ Q else WP m202 121 [.inr (.inl l0), .inl l1, .inl l2, .inl l3, .inl l4, .inl l5, .inl l6] [] σ Q) := w_ifeq d202_118 (by decide)
theorem d202_121 : adec m202 121 = some (.aload_n 0, 1) := by decide +kernel
theorem s202_121 {l0 : Nat} {l1 : Int} {l2 : Int} {l3 : Int} {l4 : Int} {l5 : Int} {l6 : Int} : WP m202 121 [.inr (.inl l0), .inl l1, .inl l2, .inl l3, .inl l4, .inl l5, .inl l6] [] σ Q = WP m202 122 [.inr (.inl l0), .inl l1, .inl l2, .inl l3, .inl l4, .inl l5, .inl l6] [.inr (.inl l0)] σ Q := w_ld d202_121 rfl
theorem d202_122 : adec m202 122 = some (.getfield 81, 3) := by decide +kernel
theorem s202_122 {l0 : Nat} {l1 : Int} {l2 : Int} {l3 : Int} {l4 : Int} {l5 : Int} {l6 : Int} : WP m202 122 [.inr (.inl l0), .inl l1, .inl l2, .inl l3, .inl l4, .inl l5, .inl l6] [.inr (.inl 130)] σ Q = WP m202 125 [.inr (.inl l0), .inl l1, .inl l2, .inl l3, .inl l4, .inl l5, .inl l6] [.inr (.inl 153)] σ Q := (w_getR (c := 10) (n := 36) d202_122 (by decide +kernel) (by decide +kernel)).trans (g_and ⟨isO_dec (by decide +kernel), by decide +kernel⟩)
theorem d202_125 : adec m202 125 = some (.iload 6, 2) := by decide +kernel
theorem s202_125 {l0 : Nat} {l1 : Int} {l2 : Int} {l3 : Int} {l4 : Int} {l5 : Int} {l6 : Int} {x0 : Nat} : WP m202 125 [.inr (.inl l0), .inl l1, .inl l2, .inl l3, .inl l4, .inl l5, .inl l6] [.inr (.inl x0)] σ Q = WP m202 127 [.inr (.inl l0), .inl l1, .inl l2, .inl l3, .inl l4, .inl l5, .inl l6] [.inl l6, .inr (.inl x0)] σ Q := w_ld d202_125 rfl
theorem d202_127 : adec m202 127 = some (.iaload, 1) := by decide +kernel
theorem s202_127 {l0 : Nat} {l1 : Int} {l2 : Int} {l3 : Int} {l4 : Int} {l5 : Int} {l6 : Int} {x0 : Nat} {x1 : Int} : WP m202 127 [.inr (.inl l0), .inl l1, .inl l2, .inl l3, .inl l4, .inl l5, .inl l6] [.inl x1, .inr (.inl x0)] σ Q = ((kdS x0 = 20 ∧ 0 ≤ x1 ∧ x1 < ln x0) ∧ WP m202 128 [.inr (.inl l0), .inl l1, .inl l2, .inl l3, .inl l4, .inl l5, .inl l6] [.inl (σ x0 x1.toNat)] σ Q) := w_iald d202_127
theorem d202_128 : adec m202 128 = some (.aload_n 0, 1) := by decide +kernel
theorem s202_128 {l0 : Nat} {l1 : Int} {l2 : Int} {l3 : Int} {l4 : Int} {l5 : Int} {l6 : Int} {x0 : Int} : WP m202 128 [.inr (.inl l0), .inl l1, .inl l2, .inl l3, .inl l4, .inl l5, .inl l6] [.inl x0] σ Q = WP m202 129 [.inr (.inl l0), .inl l1, .inl l2, .inl l3, .inl l4, .inl l5, .inl l6] [.inr (.inl l0), .inl x0] σ Q := w_ld d202_128 rfl
theorem d202_129 : adec m202 129 = some (.getfield 75, 3) := by decide +kernel
theorem s202_129 {l0 : Nat} {l1 : Int} {l2 : Int} {l3 : Int} {l4 : Int} {l5 : Int} {l6 : Int} {x0 : Int} : WP m202 129 [.inr (.inl l0), .inl l1, .inl l2, .inl l3, .inl l4, .inl l5, .inl l6] [.inr (.inl 130), .inl x0] σ Q = WP m202 132 [.inr (.inl l0), .inl l1, .inl l2, .inl l3, .inl l4, .inl l5, .inl l6] [.inr (.inl 151), .inl x0] σ Q := (w_getR (c := 10) (n := 33) d202_129 (by decide +kernel) (by decide +kernel)).trans (g_and ⟨isO_dec (by decide +kernel), by decide +kernel⟩)
theorem d202_132 : adec m202 132 = some (.iload 6, 2) := by decide +kernel
theorem s202_132 {l0 : Nat} {l1 : Int} {l2 : Int} {l3 : Int} {l4 : Int} {l5 : Int} {l6 : Int} {x0 : Int} {x1 : Nat} : WP m202 132 [.inr (.inl l0), .inl l1, .inl l2, .inl l3, .inl l4, .inl l5, .inl l6] [.inr (.inl x1), .inl x0] σ Q = WP m202 134 [.inr (.inl l0), .inl l1, .inl l2, .inl l3, .inl l4, .inl l5, .inl l6] [.inl l6, .inr (.inl x1), .inl x0] σ Q := w_ld d202_132 rfl
theorem d202_134 : adec m202 134 = some (.iaload, 1) := by decide +kernel
theorem s202_134 {l0 : Nat} {l1 : Int} {l2 : Int} {l3 : Int} {l4 : Int} {l5 : Int} {l6 : Int} {x0 : Int} {x1 : Nat} {x2 : Int} : WP m202 134 [.inr (.inl l0), .inl l1, .inl l2, .inl l3, .inl l4, .inl l5, .inl l6] [.inl x2, .inr (.inl x1), .inl x0] σ Q = ((kdS x1 = 20 ∧ 0 ≤ x2 ∧ x2 < ln x1) ∧ WP m202 135 [.inr (.inl l0), .inl l1, .inl l2, .inl l3, .inl l4, .inl l5, .inl l6] [.inl (σ x1 x2.toNat), .inl x0] σ Q) := w_iald d202_134
theorem d202_135 : adec m202 135 = some (.if_icmp .ne (7), 3) := by decide +kernel
theorem s202_135 {l0 : Nat} {l1 : Int} {l2 : Int} {l3 : Int} {l4 : Int} {l5 : Int} {l6 : Int} {x0 : Int} {x1 : Int} : WP m202 135 [.inr (.inl l0), .inl l1, .inl l2, .inl l3, .inl l4, .inl l5, .inl l6] [.inl x1, .inl x0] σ Q = (if x0 = x1 then WP m202 138 [.inr (.inl l0), .inl l1, .inl l2, .inl l3, .inl l4, .inl l5, .inl l6] [] σ Q else WP m202 142 [.inr (.inl l0), .inl l1, .inl l2, .inl l3, .inl l4, .inl l5, .inl l6] [] σ Q) := w_icne d202_135 (by decide)
theorem d202_138 : adec m202 138 = some (.iconst (1), 1) := by decide +kernel
theorem s202_138 {l0 : Nat} {l1 : Int} {l2 : Int} {l3 : Int} {l4 : Int} {l5 : Int} {l6 : Int} : WP m202 138 [.inr (.inl l0), .inl l1, .inl l2, .inl l3, .inl l4, .inl l5, .inl l6] [] σ Q = WP m202 139 [.inr (.inl l0), .inl l1, .inl l2, .inl l3, .inl l4, .inl l5, .inl l6] [.inl (1)] σ Q := w_iconst d202_138 (by decide)
theorem d202_139 : adec m202 139 = some (.goto (4), 3) := by decide +kernel
theorem s202_139 {l0 : Nat} {l1 : Int} {l2 : Int} {l3 : Int} {l4 : Int} {l5 : Int} {l6 : Int} {x0 : Int} : WP m202 139 [.inr (.inl l0), .inl l1, .inl l2, .inl l3, .inl l4, .inl l5, .inl l6] [.inl x0] σ Q = WP m202 143 [.inr (.inl l0), .inl l1, .inl l2, .inl l3, .inl l4, .inl l5, .inl l6] [.inl x0] σ Q := w_goto d202_139 (by decide)
theorem d202_142 : adec m202 142 = some (.iconst (0), 1) := by decide +kernel
theorem s202_142 {l0 : Nat} {l1 : Int} {l2 : Int} {l3 : Int} {l4 : Int} {l5 : Int} {l6 : Int} : WP m202 142 [.inr (.inl l0), .inl l1, .inl l2, .inl l3, .inl l4, .inl l5, .inl l6] [] σ Q = WP m202 143 [.inr (.inl l0), .inl l1, .inl l2, .inl l3, .inl l4, .inl l5, .inl l6] [.inl (0)] σ Q := w_iconst d202_142 (by decide)
theorem d202_143 : adec m202 143 = some (.istore 5, 2) := by decide +kernel
theorem s202_143 {l0 : Nat} {l1 : Int} {l2 : Int} {l3 : Int} {l4 : Int} {l5 : Int} {l6 : Int} {x0 : Int} : WP m202 143 [.inr (.inl l0), .inl l1, .inl l2, .inl l3, .inl l4, .inl l5, .inl l6] [.inl x0] σ Q = WP m202 145 [.inr (.inl l0), .inl l1, .inl l2, .inl l3, .inl l4, .inl x0, .inl l6] [] σ Q := w_st1 (j := 5) d202_143 rfl (Nat.le_of_ble_eq_true rfl) rfl
theorem d202_145 : adec m202 145 = some (.iinc 6 (1), 3) := by decide +kernel
theorem s202_145 {l0 : Nat} {l1 : Int} {l2 : Int} {l3 : Int} {l4 : Int} {l5 : Int} {l6 : Int} : WP m202 145 [.inr (.inl l0), .inl l1, .inl l2, .inl l3, .inl l4, .inl l5, .inl l6] [] σ Q = (inI (l6 + (1)) ∧ WP m202 148 [.inr (.inl l0), .inl l1, .inl l2, .inl l3, .inl l4, .inl l5, .inl (l6 + (1))] [] σ Q) := w_iinc d202_145 rfl rfl
theorem d202_148 : adec m202 148 = some (.goto (-38), 3) := by decide +kernel
theorem s202_148 {l0 : Nat} {l1 : Int} {l2 : Int} {l3 : Int} {l4 : Int} {l5 : Int} {l6 : Int} : WP m202 148 [.inr (.inl l0), .inl l1, .inl l2, .inl l3, .inl l4, .inl l5, .inl l6] [] σ Q = WP m202 110 [.inr (.inl l0), .inl l1, .inl l2, .inl l3, .inl l4, .inl l5, .inl l6] [] σ Q := w_goto d202_148 (by decide)
theorem d202_151 : adec m202 151 = some (.iload 5, 2) := by decide +kernel
theorem s202_151 {l0 : Nat} {l1 : Int} {l2 : Int} {l3 : Int} {l4 : Int} {l5 : Int} {l6 : Int} : WP m202 151 [.inr (.inl l0), .inl l1, .inl l2, .inl l3, .inl l4, .inl l5, .inl l6] [] σ Q = WP m202 153 [.inr (.inl l0), .inl l1, .inl l2, .inl l3, .inl l4, .inl l5, .inl l6] [.inl l5] σ Q := w_ld d202_151 rfl
theorem d202_153 : adec m202 153 = some (.ifCond .eq (7), 3) := by decide +kernel
theorem s202_153 {l0 : Nat} {l1 : Int} {l2 : Int} {l3 : Int} {l4 : Int} {l5 : Int} {l6 : Int} {x0 : Int} : WP m202 153 [.inr (.inl l0), .inl l1, .inl l2, .inl l3, .inl l4, .inl l5, .inl l6] [.inl x0] σ Q = (if x0 = 0 then WP m202 160 [.inr (.inl l0), .inl l1, .inl l2, .inl l3, .inl l4, .inl l5, .inl l6] [] σ Q else WP m202 156 [.inr (.inl l0), .inl l1, .inl l2, .inl l3, .inl l4, .inl l5, .inl l6] [] σ Q) := w_ifeq d202_153 (by decide)
theorem d202_156 : adec m202 156 = some (.iconst (1), 1) := by decide +kernel
theorem s202_156 {l0 : Nat} {l1 : Int} {l2 : Int} {l3 : Int} {l4 : Int} {l5 : Int} {l6 : Int} : WP m202 156 [.inr (.inl l0), .inl l1, .inl l2, .inl l3, .inl l4, .inl l5, .inl l6] [] σ Q = WP m202 157 [.inr (.inl l0), .inl l1, .inl l2, .inl l3, .inl l4, .inl l5, .inl l6] [.inl (1)] σ Q := w_iconst d202_156 (by decide)
theorem d202_157 : adec m202 157 = some (.goto (4), 3) := by decide +kernel
theorem s202_157 {l0 : Nat} {l1 : Int} {l2 : Int} {l3 : Int} {l4 : Int} {l5 : Int} {l6 : Int} {x0 : Int} : WP m202 157 [.inr (.inl l0), .inl l1, .inl l2, .inl l3, .inl l4, .inl l5, .inl l6] [.inl x0] σ Q = WP m202 161 [.inr (.inl l0), .inl l1, .inl l2, .inl l3, .inl l4, .inl l5, .inl l6] [.inl x0] σ Q := w_goto d202_157 (by decide)
theorem d202_160 : adec m202 160 = some (.iconst (0), 1) := by decide +kernel
theorem s202_160 {l0 : Nat} {l1 : Int} {l2 : Int} {l3 : Int} {l4 : Int} {l5 : Int} {l6 : Int} : WP m202 160 [.inr (.inl l0), .inl l1, .inl l2, .inl l3, .inl l4, .inl l5, .inl l6] [] σ Q = WP m202 161 [.inr (.inl l0), .inl l1, .inl l2, .inl l3, .inl l4, .inl l5, .inl l6] [.inl (0)] σ Q := w_iconst d202_160 (by decide)
theorem d202_161 : adec m202 161 = some (.ireturn, 1) := by decide +kernel
theorem s202_161 {l0 : Nat} {l1 : Int} {l2 : Int} {l3 : Int} {l4 : Int} {l5 : Int} {l6 : Int} {x0 : Int} : WP m202 161 [.inr (.inl l0), .inl l1, .inl l2, .inl l3, .inl l4, .inl l5, .inl l6] [.inl x0] σ Q = Q [.inl x0] σ := w_ri d202_161 rfl
theorem e202 {p0 : Nat} {p1 : Int} {p2 : Int} : CA m202 [.inr (.inl p0), .inl p1, .inl p2] σ Q = WP m202 0 [.inr (.inl p0), .inl p1, .inl p2, vU, vU, vU, vU] [] σ Q := rfl
-- BinderPressModel.keep(I)I
theorem d203_0 : adec m203 0 = some (.iload_n 1, 1) := by decide +kernel
theorem s203_0 {l0 : Nat} {l1 : Int} : WP m203 0 [.inr (.inl l0), .inl l1] [] σ Q = WP m203 1 [.inr (.inl l0), .inl l1] [.inl l1] σ Q := w_ld d203_0 rfl
theorem d203_1 : adec m203 1 = some (.i2l, 1) := by decide +kernel
theorem s203_1 {l0 : Nat} {l1 : Int} {x0 : Int} : WP m203 1 [.inr (.inl l0), .inl l1] [.inl x0] σ Q = WP m203 2 [.inr (.inl l0), .inl l1] [.inr (.inr (.inl x0))] σ Q := w_ld d203_1 rfl
theorem d203_2 : adec m203 2 = some (.lconst 0, 1) := by decide +kernel
theorem s203_2 {l0 : Nat} {l1 : Int} {x0 : Int} : WP m203 2 [.inr (.inl l0), .inl l1] [.inr (.inr (.inl x0))] σ Q = WP m203 3 [.inr (.inl l0), .inl l1] [.inr (.inr (.inl (0))), .inr (.inr (.inl x0))] σ Q := w_lconst d203_2
theorem d203_3 : adec m203 3 = some (.lconst 1, 1) := by decide +kernel
theorem s203_3 {l0 : Nat} {l1 : Int} {x0 : Int} {x1 : Int} : WP m203 3 [.inr (.inl l0), .inl l1] [.inr (.inr (.inl x1)), .inr (.inr (.inl x0))] σ Q = WP m203 4 [.inr (.inl l0), .inl l1] [.inr (.inr (.inl (1))), .inr (.inr (.inl x1)), .inr (.inr (.inl x0))] σ Q := w_lconst d203_3
theorem d203_4 : adec m203 4 = some (.invokestatic 88, 3) := by decide +kernel
theorem s203_4 {l0 : Nat} {l1 : Int} {x0 : Int} {x1 : Int} {x2 : Int} : WP m203 4 [.inr (.inl l0), .inl l1] [.inr (.inr (.inl x2)), .inr (.inr (.inl x1)), .inr (.inr (.inl x0))] σ Q = CA m127 [.inr (.inr (.inl x0)), .inr (.inr (.inl x1)), .inr (.inr (.inl x2))] σ (fun v σ2 => WP m203 7 [.inr (.inl l0), .inl l1] (v ++ []) σ2 Q) := w_cS (k := 127) d203_4 (by decide +kernel) (md := 1) (by decide +kernel) m127_at rfl rfl ⟨Nat.le_of_ble_eq_true rfl, Nat.le_of_ble_eq_true rfl, Nat.le_of_ble_eq_true rfl⟩ (by decide)
theorem d203_7 : adec m203 7 = some (.ifCond .ne (6), 3) := by decide +kernel
theorem s203_7 {l0 : Nat} {l1 : Int} {x0 : Int} : WP m203 7 [.inr (.inl l0), .inl l1] [.inl x0] σ Q = (if x0 = 0 then WP m203 10 [.inr (.inl l0), .inl l1] [] σ Q else WP m203 13 [.inr (.inl l0), .inl l1] [] σ Q) := w_ifne d203_7 (by decide)
theorem d203_10 : adec m203 10 = some (.ldc 155, 2) := by decide +kernel
theorem s203_10 {l0 : Nat} {l1 : Int} : WP m203 10 [.inr (.inl l0), .inl l1] [] σ Q = WP m203 12 [.inr (.inl l0), .inl l1] [.inl (-1000000001)] σ Q := w_ldc d203_10 (by decide +kernel) (by decide)
theorem d203_12 : adec m203 12 = some (.ireturn, 1) := by decide +kernel
theorem s203_12 {l0 : Nat} {l1 : Int} {x0 : Int} : WP m203 12 [.inr (.inl l0), .inl l1] [.inl x0] σ Q = Q [.inl x0] σ := w_ri d203_12 rfl
theorem d203_13 : adec m203 13 = some (.aload_n 0, 1) := by decide +kernel
theorem s203_13 {l0 : Nat} {l1 : Int} : WP m203 13 [.inr (.inl l0), .inl l1] [] σ Q = WP m203 14 [.inr (.inl l0), .inl l1] [.inr (.inl l0)] σ Q := w_ld d203_13 rfl
theorem d203_14 : adec m203 14 = some (.iconst (0), 1) := by decide +kernel
theorem s203_14 {l0 : Nat} {l1 : Int} {x0 : Nat} : WP m203 14 [.inr (.inl l0), .inl l1] [.inr (.inl x0)] σ Q = WP m203 15 [.inr (.inl l0), .inl l1] [.inl (0), .inr (.inl x0)] σ Q := w_iconst d203_14 (by decide)
theorem d203_15 : adec m203 15 = some (.sipush (5324), 3) := by decide +kernel
theorem s203_15 {l0 : Nat} {l1 : Int} {x0 : Nat} {x1 : Int} : WP m203 15 [.inr (.inl l0), .inl l1] [.inl x1, .inr (.inl x0)] σ Q = WP m203 18 [.inr (.inl l0), .inl l1] [.inl (5324), .inl x1, .inr (.inl x0)] σ Q := w_sipush d203_15 (by decide)
theorem d203_18 : adec m203 18 = some (.sipush (484), 3) := by decide +kernel
theorem s203_18 {l0 : Nat} {l1 : Int} {x0 : Nat} {x1 : Int} {x2 : Int} : WP m203 18 [.inr (.inl l0), .inl l1] [.inl x2, .inl x1, .inr (.inl x0)] σ Q = WP m203 21 [.inr (.inl l0), .inl l1] [.inl (484), .inl x2, .inl x1, .inr (.inl x0)] σ Q := w_sipush d203_18 (by decide)
theorem d203_21 : adec m203 21 = some (.iload_n 1, 1) := by decide +kernel
theorem s203_21 {l0 : Nat} {l1 : Int} {x0 : Nat} {x1 : Int} {x2 : Int} {x3 : Int} : WP m203 21 [.inr (.inl l0), .inl l1] [.inl x3, .inl x2, .inl x1, .inr (.inl x0)] σ Q = WP m203 22 [.inr (.inl l0), .inl l1] [.inl l1, .inl x3, .inl x2, .inl x1, .inr (.inl x0)] σ Q := w_ld d203_21 rfl
theorem d203_22 : adec m203 22 = some (.imul, 1) := by decide +kernel
theorem s203_22 {l0 : Nat} {l1 : Int} {x0 : Nat} {x1 : Int} {x2 : Int} {x3 : Int} {x4 : Int} : WP m203 22 [.inr (.inl l0), .inl l1] [.inl x4, .inl x3, .inl x2, .inl x1, .inr (.inl x0)] σ Q = (inI (x3 * x4) ∧ WP m203 23 [.inr (.inl l0), .inl l1] [.inl (x3 * x4), .inl x2, .inl x1, .inr (.inl x0)] σ Q) := w_imul d203_22
theorem d203_23 : adec m203 23 = some (.iadd, 1) := by decide +kernel
theorem s203_23 {l0 : Nat} {l1 : Int} {x0 : Nat} {x1 : Int} {x2 : Int} {x3 : Int} : WP m203 23 [.inr (.inl l0), .inl l1] [.inl x3, .inl x2, .inl x1, .inr (.inl x0)] σ Q = (inI (x2 + x3) ∧ WP m203 24 [.inr (.inl l0), .inl l1] [.inl (x2 + x3), .inl x1, .inr (.inl x0)] σ Q) := w_iadd d203_23
theorem d203_24 : adec m203 24 = some (.invokevirtual 110, 3) := by decide +kernel
theorem s203_24 {l0 : Nat} {l1 : Int} {x1 : Int} {x2 : Int} : WP m203 24 [.inr (.inl l0), .inl l1] [.inl x2, .inl x1, .inr (.inl 130)] σ Q = CA m135 [.inr (.inl 130), .inl x1, .inl x2] σ (fun v σ2 => WP m203 27 [.inr (.inl l0), .inl l1] (v ++ []) σ2 Q) := (w_cV (k := 135) d203_24 (by decide +kernel) m135_at rfl rfl ⟨Nat.le_of_ble_eq_true rfl, Nat.le_of_ble_eq_true rfl, Nat.le_of_ble_eq_true rfl⟩ (by decide)).trans (g_and (isO_dec (by decide +kernel)))
theorem d203_27 : adec m203 27 = some (.aload_n 0, 1) := by decide +kernel
theorem s203_27 {l0 : Nat} {l1 : Int} : WP m203 27 [.inr (.inl l0), .inl l1] [] σ Q = WP m203 28 [.inr (.inl l0), .inl l1] [.inr (.inl l0)] σ Q := w_ld d203_27 rfl
theorem d203_28 : adec m203 28 = some (.getfield 13, 3) := by decide +kernel
theorem s203_28 {l0 : Nat} {l1 : Int} : WP m203 28 [.inr (.inl l0), .inl l1] [.inr (.inl 130)] σ Q = WP m203 31 [.inr (.inl l0), .inl l1] [.inr (.inl 132)] σ Q := (w_getR (c := 10) (n := 2) d203_28 (by decide +kernel) (by decide +kernel)).trans (g_and ⟨isO_dec (by decide +kernel), by decide +kernel⟩)
theorem d203_31 : adec m203 31 = some (.iload_n 1, 1) := by decide +kernel
theorem s203_31 {l0 : Nat} {l1 : Int} {x0 : Nat} : WP m203 31 [.inr (.inl l0), .inl l1] [.inr (.inl x0)] σ Q = WP m203 32 [.inr (.inl l0), .inl l1] [.inl l1, .inr (.inl x0)] σ Q := w_ld d203_31 rfl
theorem d203_32 : adec m203 32 = some (.iconst (1), 1) := by decide +kernel
theorem s203_32 {l0 : Nat} {l1 : Int} {x0 : Nat} {x1 : Int} : WP m203 32 [.inr (.inl l0), .inl l1] [.inl x1, .inr (.inl x0)] σ Q = WP m203 33 [.inr (.inl l0), .inl l1] [.inl (1), .inl x1, .inr (.inl x0)] σ Q := w_iconst d203_32 (by decide)
theorem d203_33 : adec m203 33 = some (.bastore, 1) := by decide +kernel
theorem s203_33 {l0 : Nat} {l1 : Int} {x0 : Nat} {x1 : Int} {x2 : Int} : WP m203 33 [.inr (.inl l0), .inl l1] [.inl x2, .inl x1, .inr (.inl x0)] σ Q = ((kdS x0 = 21 ∧ 0 ≤ x1 ∧ x1 < ln x0 ∧ (x2 = 0 ∨ x2 = 1)) ∧ WP m203 34 [.inr (.inl l0), .inl l1] [] (aup σ x0 x1.toNat x2) Q) := w_zast d203_33
theorem d203_34 : adec m203 34 = some (.aload_n 0, 1) := by decide +kernel
theorem s203_34 {l0 : Nat} {l1 : Int} : WP m203 34 [.inr (.inl l0), .inl l1] [] σ Q = WP m203 35 [.inr (.inl l0), .inl l1] [.inr (.inl l0)] σ Q := w_ld d203_34 rfl
theorem d203_35 : adec m203 35 = some (.iconst (0), 1) := by decide +kernel
theorem s203_35 {l0 : Nat} {l1 : Int} {x0 : Nat} : WP m203 35 [.inr (.inl l0), .inl l1] [.inr (.inl x0)] σ Q = WP m203 36 [.inr (.inl l0), .inl l1] [.inl (0), .inr (.inl x0)] σ Q := w_iconst d203_35 (by decide)
theorem d203_36 : adec m203 36 = some (.putfield 107, 3) := by decide +kernel
theorem s203_36 {l0 : Nat} {l1 : Int} {x1 : Int} : WP m203 36 [.inr (.inl l0), .inl l1] [.inl x1, .inr (.inl 130)] σ Q = WP m203 39 [.inr (.inl l0), .inl l1] [] (aup σ 130 1 x1) Q := (w_putI (c := 10) (n := 1) d203_36 (by decide +kernel) (by decide +kernel) (by decide +kernel)).trans (g_and (isO_dec (by decide +kernel)))
theorem d203_39 : adec m203 39 = some (.iconst (1), 1) := by decide +kernel
theorem s203_39 {l0 : Nat} {l1 : Int} : WP m203 39 [.inr (.inl l0), .inl l1] [] σ Q = WP m203 40 [.inr (.inl l0), .inl l1] [.inl (1)] σ Q := w_iconst d203_39 (by decide)
theorem d203_40 : adec m203 40 = some (.ireturn, 1) := by decide +kernel
theorem s203_40 {l0 : Nat} {l1 : Int} {x0 : Int} : WP m203 40 [.inr (.inl l0), .inl l1] [.inl x0] σ Q = Q [.inl x0] σ := w_ri d203_40 rfl
theorem e203 {p0 : Nat} {p1 : Int} : CA m203 [.inr (.inl p0), .inl p1] σ Q = WP m203 0 [.inr (.inl p0), .inl p1] [] σ Q := rfl
-- BinderPressModel.goBack(I)I
theorem d204_0 : adec m204 0 = some (.iload_n 1, 1) := by decide +kernel
theorem s204_0 {l0 : Nat} {l1 : Int} : WP m204 0 [.inr (.inl l0), .inl l1] [] σ Q = WP m204 1 [.inr (.inl l0), .inl l1] [.inl l1] σ Q := w_ld d204_0 rfl
theorem d204_1 : adec m204 1 = some (.i2l, 1) := by decide +kernel
theorem s204_1 {l0 : Nat} {l1 : Int} {x0 : Int} : WP m204 1 [.inr (.inl l0), .inl l1] [.inl x0] σ Q = WP m204 2 [.inr (.inl l0), .inl l1] [.inr (.inr (.inl x0))] σ Q := w_ld d204_1 rfl
theorem d204_2 : adec m204 2 = some (.lconst 0, 1) := by decide +kernel
theorem s204_2 {l0 : Nat} {l1 : Int} {x0 : Int} : WP m204 2 [.inr (.inl l0), .inl l1] [.inr (.inr (.inl x0))] σ Q = WP m204 3 [.inr (.inl l0), .inl l1] [.inr (.inr (.inl (0))), .inr (.inr (.inl x0))] σ Q := w_lconst d204_2
theorem d204_3 : adec m204 3 = some (.lconst 1, 1) := by decide +kernel
theorem s204_3 {l0 : Nat} {l1 : Int} {x0 : Int} {x1 : Int} : WP m204 3 [.inr (.inl l0), .inl l1] [.inr (.inr (.inl x1)), .inr (.inr (.inl x0))] σ Q = WP m204 4 [.inr (.inl l0), .inl l1] [.inr (.inr (.inl (1))), .inr (.inr (.inl x1)), .inr (.inr (.inl x0))] σ Q := w_lconst d204_3
theorem d204_4 : adec m204 4 = some (.invokestatic 88, 3) := by decide +kernel
theorem s204_4 {l0 : Nat} {l1 : Int} {x0 : Int} {x1 : Int} {x2 : Int} : WP m204 4 [.inr (.inl l0), .inl l1] [.inr (.inr (.inl x2)), .inr (.inr (.inl x1)), .inr (.inr (.inl x0))] σ Q = CA m127 [.inr (.inr (.inl x0)), .inr (.inr (.inl x1)), .inr (.inr (.inl x2))] σ (fun v σ2 => WP m204 7 [.inr (.inl l0), .inl l1] (v ++ []) σ2 Q) := w_cS (k := 127) d204_4 (by decide +kernel) (md := 1) (by decide +kernel) m127_at rfl rfl ⟨Nat.le_of_ble_eq_true rfl, Nat.le_of_ble_eq_true rfl, Nat.le_of_ble_eq_true rfl⟩ (by decide)
theorem d204_7 : adec m204 7 = some (.ifCond .ne (6), 3) := by decide +kernel
theorem s204_7 {l0 : Nat} {l1 : Int} {x0 : Int} : WP m204 7 [.inr (.inl l0), .inl l1] [.inl x0] σ Q = (if x0 = 0 then WP m204 10 [.inr (.inl l0), .inl l1] [] σ Q else WP m204 13 [.inr (.inl l0), .inl l1] [] σ Q) := w_ifne d204_7 (by decide)
theorem d204_10 : adec m204 10 = some (.ldc 155, 2) := by decide +kernel
theorem s204_10 {l0 : Nat} {l1 : Int} : WP m204 10 [.inr (.inl l0), .inl l1] [] σ Q = WP m204 12 [.inr (.inl l0), .inl l1] [.inl (-1000000001)] σ Q := w_ldc d204_10 (by decide +kernel) (by decide)
theorem d204_12 : adec m204 12 = some (.ireturn, 1) := by decide +kernel
theorem s204_12 {l0 : Nat} {l1 : Int} {x0 : Int} : WP m204 12 [.inr (.inl l0), .inl l1] [.inl x0] σ Q = Q [.inl x0] σ := w_ri d204_12 rfl
theorem d204_13 : adec m204 13 = some (.aload_n 0, 1) := by decide +kernel
theorem s204_13 {l0 : Nat} {l1 : Int} : WP m204 13 [.inr (.inl l0), .inl l1] [] σ Q = WP m204 14 [.inr (.inl l0), .inl l1] [.inr (.inl l0)] σ Q := w_ld d204_13 rfl
theorem d204_14 : adec m204 14 = some (.getfield 13, 3) := by decide +kernel
theorem s204_14 {l0 : Nat} {l1 : Int} : WP m204 14 [.inr (.inl l0), .inl l1] [.inr (.inl 130)] σ Q = WP m204 17 [.inr (.inl l0), .inl l1] [.inr (.inl 132)] σ Q := (w_getR (c := 10) (n := 2) d204_14 (by decide +kernel) (by decide +kernel)).trans (g_and ⟨isO_dec (by decide +kernel), by decide +kernel⟩)
theorem d204_17 : adec m204 17 = some (.iload_n 1, 1) := by decide +kernel
theorem s204_17 {l0 : Nat} {l1 : Int} {x0 : Nat} : WP m204 17 [.inr (.inl l0), .inl l1] [.inr (.inl x0)] σ Q = WP m204 18 [.inr (.inl l0), .inl l1] [.inl l1, .inr (.inl x0)] σ Q := w_ld d204_17 rfl
theorem d204_18 : adec m204 18 = some (.baload, 1) := by decide +kernel
theorem s204_18 {l0 : Nat} {l1 : Int} {x0 : Nat} {x1 : Int} : WP m204 18 [.inr (.inl l0), .inl l1] [.inl x1, .inr (.inl x0)] σ Q = ((kdS x0 = 21 ∧ 0 ≤ x1 ∧ x1 < ln x0) ∧ WP m204 19 [.inr (.inl l0), .inl l1] [.inl (σ x0 x1.toNat)] σ Q) := w_zald d204_18
theorem d204_19 : adec m204 19 = some (.ifCond .ne (6), 3) := by decide +kernel
theorem s204_19 {l0 : Nat} {l1 : Int} {x0 : Int} : WP m204 19 [.inr (.inl l0), .inl l1] [.inl x0] σ Q = (if x0 = 0 then WP m204 22 [.inr (.inl l0), .inl l1] [] σ Q else WP m204 25 [.inr (.inl l0), .inl l1] [] σ Q) := w_ifne d204_19 (by decide)
theorem d204_22 : adec m204 22 = some (.ldc 195, 2) := by decide +kernel
theorem s204_22 {l0 : Nat} {l1 : Int} : WP m204 22 [.inr (.inl l0), .inl l1] [] σ Q = WP m204 24 [.inr (.inl l0), .inl l1] [.inl (-1000000003)] σ Q := w_ldc d204_22 (by decide +kernel) (by decide)
theorem d204_24 : adec m204 24 = some (.ireturn, 1) := by decide +kernel
theorem s204_24 {l0 : Nat} {l1 : Int} {x0 : Int} : WP m204 24 [.inr (.inl l0), .inl l1] [.inl x0] σ Q = Q [.inl x0] σ := w_ri d204_24 rfl
theorem d204_25 : adec m204 25 = some (.aload_n 0, 1) := by decide +kernel
theorem s204_25 {l0 : Nat} {l1 : Int} : WP m204 25 [.inr (.inl l0), .inl l1] [] σ Q = WP m204 26 [.inr (.inl l0), .inl l1] [.inr (.inl l0)] σ Q := w_ld d204_25 rfl
theorem d204_26 : adec m204 26 = some (.sipush (5324), 3) := by decide +kernel
theorem s204_26 {l0 : Nat} {l1 : Int} {x0 : Nat} : WP m204 26 [.inr (.inl l0), .inl l1] [.inr (.inl x0)] σ Q = WP m204 29 [.inr (.inl l0), .inl l1] [.inl (5324), .inr (.inl x0)] σ Q := w_sipush d204_26 (by decide)
theorem d204_29 : adec m204 29 = some (.sipush (484), 3) := by decide +kernel
theorem s204_29 {l0 : Nat} {l1 : Int} {x0 : Nat} {x1 : Int} : WP m204 29 [.inr (.inl l0), .inl l1] [.inl x1, .inr (.inl x0)] σ Q = WP m204 32 [.inr (.inl l0), .inl l1] [.inl (484), .inl x1, .inr (.inl x0)] σ Q := w_sipush d204_29 (by decide)
theorem d204_32 : adec m204 32 = some (.iload_n 1, 1) := by decide +kernel
theorem s204_32 {l0 : Nat} {l1 : Int} {x0 : Nat} {x1 : Int} {x2 : Int} : WP m204 32 [.inr (.inl l0), .inl l1] [.inl x2, .inl x1, .inr (.inl x0)] σ Q = WP m204 33 [.inr (.inl l0), .inl l1] [.inl l1, .inl x2, .inl x1, .inr (.inl x0)] σ Q := w_ld d204_32 rfl
theorem d204_33 : adec m204 33 = some (.imul, 1) := by decide +kernel
theorem s204_33 {l0 : Nat} {l1 : Int} {x0 : Nat} {x1 : Int} {x2 : Int} {x3 : Int} : WP m204 33 [.inr (.inl l0), .inl l1] [.inl x3, .inl x2, .inl x1, .inr (.inl x0)] σ Q = (inI (x2 * x3) ∧ WP m204 34 [.inr (.inl l0), .inl l1] [.inl (x2 * x3), .inl x1, .inr (.inl x0)] σ Q) := w_imul d204_33
theorem d204_34 : adec m204 34 = some (.iadd, 1) := by decide +kernel
theorem s204_34 {l0 : Nat} {l1 : Int} {x0 : Nat} {x1 : Int} {x2 : Int} : WP m204 34 [.inr (.inl l0), .inl l1] [.inl x2, .inl x1, .inr (.inl x0)] σ Q = (inI (x1 + x2) ∧ WP m204 35 [.inr (.inl l0), .inl l1] [.inl (x1 + x2), .inr (.inl x0)] σ Q) := w_iadd d204_34
theorem d204_35 : adec m204 35 = some (.iconst (0), 1) := by decide +kernel
theorem s204_35 {l0 : Nat} {l1 : Int} {x0 : Nat} {x1 : Int} : WP m204 35 [.inr (.inl l0), .inl l1] [.inl x1, .inr (.inl x0)] σ Q = WP m204 36 [.inr (.inl l0), .inl l1] [.inl (0), .inl x1, .inr (.inl x0)] σ Q := w_iconst d204_35 (by decide)
theorem d204_36 : adec m204 36 = some (.invokevirtual 110, 3) := by decide +kernel
theorem s204_36 {l0 : Nat} {l1 : Int} {x1 : Int} {x2 : Int} : WP m204 36 [.inr (.inl l0), .inl l1] [.inl x2, .inl x1, .inr (.inl 130)] σ Q = CA m135 [.inr (.inl 130), .inl x1, .inl x2] σ (fun v σ2 => WP m204 39 [.inr (.inl l0), .inl l1] (v ++ []) σ2 Q) := (w_cV (k := 135) d204_36 (by decide +kernel) m135_at rfl rfl ⟨Nat.le_of_ble_eq_true rfl, Nat.le_of_ble_eq_true rfl, Nat.le_of_ble_eq_true rfl⟩ (by decide)).trans (g_and (isO_dec (by decide +kernel)))
theorem d204_39 : adec m204 39 = some (.aload_n 0, 1) := by decide +kernel
theorem s204_39 {l0 : Nat} {l1 : Int} : WP m204 39 [.inr (.inl l0), .inl l1] [] σ Q = WP m204 40 [.inr (.inl l0), .inl l1] [.inr (.inl l0)] σ Q := w_ld d204_39 rfl
theorem d204_40 : adec m204 40 = some (.iconst (0), 1) := by decide +kernel
theorem s204_40 {l0 : Nat} {l1 : Int} {x0 : Nat} : WP m204 40 [.inr (.inl l0), .inl l1] [.inr (.inl x0)] σ Q = WP m204 41 [.inr (.inl l0), .inl l1] [.inl (0), .inr (.inl x0)] σ Q := w_iconst d204_40 (by decide)
theorem d204_41 : adec m204 41 = some (.putfield 107, 3) := by decide +kernel
theorem s204_41 {l0 : Nat} {l1 : Int} {x1 : Int} : WP m204 41 [.inr (.inl l0), .inl l1] [.inl x1, .inr (.inl 130)] σ Q = WP m204 44 [.inr (.inl l0), .inl l1] [] (aup σ 130 1 x1) Q := (w_putI (c := 10) (n := 1) d204_41 (by decide +kernel) (by decide +kernel) (by decide +kernel)).trans (g_and (isO_dec (by decide +kernel)))
theorem d204_44 : adec m204 44 = some (.iconst (1), 1) := by decide +kernel
theorem s204_44 {l0 : Nat} {l1 : Int} : WP m204 44 [.inr (.inl l0), .inl l1] [] σ Q = WP m204 45 [.inr (.inl l0), .inl l1] [.inl (1)] σ Q := w_iconst d204_44 (by decide)
theorem d204_45 : adec m204 45 = some (.ireturn, 1) := by decide +kernel
theorem s204_45 {l0 : Nat} {l1 : Int} {x0 : Int} : WP m204 45 [.inr (.inl l0), .inl l1] [.inl x0] σ Q = Q [.inl x0] σ := w_ri d204_45 rfl
theorem e204 {p0 : Nat} {p1 : Int} : CA m204 [.inr (.inl p0), .inl p1] σ Q = WP m204 0 [.inr (.inl p0), .inl p1] [] σ Q := rfl
end
