section
variable {σ : aSg} {Q : List AV → aSg → Prop}
-- BinderPressModel.in(JJJ)Z
theorem d127_0 : adec m127 0 = some (.lload_n 0, 1) := by decide +kernel
theorem s127_0 {l0 : Int} {l1 : AV} {l2 : Int} {l3 : AV} {l4 : Int} {l5 : AV} : WP m127 0 [.inr (.inr (.inl l0)), l1, .inr (.inr (.inl l2)), l3, .inr (.inr (.inl l4)), l5] [] σ Q = WP m127 1 [.inr (.inr (.inl l0)), l1, .inr (.inr (.inl l2)), l3, .inr (.inr (.inl l4)), l5] [.inr (.inr (.inl l0))] σ Q := w_ld d127_0 rfl
theorem d127_1 : adec m127 1 = some (.lload_n 2, 1) := by decide +kernel
theorem s127_1 {l0 : Int} {l1 : AV} {l2 : Int} {l3 : AV} {l4 : Int} {l5 : AV} {x0 : Int} : WP m127 1 [.inr (.inr (.inl l0)), l1, .inr (.inr (.inl l2)), l3, .inr (.inr (.inl l4)), l5] [.inr (.inr (.inl x0))] σ Q = WP m127 2 [.inr (.inr (.inl l0)), l1, .inr (.inr (.inl l2)), l3, .inr (.inr (.inl l4)), l5] [.inr (.inr (.inl l2)), .inr (.inr (.inl x0))] σ Q := w_ld d127_1 rfl
theorem d127_2 : adec m127 2 = some (.lcmp, 1) := by decide +kernel
theorem s127_2 {l0 : Int} {l1 : AV} {l2 : Int} {l3 : AV} {l4 : Int} {l5 : AV} {x0 : Int} {x1 : Int} : WP m127 2 [.inr (.inr (.inl l0)), l1, .inr (.inr (.inl l2)), l3, .inr (.inr (.inl l4)), l5] [.inr (.inr (.inl x1)), .inr (.inr (.inl x0))] σ Q = WP m127 3 [.inr (.inr (.inl l0)), l1, .inr (.inr (.inl l2)), l3, .inr (.inr (.inl l4)), l5] [.inl (cmpL x0 x1)] σ Q := w_ld d127_2 rfl
theorem d127_3 : adec m127 3 = some (.ifCond .lt (14), 3) := by decide +kernel
theorem s127_3 {l0 : Int} {l1 : AV} {l2 : Int} {l3 : AV} {l4 : Int} {l5 : AV} {x0 : Int} : WP m127 3 [.inr (.inr (.inl l0)), l1, .inr (.inr (.inl l2)), l3, .inr (.inr (.inl l4)), l5] [.inl x0] σ Q = (if x0 < 0 then WP m127 17 [.inr (.inr (.inl l0)), l1, .inr (.inr (.inl l2)), l3, .inr (.inr (.inl l4)), l5] [] σ Q else WP m127 6 [.inr (.inr (.inl l0)), l1, .inr (.inr (.inl l2)), l3, .inr (.inr (.inl l4)), l5] [] σ Q) := w_iflt d127_3 (by decide)
theorem d127_6 : adec m127 6 = some (.lload_n 0, 1) := by decide +kernel
theorem s127_6 {l0 : Int} {l1 : AV} {l2 : Int} {l3 : AV} {l4 : Int} {l5 : AV} : WP m127 6 [.inr (.inr (.inl l0)), l1, .inr (.inr (.inl l2)), l3, .inr (.inr (.inl l4)), l5] [] σ Q = WP m127 7 [.inr (.inr (.inl l0)), l1, .inr (.inr (.inl l2)), l3, .inr (.inr (.inl l4)), l5] [.inr (.inr (.inl l0))] σ Q := w_ld d127_6 rfl
theorem d127_7 : adec m127 7 = some (.lload 4, 2) := by decide +kernel
theorem s127_7 {l0 : Int} {l1 : AV} {l2 : Int} {l3 : AV} {l4 : Int} {l5 : AV} {x0 : Int} : WP m127 7 [.inr (.inr (.inl l0)), l1, .inr (.inr (.inl l2)), l3, .inr (.inr (.inl l4)), l5] [.inr (.inr (.inl x0))] σ Q = WP m127 9 [.inr (.inr (.inl l0)), l1, .inr (.inr (.inl l2)), l3, .inr (.inr (.inl l4)), l5] [.inr (.inr (.inl l4)), .inr (.inr (.inl x0))] σ Q := w_ld d127_7 rfl
theorem d127_9 : adec m127 9 = some (.lcmp, 1) := by decide +kernel
theorem s127_9 {l0 : Int} {l1 : AV} {l2 : Int} {l3 : AV} {l4 : Int} {l5 : AV} {x0 : Int} {x1 : Int} : WP m127 9 [.inr (.inr (.inl l0)), l1, .inr (.inr (.inl l2)), l3, .inr (.inr (.inl l4)), l5] [.inr (.inr (.inl x1)), .inr (.inr (.inl x0))] σ Q = WP m127 10 [.inr (.inr (.inl l0)), l1, .inr (.inr (.inl l2)), l3, .inr (.inr (.inl l4)), l5] [.inl (cmpL x0 x1)] σ Q := w_ld d127_9 rfl
theorem d127_10 : adec m127 10 = some (.ifCond .gt (7), 3) := by decide +kernel
theorem s127_10 {l0 : Int} {l1 : AV} {l2 : Int} {l3 : AV} {l4 : Int} {l5 : AV} {x0 : Int} : WP m127 10 [.inr (.inr (.inl l0)), l1, .inr (.inr (.inl l2)), l3, .inr (.inr (.inl l4)), l5] [.inl x0] σ Q = (if 0 < x0 then WP m127 17 [.inr (.inr (.inl l0)), l1, .inr (.inr (.inl l2)), l3, .inr (.inr (.inl l4)), l5] [] σ Q else WP m127 13 [.inr (.inr (.inl l0)), l1, .inr (.inr (.inl l2)), l3, .inr (.inr (.inl l4)), l5] [] σ Q) := w_ifgt d127_10 (by decide)
theorem d127_13 : adec m127 13 = some (.iconst (1), 1) := by decide +kernel
theorem s127_13 {l0 : Int} {l1 : AV} {l2 : Int} {l3 : AV} {l4 : Int} {l5 : AV} : WP m127 13 [.inr (.inr (.inl l0)), l1, .inr (.inr (.inl l2)), l3, .inr (.inr (.inl l4)), l5] [] σ Q = WP m127 14 [.inr (.inr (.inl l0)), l1, .inr (.inr (.inl l2)), l3, .inr (.inr (.inl l4)), l5] [.inl (1)] σ Q := w_iconst d127_13 (by decide)
theorem d127_14 : adec m127 14 = some (.goto (4), 3) := by decide +kernel
theorem s127_14 {l0 : Int} {l1 : AV} {l2 : Int} {l3 : AV} {l4 : Int} {l5 : AV} {x0 : Int} : WP m127 14 [.inr (.inr (.inl l0)), l1, .inr (.inr (.inl l2)), l3, .inr (.inr (.inl l4)), l5] [.inl x0] σ Q = WP m127 18 [.inr (.inr (.inl l0)), l1, .inr (.inr (.inl l2)), l3, .inr (.inr (.inl l4)), l5] [.inl x0] σ Q := w_goto d127_14 (by decide)
theorem d127_17 : adec m127 17 = some (.iconst (0), 1) := by decide +kernel
theorem s127_17 {l0 : Int} {l1 : AV} {l2 : Int} {l3 : AV} {l4 : Int} {l5 : AV} : WP m127 17 [.inr (.inr (.inl l0)), l1, .inr (.inr (.inl l2)), l3, .inr (.inr (.inl l4)), l5] [] σ Q = WP m127 18 [.inr (.inr (.inl l0)), l1, .inr (.inr (.inl l2)), l3, .inr (.inr (.inl l4)), l5] [.inl (0)] σ Q := w_iconst d127_17 (by decide)
theorem d127_18 : adec m127 18 = some (.ireturn, 1) := by decide +kernel
theorem s127_18 {l0 : Int} {l1 : AV} {l2 : Int} {l3 : AV} {l4 : Int} {l5 : AV} {x0 : Int} : WP m127 18 [.inr (.inr (.inl l0)), l1, .inr (.inr (.inl l2)), l3, .inr (.inr (.inl l4)), l5] [.inl x0] σ Q = ((x0 = 0 ∨ x0 = 1) ∧ Q [.inl x0] σ) := w_rz d127_18 rfl
theorem e127 {p0 : Int} {p2 : Int} {p4 : Int} : CA m127 [.inr (.inr (.inl p0)), .inr (.inr (.inl p2)), .inr (.inr (.inl p4))] σ Q = WP m127 0 [.inr (.inr (.inl p0)), vU, .inr (.inr (.inl p2)), vU, .inr (.inr (.inl p4)), vU] [] σ Q := rfl
-- BinderPressModel.isName(I)Z
theorem d128_0 : adec m128 0 = some (.iload_n 0, 1) := by decide +kernel
theorem s128_0 {l0 : Int} : WP m128 0 [.inl l0] [] σ Q = WP m128 1 [.inl l0] [.inl l0] σ Q := w_ld d128_0 rfl
theorem d128_1 : adec m128 1 = some (.i2l, 1) := by decide +kernel
theorem s128_1 {l0 : Int} {x0 : Int} : WP m128 1 [.inl l0] [.inl x0] σ Q = WP m128 2 [.inl l0] [.inr (.inr (.inl x0))] σ Q := w_ld d128_1 rfl
theorem d128_2 : adec m128 2 = some (.ldc2_w 84, 3) := by decide +kernel
theorem s128_2 {l0 : Int} {x0 : Int} : WP m128 2 [.inl l0] [.inr (.inr (.inl x0))] σ Q = WP m128 5 [.inl l0] [.inr (.inr (.inl (97))), .inr (.inr (.inl x0))] σ Q := w_ldc2 d128_2 (by decide +kernel) (by decide)
theorem d128_5 : adec m128 5 = some (.ldc2_w 86, 3) := by decide +kernel
theorem s128_5 {l0 : Int} {x0 : Int} {x1 : Int} : WP m128 5 [.inl l0] [.inr (.inr (.inl x1)), .inr (.inr (.inl x0))] σ Q = WP m128 8 [.inl l0] [.inr (.inr (.inl (122))), .inr (.inr (.inl x1)), .inr (.inr (.inl x0))] σ Q := w_ldc2 d128_5 (by decide +kernel) (by decide)
theorem d128_8 : adec m128 8 = some (.invokestatic 88, 3) := by decide +kernel
theorem s128_8 {l0 : Int} {x0 : Int} {x1 : Int} {x2 : Int} : WP m128 8 [.inl l0] [.inr (.inr (.inl x2)), .inr (.inr (.inl x1)), .inr (.inr (.inl x0))] σ Q = CA m127 [.inr (.inr (.inl x0)), .inr (.inr (.inl x1)), .inr (.inr (.inl x2))] σ (fun v σ2 => WP m128 11 [.inl l0] (v ++ []) σ2 Q) := w_cS (k := 127) d128_8 (by decide +kernel) (md := 1) (by decide +kernel) m127_at rfl rfl ⟨Nat.le_of_ble_eq_true rfl, Nat.le_of_ble_eq_true rfl, Nat.le_of_ble_eq_true rfl⟩ (by decide)
theorem d128_11 : adec m128 11 = some (.ireturn, 1) := by decide +kernel
theorem s128_11 {l0 : Int} {x0 : Int} : WP m128 11 [.inl l0] [.inl x0] σ Q = ((x0 = 0 ∨ x0 = 1) ∧ Q [.inl x0] σ) := w_rz d128_11 rfl
theorem e128 {p0 : Int} : CA m128 [.inl p0] σ Q = WP m128 0 [.inl p0] [] σ Q := rfl
-- BinderPressModel.isBinder(I)Z
theorem d129_0 : adec m129 0 = some (.iload_n 0, 1) := by decide +kernel
theorem s129_0 {l0 : Int} : WP m129 0 [.inl l0] [] σ Q = WP m129 1 [.inl l0] [.inl l0] σ Q := w_ld d129_0 rfl
theorem d129_1 : adec m129 1 = some (.sipush (1000), 3) := by decide +kernel
theorem s129_1 {l0 : Int} {x0 : Int} : WP m129 1 [.inl l0] [.inl x0] σ Q = WP m129 4 [.inl l0] [.inl (1000), .inl x0] σ Q := w_sipush d129_1 (by decide)
theorem d129_4 : adec m129 4 = some (.if_icmp .lt (7), 3) := by decide +kernel
theorem s129_4 {l0 : Int} {x0 : Int} {x1 : Int} : WP m129 4 [.inl l0] [.inl x1, .inl x0] σ Q = (if x0 < x1 then WP m129 11 [.inl l0] [] σ Q else WP m129 7 [.inl l0] [] σ Q) := w_iclt d129_4 (by decide)
theorem d129_7 : adec m129 7 = some (.iconst (1), 1) := by decide +kernel
theorem s129_7 {l0 : Int} : WP m129 7 [.inl l0] [] σ Q = WP m129 8 [.inl l0] [.inl (1)] σ Q := w_iconst d129_7 (by decide)
theorem d129_8 : adec m129 8 = some (.goto (4), 3) := by decide +kernel
theorem s129_8 {l0 : Int} {x0 : Int} : WP m129 8 [.inl l0] [.inl x0] σ Q = WP m129 12 [.inl l0] [.inl x0] σ Q := w_goto d129_8 (by decide)
theorem d129_11 : adec m129 11 = some (.iconst (0), 1) := by decide +kernel
theorem s129_11 {l0 : Int} : WP m129 11 [.inl l0] [] σ Q = WP m129 12 [.inl l0] [.inl (0)] σ Q := w_iconst d129_11 (by decide)
theorem d129_12 : adec m129 12 = some (.ireturn, 1) := by decide +kernel
theorem s129_12 {l0 : Int} {x0 : Int} : WP m129 12 [.inl l0] [.inl x0] σ Q = ((x0 = 0 ∨ x0 = 1) ∧ Q [.inl x0] σ) := w_rz d129_12 rfl
theorem e129 {p0 : Int} : CA m129 [.inl p0] σ Q = WP m129 0 [.inl p0] [] σ Q := rfl
-- BinderPressModel.isShelf(I)Z
theorem d130_0 : adec m130 0 = some (.iload_n 0, 1) := by decide +kernel
theorem s130_0 {l0 : Int} : WP m130 0 [.inl l0] [] σ Q = WP m130 1 [.inl l0] [.inl l0] σ Q := w_ld d130_0 rfl
theorem d130_1 : adec m130 1 = some (.i2l, 1) := by decide +kernel
theorem s130_1 {l0 : Int} {x0 : Int} : WP m130 1 [.inl l0] [.inl x0] σ Q = WP m130 2 [.inl l0] [.inr (.inr (.inl x0))] σ Q := w_ld d130_1 rfl
theorem d130_2 : adec m130 2 = some (.lconst 0, 1) := by decide +kernel
theorem s130_2 {l0 : Int} {x0 : Int} : WP m130 2 [.inl l0] [.inr (.inr (.inl x0))] σ Q = WP m130 3 [.inl l0] [.inr (.inr (.inl (0))), .inr (.inr (.inl x0))] σ Q := w_lconst d130_2
theorem d130_3 : adec m130 3 = some (.ldc2_w 92, 3) := by decide +kernel
theorem s130_3 {l0 : Int} {x0 : Int} {x1 : Int} : WP m130 3 [.inl l0] [.inr (.inr (.inl x1)), .inr (.inr (.inl x0))] σ Q = WP m130 6 [.inl l0] [.inr (.inr (.inl (3))), .inr (.inr (.inl x1)), .inr (.inr (.inl x0))] σ Q := w_ldc2 d130_3 (by decide +kernel) (by decide)
theorem d130_6 : adec m130 6 = some (.invokestatic 88, 3) := by decide +kernel
theorem s130_6 {l0 : Int} {x0 : Int} {x1 : Int} {x2 : Int} : WP m130 6 [.inl l0] [.inr (.inr (.inl x2)), .inr (.inr (.inl x1)), .inr (.inr (.inl x0))] σ Q = CA m127 [.inr (.inr (.inl x0)), .inr (.inr (.inl x1)), .inr (.inr (.inl x2))] σ (fun v σ2 => WP m130 9 [.inl l0] (v ++ []) σ2 Q) := w_cS (k := 127) d130_6 (by decide +kernel) (md := 1) (by decide +kernel) m127_at rfl rfl ⟨Nat.le_of_ble_eq_true rfl, Nat.le_of_ble_eq_true rfl, Nat.le_of_ble_eq_true rfl⟩ (by decide)
theorem d130_9 : adec m130 9 = some (.ireturn, 1) := by decide +kernel
theorem s130_9 {l0 : Int} {x0 : Int} : WP m130 9 [.inl l0] [.inl x0] σ Q = ((x0 = 0 ∨ x0 = 1) ∧ Q [.inl x0] σ) := w_rz d130_9 rfl
theorem e130 {p0 : Int} : CA m130 [.inl p0] σ Q = WP m130 0 [.inl p0] [] σ Q := rfl
-- BinderPressModel.sizeOf(I)I
theorem d131_0 : adec m131 0 = some (.aload_n 0, 1) := by decide +kernel
theorem s131_0 {l0 : Nat} {l1 : Int} : WP m131 0 [.inr (.inl l0), .inl l1] [] σ Q = WP m131 1 [.inr (.inl l0), .inl l1] [.inr (.inl l0)] σ Q := w_ld d131_0 rfl
theorem d131_1 : adec m131 1 = some (.getfield 7, 3) := by decide +kernel
theorem s131_1 {l0 : Nat} {l1 : Int} : WP m131 1 [.inr (.inl l0), .inl l1] [.inr (.inl 130)] σ Q = WP m131 4 [.inr (.inl l0), .inl l1] [.inr (.inl 131)] σ Q := (w_getR (c := 10) (n := 0) d131_1 (by decide +kernel) (by decide +kernel)).trans (g_and ⟨isO_dec (by decide +kernel), by decide +kernel⟩)
theorem d131_4 : adec m131 4 = some (.bipush (121), 2) := by decide +kernel
theorem s131_4 {l0 : Nat} {l1 : Int} {x0 : Nat} : WP m131 4 [.inr (.inl l0), .inl l1] [.inr (.inl x0)] σ Q = WP m131 6 [.inr (.inl l0), .inl l1] [.inl (121), .inr (.inl x0)] σ Q := w_bipush d131_4 (by decide)
theorem d131_6 : adec m131 6 = some (.iload_n 1, 1) := by decide +kernel
theorem s131_6 {l0 : Nat} {l1 : Int} {x0 : Nat} {x1 : Int} : WP m131 6 [.inr (.inl l0), .inl l1] [.inl x1, .inr (.inl x0)] σ Q = WP m131 7 [.inr (.inl l0), .inl l1] [.inl l1, .inl x1, .inr (.inl x0)] σ Q := w_ld d131_6 rfl
theorem d131_7 : adec m131 7 = some (.imul, 1) := by decide +kernel
theorem s131_7 {l0 : Nat} {l1 : Int} {x0 : Nat} {x1 : Int} {x2 : Int} : WP m131 7 [.inr (.inl l0), .inl l1] [.inl x2, .inl x1, .inr (.inl x0)] σ Q = (inI (x1 * x2) ∧ WP m131 8 [.inr (.inl l0), .inl l1] [.inl (x1 * x2), .inr (.inl x0)] σ Q) := w_imul d131_7
theorem d131_8 : adec m131 8 = some (.iaload, 1) := by decide +kernel
theorem s131_8 {l0 : Nat} {l1 : Int} {x0 : Nat} {x1 : Int} : WP m131 8 [.inr (.inl l0), .inl l1] [.inl x1, .inr (.inl x0)] σ Q = ((kdS x0 = 20 ∧ 0 ≤ x1 ∧ x1 < ln x0) ∧ WP m131 9 [.inr (.inl l0), .inl l1] [.inl (σ x0 x1.toNat)] σ Q) := w_iald d131_8
theorem d131_9 : adec m131 9 = some (.ireturn, 1) := by decide +kernel
theorem s131_9 {l0 : Nat} {l1 : Int} {x0 : Int} : WP m131 9 [.inr (.inl l0), .inl l1] [.inl x0] σ Q = Q [.inl x0] σ := w_ri d131_9 rfl
theorem e131 {p0 : Nat} {p1 : Int} : CA m131 [.inr (.inl p0), .inl p1] σ Q = WP m131 0 [.inr (.inl p0), .inl p1] [] σ Q := rfl
-- BinderPressModel.push(I)V
theorem d132_0 : adec m132 0 = some (.aload_n 0, 1) := by decide +kernel
theorem s132_0 {l0 : Nat} {l1 : Int} : WP m132 0 [.inr (.inl l0), .inl l1] [] σ Q = WP m132 1 [.inr (.inl l0), .inl l1] [.inr (.inl l0)] σ Q := w_ld d132_0 rfl
theorem d132_1 : adec m132 1 = some (.getfield 30, 3) := by decide +kernel
theorem s132_1 {l0 : Nat} {l1 : Int} : WP m132 1 [.inr (.inl l0), .inl l1] [.inr (.inl 130)] σ Q = WP m132 4 [.inr (.inl l0), .inl l1] [.inr (.inl 136)] σ Q := (w_getR (c := 10) (n := 10) d132_1 (by decide +kernel) (by decide +kernel)).trans (g_and ⟨isO_dec (by decide +kernel), by decide +kernel⟩)
theorem d132_4 : adec m132 4 = some (.aload_n 0, 1) := by decide +kernel
theorem s132_4 {l0 : Nat} {l1 : Int} {x0 : Nat} : WP m132 4 [.inr (.inl l0), .inl l1] [.inr (.inl x0)] σ Q = WP m132 5 [.inr (.inl l0), .inl l1] [.inr (.inl l0), .inr (.inl x0)] σ Q := w_ld d132_4 rfl
theorem d132_5 : adec m132 5 = some (.getfield 94, 3) := by decide +kernel
theorem s132_5 {l0 : Nat} {l1 : Int} {x0 : Nat} : WP m132 5 [.inr (.inl l0), .inl l1] [.inr (.inl 130), .inr (.inl x0)] σ Q = WP m132 8 [.inr (.inl l0), .inl l1] [.inl (σ 130 11), .inr (.inl x0)] σ Q := (w_getI (c := 10) (n := 11) d132_5 (by decide +kernel) (by decide +kernel)).trans (g_and (isO_dec (by decide +kernel)))
theorem d132_8 : adec m132 8 = some (.iload_n 1, 1) := by decide +kernel
theorem s132_8 {l0 : Nat} {l1 : Int} {x0 : Nat} {x1 : Int} : WP m132 8 [.inr (.inl l0), .inl l1] [.inl x1, .inr (.inl x0)] σ Q = WP m132 9 [.inr (.inl l0), .inl l1] [.inl l1, .inl x1, .inr (.inl x0)] σ Q := w_ld d132_8 rfl
theorem d132_9 : adec m132 9 = some (.iastore, 1) := by decide +kernel
theorem s132_9 {l0 : Nat} {l1 : Int} {x0 : Nat} {x1 : Int} {x2 : Int} : WP m132 9 [.inr (.inl l0), .inl l1] [.inl x2, .inl x1, .inr (.inl x0)] σ Q = ((kdS x0 = 20 ∧ 0 ≤ x1 ∧ x1 < ln x0) ∧ WP m132 10 [.inr (.inl l0), .inl l1] [] (aup σ x0 x1.toNat x2) Q) := w_iast d132_9
theorem d132_10 : adec m132 10 = some (.aload_n 0, 1) := by decide +kernel
theorem s132_10 {l0 : Nat} {l1 : Int} : WP m132 10 [.inr (.inl l0), .inl l1] [] σ Q = WP m132 11 [.inr (.inl l0), .inl l1] [.inr (.inl l0)] σ Q := w_ld d132_10 rfl
theorem d132_11 : adec m132 11 = some (.dup, 1) := by decide +kernel
theorem s132_11 {l0 : Nat} {l1 : Int} {x0 : Nat} : WP m132 11 [.inr (.inl l0), .inl l1] [.inr (.inl x0)] σ Q = WP m132 12 [.inr (.inl l0), .inl l1] [.inr (.inl x0), .inr (.inl x0)] σ Q := w_ld d132_11 rfl
theorem d132_12 : adec m132 12 = some (.getfield 94, 3) := by decide +kernel
theorem s132_12 {l0 : Nat} {l1 : Int} {x0 : Nat} : WP m132 12 [.inr (.inl l0), .inl l1] [.inr (.inl 130), .inr (.inl x0)] σ Q = WP m132 15 [.inr (.inl l0), .inl l1] [.inl (σ 130 11), .inr (.inl x0)] σ Q := (w_getI (c := 10) (n := 11) d132_12 (by decide +kernel) (by decide +kernel)).trans (g_and (isO_dec (by decide +kernel)))
theorem d132_15 : adec m132 15 = some (.iconst (1), 1) := by decide +kernel
theorem s132_15 {l0 : Nat} {l1 : Int} {x0 : Nat} {x1 : Int} : WP m132 15 [.inr (.inl l0), .inl l1] [.inl x1, .inr (.inl x0)] σ Q = WP m132 16 [.inr (.inl l0), .inl l1] [.inl (1), .inl x1, .inr (.inl x0)] σ Q := w_iconst d132_15 (by decide)
theorem d132_16 : adec m132 16 = some (.iadd, 1) := by decide +kernel
theorem s132_16 {l0 : Nat} {l1 : Int} {x0 : Nat} {x1 : Int} {x2 : Int} : WP m132 16 [.inr (.inl l0), .inl l1] [.inl x2, .inl x1, .inr (.inl x0)] σ Q = (inI (x1 + x2) ∧ WP m132 17 [.inr (.inl l0), .inl l1] [.inl (x1 + x2), .inr (.inl x0)] σ Q) := w_iadd d132_16
theorem d132_17 : adec m132 17 = some (.putfield 94, 3) := by decide +kernel
theorem s132_17 {l0 : Nat} {l1 : Int} {x1 : Int} : WP m132 17 [.inr (.inl l0), .inl l1] [.inl x1, .inr (.inl 130)] σ Q = WP m132 20 [.inr (.inl l0), .inl l1] [] (aup σ 130 11 x1) Q := (w_putI (c := 10) (n := 11) d132_17 (by decide +kernel) (by decide +kernel) (by decide +kernel)).trans (g_and (isO_dec (by decide +kernel)))
theorem d132_20 : adec m132 20 = some (.return_, 1) := by decide +kernel
theorem s132_20 {l0 : Nat} {l1 : Int} : WP m132 20 [.inr (.inl l0), .inl l1] [] σ Q = Q [] σ := w_rv d132_20 rfl
theorem e132 {p0 : Nat} {p1 : Int} : CA m132 [.inr (.inl p0), .inl p1] σ Q = WP m132 0 [.inr (.inl p0), .inl p1] [] σ Q := rfl
-- BinderPressModel.pop()I
theorem d133_0 : adec m133 0 = some (.aload_n 0, 1) := by decide +kernel
theorem s133_0 {l0 : Nat} : WP m133 0 [.inr (.inl l0)] [] σ Q = WP m133 1 [.inr (.inl l0)] [.inr (.inl l0)] σ Q := w_ld d133_0 rfl
theorem d133_1 : adec m133 1 = some (.dup, 1) := by decide +kernel
theorem s133_1 {l0 : Nat} {x0 : Nat} : WP m133 1 [.inr (.inl l0)] [.inr (.inl x0)] σ Q = WP m133 2 [.inr (.inl l0)] [.inr (.inl x0), .inr (.inl x0)] σ Q := w_ld d133_1 rfl
theorem d133_2 : adec m133 2 = some (.getfield 94, 3) := by decide +kernel
theorem s133_2 {l0 : Nat} {x0 : Nat} : WP m133 2 [.inr (.inl l0)] [.inr (.inl 130), .inr (.inl x0)] σ Q = WP m133 5 [.inr (.inl l0)] [.inl (σ 130 11), .inr (.inl x0)] σ Q := (w_getI (c := 10) (n := 11) d133_2 (by decide +kernel) (by decide +kernel)).trans (g_and (isO_dec (by decide +kernel)))
theorem d133_5 : adec m133 5 = some (.iconst (1), 1) := by decide +kernel
theorem s133_5 {l0 : Nat} {x0 : Nat} {x1 : Int} : WP m133 5 [.inr (.inl l0)] [.inl x1, .inr (.inl x0)] σ Q = WP m133 6 [.inr (.inl l0)] [.inl (1), .inl x1, .inr (.inl x0)] σ Q := w_iconst d133_5 (by decide)
theorem d133_6 : adec m133 6 = some (.isub, 1) := by decide +kernel
theorem s133_6 {l0 : Nat} {x0 : Nat} {x1 : Int} {x2 : Int} : WP m133 6 [.inr (.inl l0)] [.inl x2, .inl x1, .inr (.inl x0)] σ Q = (inI (x1 - x2) ∧ WP m133 7 [.inr (.inl l0)] [.inl (x1 - x2), .inr (.inl x0)] σ Q) := w_isub d133_6
theorem d133_7 : adec m133 7 = some (.putfield 94, 3) := by decide +kernel
theorem s133_7 {l0 : Nat} {x1 : Int} : WP m133 7 [.inr (.inl l0)] [.inl x1, .inr (.inl 130)] σ Q = WP m133 10 [.inr (.inl l0)] [] (aup σ 130 11 x1) Q := (w_putI (c := 10) (n := 11) d133_7 (by decide +kernel) (by decide +kernel) (by decide +kernel)).trans (g_and (isO_dec (by decide +kernel)))
theorem d133_10 : adec m133 10 = some (.aload_n 0, 1) := by decide +kernel
theorem s133_10 {l0 : Nat} : WP m133 10 [.inr (.inl l0)] [] σ Q = WP m133 11 [.inr (.inl l0)] [.inr (.inl l0)] σ Q := w_ld d133_10 rfl
theorem d133_11 : adec m133 11 = some (.getfield 30, 3) := by decide +kernel
theorem s133_11 {l0 : Nat} : WP m133 11 [.inr (.inl l0)] [.inr (.inl 130)] σ Q = WP m133 14 [.inr (.inl l0)] [.inr (.inl 136)] σ Q := (w_getR (c := 10) (n := 10) d133_11 (by decide +kernel) (by decide +kernel)).trans (g_and ⟨isO_dec (by decide +kernel), by decide +kernel⟩)
theorem d133_14 : adec m133 14 = some (.aload_n 0, 1) := by decide +kernel
theorem s133_14 {l0 : Nat} {x0 : Nat} : WP m133 14 [.inr (.inl l0)] [.inr (.inl x0)] σ Q = WP m133 15 [.inr (.inl l0)] [.inr (.inl l0), .inr (.inl x0)] σ Q := w_ld d133_14 rfl
theorem d133_15 : adec m133 15 = some (.getfield 94, 3) := by decide +kernel
theorem s133_15 {l0 : Nat} {x0 : Nat} : WP m133 15 [.inr (.inl l0)] [.inr (.inl 130), .inr (.inl x0)] σ Q = WP m133 18 [.inr (.inl l0)] [.inl (σ 130 11), .inr (.inl x0)] σ Q := (w_getI (c := 10) (n := 11) d133_15 (by decide +kernel) (by decide +kernel)).trans (g_and (isO_dec (by decide +kernel)))
theorem d133_18 : adec m133 18 = some (.iaload, 1) := by decide +kernel
theorem s133_18 {l0 : Nat} {x0 : Nat} {x1 : Int} : WP m133 18 [.inr (.inl l0)] [.inl x1, .inr (.inl x0)] σ Q = ((kdS x0 = 20 ∧ 0 ≤ x1 ∧ x1 < ln x0) ∧ WP m133 19 [.inr (.inl l0)] [.inl (σ x0 x1.toNat)] σ Q) := w_iald d133_18
theorem d133_19 : adec m133 19 = some (.ireturn, 1) := by decide +kernel
theorem s133_19 {l0 : Nat} {x0 : Int} : WP m133 19 [.inr (.inl l0)] [.inl x0] σ Q = Q [.inl x0] σ := w_ri d133_19 rfl
theorem e133 {p0 : Nat} : CA m133 [.inr (.inl p0)] σ Q = WP m133 0 [.inr (.inl p0)] [] σ Q := rfl
-- BinderPressModel.make(I)V
theorem d134_0 : adec m134 0 = some (.aload_n 0, 1) := by decide +kernel
theorem s134_0 {l0 : Nat} {l1 : Int} : WP m134 0 [.inr (.inl l0), .inl l1] [] σ Q = WP m134 1 [.inr (.inl l0), .inl l1] [.inr (.inl l0)] σ Q := w_ld d134_0 rfl
theorem d134_1 : adec m134 1 = some (.getfield 27, 3) := by decide +kernel
theorem s134_1 {l0 : Nat} {l1 : Int} : WP m134 1 [.inr (.inl l0), .inl l1] [.inr (.inl 130)] σ Q = WP m134 4 [.inr (.inl l0), .inl l1] [.inr (.inl 135)] σ Q := (w_getR (c := 10) (n := 8) d134_1 (by decide +kernel) (by decide +kernel)).trans (g_and ⟨isO_dec (by decide +kernel), by decide +kernel⟩)
theorem d134_4 : adec m134 4 = some (.aload_n 0, 1) := by decide +kernel
theorem s134_4 {l0 : Nat} {l1 : Int} {x0 : Nat} : WP m134 4 [.inr (.inl l0), .inl l1] [.inr (.inl x0)] σ Q = WP m134 5 [.inr (.inl l0), .inl l1] [.inr (.inl l0), .inr (.inl x0)] σ Q := w_ld d134_4 rfl
theorem d134_5 : adec m134 5 = some (.getfield 97, 3) := by decide +kernel
theorem s134_5 {l0 : Nat} {l1 : Int} {x0 : Nat} : WP m134 5 [.inr (.inl l0), .inl l1] [.inr (.inl 130), .inr (.inl x0)] σ Q = WP m134 8 [.inr (.inl l0), .inl l1] [.inl (σ 130 9), .inr (.inl x0)] σ Q := (w_getI (c := 10) (n := 9) d134_5 (by decide +kernel) (by decide +kernel)).trans (g_and (isO_dec (by decide +kernel)))
theorem d134_8 : adec m134 8 = some (.iload_n 1, 1) := by decide +kernel
theorem s134_8 {l0 : Nat} {l1 : Int} {x0 : Nat} {x1 : Int} : WP m134 8 [.inr (.inl l0), .inl l1] [.inl x1, .inr (.inl x0)] σ Q = WP m134 9 [.inr (.inl l0), .inl l1] [.inl l1, .inl x1, .inr (.inl x0)] σ Q := w_ld d134_8 rfl
theorem d134_9 : adec m134 9 = some (.iastore, 1) := by decide +kernel
theorem s134_9 {l0 : Nat} {l1 : Int} {x0 : Nat} {x1 : Int} {x2 : Int} : WP m134 9 [.inr (.inl l0), .inl l1] [.inl x2, .inl x1, .inr (.inl x0)] σ Q = ((kdS x0 = 20 ∧ 0 ≤ x1 ∧ x1 < ln x0) ∧ WP m134 10 [.inr (.inl l0), .inl l1] [] (aup σ x0 x1.toNat x2) Q) := w_iast d134_9
theorem d134_10 : adec m134 10 = some (.aload_n 0, 1) := by decide +kernel
theorem s134_10 {l0 : Nat} {l1 : Int} : WP m134 10 [.inr (.inl l0), .inl l1] [] σ Q = WP m134 11 [.inr (.inl l0), .inl l1] [.inr (.inl l0)] σ Q := w_ld d134_10 rfl
theorem d134_11 : adec m134 11 = some (.dup, 1) := by decide +kernel
theorem s134_11 {l0 : Nat} {l1 : Int} {x0 : Nat} : WP m134 11 [.inr (.inl l0), .inl l1] [.inr (.inl x0)] σ Q = WP m134 12 [.inr (.inl l0), .inl l1] [.inr (.inl x0), .inr (.inl x0)] σ Q := w_ld d134_11 rfl
theorem d134_12 : adec m134 12 = some (.getfield 97, 3) := by decide +kernel
theorem s134_12 {l0 : Nat} {l1 : Int} {x0 : Nat} : WP m134 12 [.inr (.inl l0), .inl l1] [.inr (.inl 130), .inr (.inl x0)] σ Q = WP m134 15 [.inr (.inl l0), .inl l1] [.inl (σ 130 9), .inr (.inl x0)] σ Q := (w_getI (c := 10) (n := 9) d134_12 (by decide +kernel) (by decide +kernel)).trans (g_and (isO_dec (by decide +kernel)))
theorem d134_15 : adec m134 15 = some (.iconst (1), 1) := by decide +kernel
theorem s134_15 {l0 : Nat} {l1 : Int} {x0 : Nat} {x1 : Int} : WP m134 15 [.inr (.inl l0), .inl l1] [.inl x1, .inr (.inl x0)] σ Q = WP m134 16 [.inr (.inl l0), .inl l1] [.inl (1), .inl x1, .inr (.inl x0)] σ Q := w_iconst d134_15 (by decide)
theorem d134_16 : adec m134 16 = some (.iadd, 1) := by decide +kernel
theorem s134_16 {l0 : Nat} {l1 : Int} {x0 : Nat} {x1 : Int} {x2 : Int} : WP m134 16 [.inr (.inl l0), .inl l1] [.inl x2, .inl x1, .inr (.inl x0)] σ Q = (inI (x1 + x2) ∧ WP m134 17 [.inr (.inl l0), .inl l1] [.inl (x1 + x2), .inr (.inl x0)] σ Q) := w_iadd d134_16
theorem d134_17 : adec m134 17 = some (.putfield 97, 3) := by decide +kernel
theorem s134_17 {l0 : Nat} {l1 : Int} {x1 : Int} : WP m134 17 [.inr (.inl l0), .inl l1] [.inl x1, .inr (.inl 130)] σ Q = WP m134 20 [.inr (.inl l0), .inl l1] [] (aup σ 130 9 x1) Q := (w_putI (c := 10) (n := 9) d134_17 (by decide +kernel) (by decide +kernel) (by decide +kernel)).trans (g_and (isO_dec (by decide +kernel)))
theorem d134_20 : adec m134 20 = some (.return_, 1) := by decide +kernel
theorem s134_20 {l0 : Nat} {l1 : Int} : WP m134 20 [.inr (.inl l0), .inl l1] [] σ Q = Q [] σ := w_rv d134_20 rfl
theorem e134 {p0 : Nat} {p1 : Int} : CA m134 [.inr (.inl p0), .inl p1] σ Q = WP m134 0 [.inr (.inl p0), .inl p1] [] σ Q := rfl
-- BinderPressModel.copyRow(II)V
theorem d135_0 : adec m135 0 = some (.iconst (0), 1) := by decide +kernel
theorem s135_0 {l0 : Nat} {l1 : Int} {l2 : Int} {l3 : AV} : WP m135 0 [.inr (.inl l0), .inl l1, .inl l2, l3] [] σ Q = WP m135 1 [.inr (.inl l0), .inl l1, .inl l2, l3] [.inl (0)] σ Q := w_iconst d135_0 (by decide)
theorem d135_1 : adec m135 1 = some (.istore_n 3, 1) := by decide +kernel
theorem s135_1 {l0 : Nat} {l1 : Int} {l2 : Int} {l3 : AV} {x0 : Int} : WP m135 1 [.inr (.inl l0), .inl l1, .inl l2, l3] [.inl x0] σ Q = WP m135 2 [.inr (.inl l0), .inl l1, .inl l2, .inl x0] [] σ Q := w_st1 (j := 3) d135_1 rfl (Nat.le_of_ble_eq_true rfl) rfl
theorem d135_2 : adec m135 2 = some (.iload_n 3, 1) := by decide +kernel
theorem s135_2 {l0 : Nat} {l1 : Int} {l2 : Int} {l3 : Int} : WP m135 2 [.inr (.inl l0), .inl l1, .inl l2, .inl l3] [] σ Q = WP m135 3 [.inr (.inl l0), .inl l1, .inl l2, .inl l3] [.inl l3] σ Q := w_ld d135_2 rfl
theorem d135_3 : adec m135 3 = some (.sipush (484), 3) := by decide +kernel
theorem s135_3 {l0 : Nat} {l1 : Int} {l2 : Int} {l3 : Int} {x0 : Int} : WP m135 3 [.inr (.inl l0), .inl l1, .inl l2, .inl l3] [.inl x0] σ Q = WP m135 6 [.inr (.inl l0), .inl l1, .inl l2, .inl l3] [.inl (484), .inl x0] σ Q := w_sipush d135_3 (by decide)
theorem d135_6 : adec m135 6 = some (.if_icmp .ge (25), 3) := by decide +kernel
theorem s135_6 {l0 : Nat} {l1 : Int} {l2 : Int} {l3 : Int} {x0 : Int} {x1 : Int} : WP m135 6 [.inr (.inl l0), .inl l1, .inl l2, .inl l3] [.inl x1, .inl x0] σ Q = (if x1 ≤ x0 then WP m135 31 [.inr (.inl l0), .inl l1, .inl l2, .inl l3] [] σ Q else WP m135 9 [.inr (.inl l0), .inl l1, .inl l2, .inl l3] [] σ Q) := w_icge d135_6 (by decide)
theorem d135_9 : adec m135 9 = some (.aload_n 0, 1) := by decide +kernel
theorem s135_9 {l0 : Nat} {l1 : Int} {l2 : Int} {l3 : Int} : WP m135 9 [.inr (.inl l0), .inl l1, .inl l2, .inl l3] [] σ Q = WP m135 10 [.inr (.inl l0), .inl l1, .inl l2, .inl l3] [.inr (.inl l0)] σ Q := w_ld d135_9 rfl
theorem d135_10 : adec m135 10 = some (.getfield 7, 3) := by decide +kernel
theorem s135_10 {l0 : Nat} {l1 : Int} {l2 : Int} {l3 : Int} : WP m135 10 [.inr (.inl l0), .inl l1, .inl l2, .inl l3] [.inr (.inl 130)] σ Q = WP m135 13 [.inr (.inl l0), .inl l1, .inl l2, .inl l3] [.inr (.inl 131)] σ Q := (w_getR (c := 10) (n := 0) d135_10 (by decide +kernel) (by decide +kernel)).trans (g_and ⟨isO_dec (by decide +kernel), by decide +kernel⟩)
theorem d135_13 : adec m135 13 = some (.iload_n 2, 1) := by decide +kernel
theorem s135_13 {l0 : Nat} {l1 : Int} {l2 : Int} {l3 : Int} {x0 : Nat} : WP m135 13 [.inr (.inl l0), .inl l1, .inl l2, .inl l3] [.inr (.inl x0)] σ Q = WP m135 14 [.inr (.inl l0), .inl l1, .inl l2, .inl l3] [.inl l2, .inr (.inl x0)] σ Q := w_ld d135_13 rfl
theorem d135_14 : adec m135 14 = some (.iload_n 3, 1) := by decide +kernel
theorem s135_14 {l0 : Nat} {l1 : Int} {l2 : Int} {l3 : Int} {x0 : Nat} {x1 : Int} : WP m135 14 [.inr (.inl l0), .inl l1, .inl l2, .inl l3] [.inl x1, .inr (.inl x0)] σ Q = WP m135 15 [.inr (.inl l0), .inl l1, .inl l2, .inl l3] [.inl l3, .inl x1, .inr (.inl x0)] σ Q := w_ld d135_14 rfl
theorem d135_15 : adec m135 15 = some (.iadd, 1) := by decide +kernel
theorem s135_15 {l0 : Nat} {l1 : Int} {l2 : Int} {l3 : Int} {x0 : Nat} {x1 : Int} {x2 : Int} : WP m135 15 [.inr (.inl l0), .inl l1, .inl l2, .inl l3] [.inl x2, .inl x1, .inr (.inl x0)] σ Q = (inI (x1 + x2) ∧ WP m135 16 [.inr (.inl l0), .inl l1, .inl l2, .inl l3] [.inl (x1 + x2), .inr (.inl x0)] σ Q) := w_iadd d135_15
theorem d135_16 : adec m135 16 = some (.aload_n 0, 1) := by decide +kernel
theorem s135_16 {l0 : Nat} {l1 : Int} {l2 : Int} {l3 : Int} {x0 : Nat} {x1 : Int} : WP m135 16 [.inr (.inl l0), .inl l1, .inl l2, .inl l3] [.inl x1, .inr (.inl x0)] σ Q = WP m135 17 [.inr (.inl l0), .inl l1, .inl l2, .inl l3] [.inr (.inl l0), .inl x1, .inr (.inl x0)] σ Q := w_ld d135_16 rfl
theorem d135_17 : adec m135 17 = some (.getfield 7, 3) := by decide +kernel
theorem s135_17 {l0 : Nat} {l1 : Int} {l2 : Int} {l3 : Int} {x0 : Nat} {x1 : Int} : WP m135 17 [.inr (.inl l0), .inl l1, .inl l2, .inl l3] [.inr (.inl 130), .inl x1, .inr (.inl x0)] σ Q = WP m135 20 [.inr (.inl l0), .inl l1, .inl l2, .inl l3] [.inr (.inl 131), .inl x1, .inr (.inl x0)] σ Q := (w_getR (c := 10) (n := 0) d135_17 (by decide +kernel) (by decide +kernel)).trans (g_and ⟨isO_dec (by decide +kernel), by decide +kernel⟩)
theorem d135_20 : adec m135 20 = some (.iload_n 1, 1) := by decide +kernel
theorem s135_20 {l0 : Nat} {l1 : Int} {l2 : Int} {l3 : Int} {x0 : Nat} {x1 : Int} {x2 : Nat} : WP m135 20 [.inr (.inl l0), .inl l1, .inl l2, .inl l3] [.inr (.inl x2), .inl x1, .inr (.inl x0)] σ Q = WP m135 21 [.inr (.inl l0), .inl l1, .inl l2, .inl l3] [.inl l1, .inr (.inl x2), .inl x1, .inr (.inl x0)] σ Q := w_ld d135_20 rfl
theorem d135_21 : adec m135 21 = some (.iload_n 3, 1) := by decide +kernel
theorem s135_21 {l0 : Nat} {l1 : Int} {l2 : Int} {l3 : Int} {x0 : Nat} {x1 : Int} {x2 : Nat} {x3 : Int} : WP m135 21 [.inr (.inl l0), .inl l1, .inl l2, .inl l3] [.inl x3, .inr (.inl x2), .inl x1, .inr (.inl x0)] σ Q = WP m135 22 [.inr (.inl l0), .inl l1, .inl l2, .inl l3] [.inl l3, .inl x3, .inr (.inl x2), .inl x1, .inr (.inl x0)] σ Q := w_ld d135_21 rfl
theorem d135_22 : adec m135 22 = some (.iadd, 1) := by decide +kernel
theorem s135_22 {l0 : Nat} {l1 : Int} {l2 : Int} {l3 : Int} {x0 : Nat} {x1 : Int} {x2 : Nat} {x3 : Int} {x4 : Int} : WP m135 22 [.inr (.inl l0), .inl l1, .inl l2, .inl l3] [.inl x4, .inl x3, .inr (.inl x2), .inl x1, .inr (.inl x0)] σ Q = (inI (x3 + x4) ∧ WP m135 23 [.inr (.inl l0), .inl l1, .inl l2, .inl l3] [.inl (x3 + x4), .inr (.inl x2), .inl x1, .inr (.inl x0)] σ Q) := w_iadd d135_22
theorem d135_23 : adec m135 23 = some (.iaload, 1) := by decide +kernel
theorem s135_23 {l0 : Nat} {l1 : Int} {l2 : Int} {l3 : Int} {x0 : Nat} {x1 : Int} {x2 : Nat} {x3 : Int} : WP m135 23 [.inr (.inl l0), .inl l1, .inl l2, .inl l3] [.inl x3, .inr (.inl x2), .inl x1, .inr (.inl x0)] σ Q = ((kdS x2 = 20 ∧ 0 ≤ x3 ∧ x3 < ln x2) ∧ WP m135 24 [.inr (.inl l0), .inl l1, .inl l2, .inl l3] [.inl (σ x2 x3.toNat), .inl x1, .inr (.inl x0)] σ Q) := w_iald d135_23
theorem d135_24 : adec m135 24 = some (.iastore, 1) := by decide +kernel
theorem s135_24 {l0 : Nat} {l1 : Int} {l2 : Int} {l3 : Int} {x0 : Nat} {x1 : Int} {x2 : Int} : WP m135 24 [.inr (.inl l0), .inl l1, .inl l2, .inl l3] [.inl x2, .inl x1, .inr (.inl x0)] σ Q = ((kdS x0 = 20 ∧ 0 ≤ x1 ∧ x1 < ln x0) ∧ WP m135 25 [.inr (.inl l0), .inl l1, .inl l2, .inl l3] [] (aup σ x0 x1.toNat x2) Q) := w_iast d135_24
theorem d135_25 : adec m135 25 = some (.iinc 3 (1), 3) := by decide +kernel
theorem s135_25 {l0 : Nat} {l1 : Int} {l2 : Int} {l3 : Int} : WP m135 25 [.inr (.inl l0), .inl l1, .inl l2, .inl l3] [] σ Q = (inI (l3 + (1)) ∧ WP m135 28 [.inr (.inl l0), .inl l1, .inl l2, .inl (l3 + (1))] [] σ Q) := w_iinc d135_25 rfl rfl
theorem d135_28 : adec m135 28 = some (.goto (-26), 3) := by decide +kernel
theorem s135_28 {l0 : Nat} {l1 : Int} {l2 : Int} {l3 : Int} : WP m135 28 [.inr (.inl l0), .inl l1, .inl l2, .inl l3] [] σ Q = WP m135 2 [.inr (.inl l0), .inl l1, .inl l2, .inl l3] [] σ Q := w_goto d135_28 (by decide)
theorem d135_31 : adec m135 31 = some (.return_, 1) := by decide +kernel
theorem s135_31 {l0 : Nat} {l1 : Int} {l2 : Int} {l3 : Int} : WP m135 31 [.inr (.inl l0), .inl l1, .inl l2, .inl l3] [] σ Q = Q [] σ := w_rv d135_31 rfl
theorem e135 {p0 : Nat} {p1 : Int} {p2 : Int} : CA m135 [.inr (.inl p0), .inl p1, .inl p2] σ Q = WP m135 0 [.inr (.inl p0), .inl p1, .inl p2, vU] [] σ Q := rfl
-- BinderPressModel.take(I)V
theorem d136_0 : adec m136 0 = some (.aload_n 0, 1) := by decide +kernel
theorem s136_0 {l0 : Nat} {l1 : Int} {l2 : AV} : WP m136 0 [.inr (.inl l0), .inl l1, l2] [] σ Q = WP m136 1 [.inr (.inl l0), .inl l1, l2] [.inr (.inl l0)] σ Q := w_ld d136_0 rfl
theorem d136_1 : adec m136 1 = some (.aload_n 0, 1) := by decide +kernel
theorem s136_1 {l0 : Nat} {l1 : Int} {l2 : AV} {x0 : Nat} : WP m136 1 [.inr (.inl l0), .inl l1, l2] [.inr (.inl x0)] σ Q = WP m136 2 [.inr (.inl l0), .inl l1, l2] [.inr (.inl l0), .inr (.inl x0)] σ Q := w_ld d136_1 rfl
theorem d136_2 : adec m136 2 = some (.iload_n 1, 1) := by decide +kernel
theorem s136_2 {l0 : Nat} {l1 : Int} {l2 : AV} {x0 : Nat} {x1 : Nat} : WP m136 2 [.inr (.inl l0), .inl l1, l2] [.inr (.inl x1), .inr (.inl x0)] σ Q = WP m136 3 [.inr (.inl l0), .inl l1, l2] [.inl l1, .inr (.inl x1), .inr (.inl x0)] σ Q := w_ld d136_2 rfl
theorem d136_3 : adec m136 3 = some (.invokevirtual 100, 3) := by decide +kernel
theorem s136_3 {l0 : Nat} {l1 : Int} {l2 : AV} {x0 : Nat} {x2 : Int} : WP m136 3 [.inr (.inl l0), .inl l1, l2] [.inl x2, .inr (.inl 130), .inr (.inl x0)] σ Q = CA m131 [.inr (.inl 130), .inl x2] σ (fun v σ2 => WP m136 6 [.inr (.inl l0), .inl l1, l2] (v ++ [.inr (.inl x0)]) σ2 Q) := (w_cV (k := 131) d136_3 (by decide +kernel) m131_at rfl rfl ⟨Nat.le_of_ble_eq_true rfl, Nat.le_of_ble_eq_true rfl, Nat.le_of_ble_eq_true rfl⟩ (by decide)).trans (g_and (isO_dec (by decide +kernel)))
theorem d136_6 : adec m136 6 = some (.putfield 104, 3) := by decide +kernel
theorem s136_6 {l0 : Nat} {l1 : Int} {l2 : AV} {x1 : Int} : WP m136 6 [.inr (.inl l0), .inl l1, l2] [.inl x1, .inr (.inl 130)] σ Q = WP m136 9 [.inr (.inl l0), .inl l1, l2] [] (aup σ 130 7 x1) Q := (w_putI (c := 10) (n := 7) d136_6 (by decide +kernel) (by decide +kernel) (by decide +kernel)).trans (g_and (isO_dec (by decide +kernel)))
theorem d136_9 : adec m136 9 = some (.iconst (0), 1) := by decide +kernel
theorem s136_9 {l0 : Nat} {l1 : Int} {l2 : AV} : WP m136 9 [.inr (.inl l0), .inl l1, l2] [] σ Q = WP m136 10 [.inr (.inl l0), .inl l1, l2] [.inl (0)] σ Q := w_iconst d136_9 (by decide)
theorem d136_10 : adec m136 10 = some (.istore_n 2, 1) := by decide +kernel
theorem s136_10 {l0 : Nat} {l1 : Int} {l2 : AV} {x0 : Int} : WP m136 10 [.inr (.inl l0), .inl l1, l2] [.inl x0] σ Q = WP m136 11 [.inr (.inl l0), .inl l1, .inl x0] [] σ Q := w_st1 (j := 2) d136_10 rfl (Nat.le_of_ble_eq_true rfl) rfl
theorem d136_11 : adec m136 11 = some (.iload_n 2, 1) := by decide +kernel
theorem s136_11 {l0 : Nat} {l1 : Int} {l2 : Int} : WP m136 11 [.inr (.inl l0), .inl l1, .inl l2] [] σ Q = WP m136 12 [.inr (.inl l0), .inl l1, .inl l2] [.inl l2] σ Q := w_ld d136_11 rfl
theorem d136_12 : adec m136 12 = some (.aload_n 0, 1) := by decide +kernel
theorem s136_12 {l0 : Nat} {l1 : Int} {l2 : Int} {x0 : Int} : WP m136 12 [.inr (.inl l0), .inl l1, .inl l2] [.inl x0] σ Q = WP m136 13 [.inr (.inl l0), .inl l1, .inl l2] [.inr (.inl l0), .inl x0] σ Q := w_ld d136_12 rfl
theorem d136_13 : adec m136 13 = some (.getfield 104, 3) := by decide +kernel
theorem s136_13 {l0 : Nat} {l1 : Int} {l2 : Int} {x0 : Int} : WP m136 13 [.inr (.inl l0), .inl l1, .inl l2] [.inr (.inl 130), .inl x0] σ Q = WP m136 16 [.inr (.inl l0), .inl l1, .inl l2] [.inl (σ 130 7), .inl x0] σ Q := (w_getI (c := 10) (n := 7) d136_13 (by decide +kernel) (by decide +kernel)).trans (g_and (isO_dec (by decide +kernel)))
theorem d136_16 : adec m136 16 = some (.if_icmp .ge (28), 3) := by decide +kernel
theorem s136_16 {l0 : Nat} {l1 : Int} {l2 : Int} {x0 : Int} {x1 : Int} : WP m136 16 [.inr (.inl l0), .inl l1, .inl l2] [.inl x1, .inl x0] σ Q = (if x1 ≤ x0 then WP m136 44 [.inr (.inl l0), .inl l1, .inl l2] [] σ Q else WP m136 19 [.inr (.inl l0), .inl l1, .inl l2] [] σ Q) := w_icge d136_16 (by decide)
theorem d136_19 : adec m136 19 = some (.aload_n 0, 1) := by decide +kernel
theorem s136_19 {l0 : Nat} {l1 : Int} {l2 : Int} : WP m136 19 [.inr (.inl l0), .inl l1, .inl l2] [] σ Q = WP m136 20 [.inr (.inl l0), .inl l1, .inl l2] [.inr (.inl l0)] σ Q := w_ld d136_19 rfl
theorem d136_20 : adec m136 20 = some (.getfield 24, 3) := by decide +kernel
theorem s136_20 {l0 : Nat} {l1 : Int} {l2 : Int} : WP m136 20 [.inr (.inl l0), .inl l1, .inl l2] [.inr (.inl 130)] σ Q = WP m136 23 [.inr (.inl l0), .inl l1, .inl l2] [.inr (.inl 134)] σ Q := (w_getR (c := 10) (n := 6) d136_20 (by decide +kernel) (by decide +kernel)).trans (g_and ⟨isO_dec (by decide +kernel), by decide +kernel⟩)
theorem d136_23 : adec m136 23 = some (.iload_n 2, 1) := by decide +kernel
theorem s136_23 {l0 : Nat} {l1 : Int} {l2 : Int} {x0 : Nat} : WP m136 23 [.inr (.inl l0), .inl l1, .inl l2] [.inr (.inl x0)] σ Q = WP m136 24 [.inr (.inl l0), .inl l1, .inl l2] [.inl l2, .inr (.inl x0)] σ Q := w_ld d136_23 rfl
theorem d136_24 : adec m136 24 = some (.aload_n 0, 1) := by decide +kernel
theorem s136_24 {l0 : Nat} {l1 : Int} {l2 : Int} {x0 : Nat} {x1 : Int} : WP m136 24 [.inr (.inl l0), .inl l1, .inl l2] [.inl x1, .inr (.inl x0)] σ Q = WP m136 25 [.inr (.inl l0), .inl l1, .inl l2] [.inr (.inl l0), .inl x1, .inr (.inl x0)] σ Q := w_ld d136_24 rfl
theorem d136_25 : adec m136 25 = some (.getfield 7, 3) := by decide +kernel
theorem s136_25 {l0 : Nat} {l1 : Int} {l2 : Int} {x0 : Nat} {x1 : Int} : WP m136 25 [.inr (.inl l0), .inl l1, .inl l2] [.inr (.inl 130), .inl x1, .inr (.inl x0)] σ Q = WP m136 28 [.inr (.inl l0), .inl l1, .inl l2] [.inr (.inl 131), .inl x1, .inr (.inl x0)] σ Q := (w_getR (c := 10) (n := 0) d136_25 (by decide +kernel) (by decide +kernel)).trans (g_and ⟨isO_dec (by decide +kernel), by decide +kernel⟩)
theorem d136_28 : adec m136 28 = some (.bipush (121), 2) := by decide +kernel
theorem s136_28 {l0 : Nat} {l1 : Int} {l2 : Int} {x0 : Nat} {x1 : Int} {x2 : Nat} : WP m136 28 [.inr (.inl l0), .inl l1, .inl l2] [.inr (.inl x2), .inl x1, .inr (.inl x0)] σ Q = WP m136 30 [.inr (.inl l0), .inl l1, .inl l2] [.inl (121), .inr (.inl x2), .inl x1, .inr (.inl x0)] σ Q := w_bipush d136_28 (by decide)
theorem d136_30 : adec m136 30 = some (.iload_n 1, 1) := by decide +kernel
theorem s136_30 {l0 : Nat} {l1 : Int} {l2 : Int} {x0 : Nat} {x1 : Int} {x2 : Nat} {x3 : Int} : WP m136 30 [.inr (.inl l0), .inl l1, .inl l2] [.inl x3, .inr (.inl x2), .inl x1, .inr (.inl x0)] σ Q = WP m136 31 [.inr (.inl l0), .inl l1, .inl l2] [.inl l1, .inl x3, .inr (.inl x2), .inl x1, .inr (.inl x0)] σ Q := w_ld d136_30 rfl
theorem d136_31 : adec m136 31 = some (.imul, 1) := by decide +kernel
theorem s136_31 {l0 : Nat} {l1 : Int} {l2 : Int} {x0 : Nat} {x1 : Int} {x2 : Nat} {x3 : Int} {x4 : Int} : WP m136 31 [.inr (.inl l0), .inl l1, .inl l2] [.inl x4, .inl x3, .inr (.inl x2), .inl x1, .inr (.inl x0)] σ Q = (inI (x3 * x4) ∧ WP m136 32 [.inr (.inl l0), .inl l1, .inl l2] [.inl (x3 * x4), .inr (.inl x2), .inl x1, .inr (.inl x0)] σ Q) := w_imul d136_31
theorem d136_32 : adec m136 32 = some (.iconst (1), 1) := by decide +kernel
theorem s136_32 {l0 : Nat} {l1 : Int} {l2 : Int} {x0 : Nat} {x1 : Int} {x2 : Nat} {x3 : Int} : WP m136 32 [.inr (.inl l0), .inl l1, .inl l2] [.inl x3, .inr (.inl x2), .inl x1, .inr (.inl x0)] σ Q = WP m136 33 [.inr (.inl l0), .inl l1, .inl l2] [.inl (1), .inl x3, .inr (.inl x2), .inl x1, .inr (.inl x0)] σ Q := w_iconst d136_32 (by decide)
theorem d136_33 : adec m136 33 = some (.iadd, 1) := by decide +kernel
theorem s136_33 {l0 : Nat} {l1 : Int} {l2 : Int} {x0 : Nat} {x1 : Int} {x2 : Nat} {x3 : Int} {x4 : Int} : WP m136 33 [.inr (.inl l0), .inl l1, .inl l2] [.inl x4, .inl x3, .inr (.inl x2), .inl x1, .inr (.inl x0)] σ Q = (inI (x3 + x4) ∧ WP m136 34 [.inr (.inl l0), .inl l1, .inl l2] [.inl (x3 + x4), .inr (.inl x2), .inl x1, .inr (.inl x0)] σ Q) := w_iadd d136_33
theorem d136_34 : adec m136 34 = some (.iload_n 2, 1) := by decide +kernel
theorem s136_34 {l0 : Nat} {l1 : Int} {l2 : Int} {x0 : Nat} {x1 : Int} {x2 : Nat} {x3 : Int} : WP m136 34 [.inr (.inl l0), .inl l1, .inl l2] [.inl x3, .inr (.inl x2), .inl x1, .inr (.inl x0)] σ Q = WP m136 35 [.inr (.inl l0), .inl l1, .inl l2] [.inl l2, .inl x3, .inr (.inl x2), .inl x1, .inr (.inl x0)] σ Q := w_ld d136_34 rfl
theorem d136_35 : adec m136 35 = some (.iadd, 1) := by decide +kernel
theorem s136_35 {l0 : Nat} {l1 : Int} {l2 : Int} {x0 : Nat} {x1 : Int} {x2 : Nat} {x3 : Int} {x4 : Int} : WP m136 35 [.inr (.inl l0), .inl l1, .inl l2] [.inl x4, .inl x3, .inr (.inl x2), .inl x1, .inr (.inl x0)] σ Q = (inI (x3 + x4) ∧ WP m136 36 [.inr (.inl l0), .inl l1, .inl l2] [.inl (x3 + x4), .inr (.inl x2), .inl x1, .inr (.inl x0)] σ Q) := w_iadd d136_35
theorem d136_36 : adec m136 36 = some (.iaload, 1) := by decide +kernel
theorem s136_36 {l0 : Nat} {l1 : Int} {l2 : Int} {x0 : Nat} {x1 : Int} {x2 : Nat} {x3 : Int} : WP m136 36 [.inr (.inl l0), .inl l1, .inl l2] [.inl x3, .inr (.inl x2), .inl x1, .inr (.inl x0)] σ Q = ((kdS x2 = 20 ∧ 0 ≤ x3 ∧ x3 < ln x2) ∧ WP m136 37 [.inr (.inl l0), .inl l1, .inl l2] [.inl (σ x2 x3.toNat), .inl x1, .inr (.inl x0)] σ Q) := w_iald d136_36
theorem d136_37 : adec m136 37 = some (.iastore, 1) := by decide +kernel
theorem s136_37 {l0 : Nat} {l1 : Int} {l2 : Int} {x0 : Nat} {x1 : Int} {x2 : Int} : WP m136 37 [.inr (.inl l0), .inl l1, .inl l2] [.inl x2, .inl x1, .inr (.inl x0)] σ Q = ((kdS x0 = 20 ∧ 0 ≤ x1 ∧ x1 < ln x0) ∧ WP m136 38 [.inr (.inl l0), .inl l1, .inl l2] [] (aup σ x0 x1.toNat x2) Q) := w_iast d136_37
theorem d136_38 : adec m136 38 = some (.iinc 2 (1), 3) := by decide +kernel
theorem s136_38 {l0 : Nat} {l1 : Int} {l2 : Int} : WP m136 38 [.inr (.inl l0), .inl l1, .inl l2] [] σ Q = (inI (l2 + (1)) ∧ WP m136 41 [.inr (.inl l0), .inl l1, .inl (l2 + (1))] [] σ Q) := w_iinc d136_38 rfl rfl
theorem d136_41 : adec m136 41 = some (.goto (-30), 3) := by decide +kernel
theorem s136_41 {l0 : Nat} {l1 : Int} {l2 : Int} : WP m136 41 [.inr (.inl l0), .inl l1, .inl l2] [] σ Q = WP m136 11 [.inr (.inl l0), .inl l1, .inl l2] [] σ Q := w_goto d136_41 (by decide)
theorem d136_44 : adec m136 44 = some (.return_, 1) := by decide +kernel
theorem s136_44 {l0 : Nat} {l1 : Int} {l2 : Int} : WP m136 44 [.inr (.inl l0), .inl l1, .inl l2] [] σ Q = Q [] σ := w_rv d136_44 rfl
theorem e136 {p0 : Nat} {p1 : Int} : CA m136 [.inr (.inl p0), .inl p1] σ Q = WP m136 0 [.inr (.inl p0), .inl p1, vU] [] σ Q := rfl
-- BinderPressModel.keepPast()V
theorem d137_0 : adec m137 0 = some (.iconst (0), 1) := by decide +kernel
theorem s137_0 {l0 : Nat} {l1 : AV} : WP m137 0 [.inr (.inl l0), l1] [] σ Q = WP m137 1 [.inr (.inl l0), l1] [.inl (0)] σ Q := w_iconst d137_0 (by decide)
theorem d137_1 : adec m137 1 = some (.istore_n 1, 1) := by decide +kernel
theorem s137_1 {l0 : Nat} {l1 : AV} {x0 : Int} : WP m137 1 [.inr (.inl l0), l1] [.inl x0] σ Q = WP m137 2 [.inr (.inl l0), .inl x0] [] σ Q := w_st1 (j := 1) d137_1 rfl (Nat.le_of_ble_eq_true rfl) rfl
theorem d137_2 : adec m137 2 = some (.iload_n 1, 1) := by decide +kernel
theorem s137_2 {l0 : Nat} {l1 : Int} : WP m137 2 [.inr (.inl l0), .inl l1] [] σ Q = WP m137 3 [.inr (.inl l0), .inl l1] [.inl l1] σ Q := w_ld d137_2 rfl
theorem d137_3 : adec m137 3 = some (.sipush (4356), 3) := by decide +kernel
theorem s137_3 {l0 : Nat} {l1 : Int} {x0 : Int} : WP m137 3 [.inr (.inl l0), .inl l1] [.inl x0] σ Q = WP m137 6 [.inr (.inl l0), .inl l1] [.inl (4356), .inl x0] σ Q := w_sipush d137_3 (by decide)
theorem d137_6 : adec m137 6 = some (.if_icmp .ge (38), 3) := by decide +kernel
theorem s137_6 {l0 : Nat} {l1 : Int} {x0 : Int} {x1 : Int} : WP m137 6 [.inr (.inl l0), .inl l1] [.inl x1, .inl x0] σ Q = (if x1 ≤ x0 then WP m137 44 [.inr (.inl l0), .inl l1] [] σ Q else WP m137 9 [.inr (.inl l0), .inl l1] [] σ Q) := w_icge d137_6 (by decide)
theorem d137_9 : adec m137 9 = some (.aload_n 0, 1) := by decide +kernel
theorem s137_9 {l0 : Nat} {l1 : Int} : WP m137 9 [.inr (.inl l0), .inl l1] [] σ Q = WP m137 10 [.inr (.inl l0), .inl l1] [.inr (.inl l0)] σ Q := w_ld d137_9 rfl
theorem d137_10 : adec m137 10 = some (.getfield 107, 3) := by decide +kernel
theorem s137_10 {l0 : Nat} {l1 : Int} : WP m137 10 [.inr (.inl l0), .inl l1] [.inr (.inl 130)] σ Q = WP m137 13 [.inr (.inl l0), .inl l1] [.inl (σ 130 1)] σ Q := (w_getI (c := 10) (n := 1) d137_10 (by decide +kernel) (by decide +kernel)).trans (g_and (isO_dec (by decide +kernel)))
theorem d137_13 : adec m137 13 = some (.bipush (10), 2) := by decide +kernel
theorem s137_13 {l0 : Nat} {l1 : Int} {x0 : Int} : WP m137 13 [.inr (.inl l0), .inl l1] [.inl x0] σ Q = WP m137 15 [.inr (.inl l0), .inl l1] [.inl (10), .inl x0] σ Q := w_bipush d137_13 (by decide)
theorem d137_15 : adec m137 15 = some (.if_icmp .ne (29), 3) := by decide +kernel
theorem s137_15 {l0 : Nat} {l1 : Int} {x0 : Int} {x1 : Int} : WP m137 15 [.inr (.inl l0), .inl l1] [.inl x1, .inl x0] σ Q = (if x0 = x1 then WP m137 18 [.inr (.inl l0), .inl l1] [] σ Q else WP m137 44 [.inr (.inl l0), .inl l1] [] σ Q) := w_icne d137_15 (by decide)
theorem d137_18 : adec m137 18 = some (.aload_n 0, 1) := by decide +kernel
theorem s137_18 {l0 : Nat} {l1 : Int} : WP m137 18 [.inr (.inl l0), .inl l1] [] σ Q = WP m137 19 [.inr (.inl l0), .inl l1] [.inr (.inl l0)] σ Q := w_ld d137_18 rfl
theorem d137_19 : adec m137 19 = some (.getfield 7, 3) := by decide +kernel
theorem s137_19 {l0 : Nat} {l1 : Int} : WP m137 19 [.inr (.inl l0), .inl l1] [.inr (.inl 130)] σ Q = WP m137 22 [.inr (.inl l0), .inl l1] [.inr (.inl 131)] σ Q := (w_getR (c := 10) (n := 0) d137_19 (by decide +kernel) (by decide +kernel)).trans (g_and ⟨isO_dec (by decide +kernel), by decide +kernel⟩)
theorem d137_22 : adec m137 22 = some (.sipush (484), 3) := by decide +kernel
theorem s137_22 {l0 : Nat} {l1 : Int} {x0 : Nat} : WP m137 22 [.inr (.inl l0), .inl l1] [.inr (.inl x0)] σ Q = WP m137 25 [.inr (.inl l0), .inl l1] [.inl (484), .inr (.inl x0)] σ Q := w_sipush d137_22 (by decide)
theorem d137_25 : adec m137 25 = some (.iload_n 1, 1) := by decide +kernel
theorem s137_25 {l0 : Nat} {l1 : Int} {x0 : Nat} {x1 : Int} : WP m137 25 [.inr (.inl l0), .inl l1] [.inl x1, .inr (.inl x0)] σ Q = WP m137 26 [.inr (.inl l0), .inl l1] [.inl l1, .inl x1, .inr (.inl x0)] σ Q := w_ld d137_25 rfl
theorem d137_26 : adec m137 26 = some (.iadd, 1) := by decide +kernel
theorem s137_26 {l0 : Nat} {l1 : Int} {x0 : Nat} {x1 : Int} {x2 : Int} : WP m137 26 [.inr (.inl l0), .inl l1] [.inl x2, .inl x1, .inr (.inl x0)] σ Q = (inI (x1 + x2) ∧ WP m137 27 [.inr (.inl l0), .inl l1] [.inl (x1 + x2), .inr (.inl x0)] σ Q) := w_iadd d137_26
theorem d137_27 : adec m137 27 = some (.aload_n 0, 1) := by decide +kernel
theorem s137_27 {l0 : Nat} {l1 : Int} {x0 : Nat} {x1 : Int} : WP m137 27 [.inr (.inl l0), .inl l1] [.inl x1, .inr (.inl x0)] σ Q = WP m137 28 [.inr (.inl l0), .inl l1] [.inr (.inl l0), .inl x1, .inr (.inl x0)] σ Q := w_ld d137_27 rfl
theorem d137_28 : adec m137 28 = some (.getfield 7, 3) := by decide +kernel
theorem s137_28 {l0 : Nat} {l1 : Int} {x0 : Nat} {x1 : Int} : WP m137 28 [.inr (.inl l0), .inl l1] [.inr (.inl 130), .inl x1, .inr (.inl x0)] σ Q = WP m137 31 [.inr (.inl l0), .inl l1] [.inr (.inl 131), .inl x1, .inr (.inl x0)] σ Q := (w_getR (c := 10) (n := 0) d137_28 (by decide +kernel) (by decide +kernel)).trans (g_and ⟨isO_dec (by decide +kernel), by decide +kernel⟩)
theorem d137_31 : adec m137 31 = some (.sipush (968), 3) := by decide +kernel
theorem s137_31 {l0 : Nat} {l1 : Int} {x0 : Nat} {x1 : Int} {x2 : Nat} : WP m137 31 [.inr (.inl l0), .inl l1] [.inr (.inl x2), .inl x1, .inr (.inl x0)] σ Q = WP m137 34 [.inr (.inl l0), .inl l1] [.inl (968), .inr (.inl x2), .inl x1, .inr (.inl x0)] σ Q := w_sipush d137_31 (by decide)
theorem d137_34 : adec m137 34 = some (.iload_n 1, 1) := by decide +kernel
theorem s137_34 {l0 : Nat} {l1 : Int} {x0 : Nat} {x1 : Int} {x2 : Nat} {x3 : Int} : WP m137 34 [.inr (.inl l0), .inl l1] [.inl x3, .inr (.inl x2), .inl x1, .inr (.inl x0)] σ Q = WP m137 35 [.inr (.inl l0), .inl l1] [.inl l1, .inl x3, .inr (.inl x2), .inl x1, .inr (.inl x0)] σ Q := w_ld d137_34 rfl
theorem d137_35 : adec m137 35 = some (.iadd, 1) := by decide +kernel
theorem s137_35 {l0 : Nat} {l1 : Int} {x0 : Nat} {x1 : Int} {x2 : Nat} {x3 : Int} {x4 : Int} : WP m137 35 [.inr (.inl l0), .inl l1] [.inl x4, .inl x3, .inr (.inl x2), .inl x1, .inr (.inl x0)] σ Q = (inI (x3 + x4) ∧ WP m137 36 [.inr (.inl l0), .inl l1] [.inl (x3 + x4), .inr (.inl x2), .inl x1, .inr (.inl x0)] σ Q) := w_iadd d137_35
theorem d137_36 : adec m137 36 = some (.iaload, 1) := by decide +kernel
theorem s137_36 {l0 : Nat} {l1 : Int} {x0 : Nat} {x1 : Int} {x2 : Nat} {x3 : Int} : WP m137 36 [.inr (.inl l0), .inl l1] [.inl x3, .inr (.inl x2), .inl x1, .inr (.inl x0)] σ Q = ((kdS x2 = 20 ∧ 0 ≤ x3 ∧ x3 < ln x2) ∧ WP m137 37 [.inr (.inl l0), .inl l1] [.inl (σ x2 x3.toNat), .inl x1, .inr (.inl x0)] σ Q) := w_iald d137_36
theorem d137_37 : adec m137 37 = some (.iastore, 1) := by decide +kernel
theorem s137_37 {l0 : Nat} {l1 : Int} {x0 : Nat} {x1 : Int} {x2 : Int} : WP m137 37 [.inr (.inl l0), .inl l1] [.inl x2, .inl x1, .inr (.inl x0)] σ Q = ((kdS x0 = 20 ∧ 0 ≤ x1 ∧ x1 < ln x0) ∧ WP m137 38 [.inr (.inl l0), .inl l1] [] (aup σ x0 x1.toNat x2) Q) := w_iast d137_37
theorem d137_38 : adec m137 38 = some (.iinc 1 (1), 3) := by decide +kernel
theorem s137_38 {l0 : Nat} {l1 : Int} : WP m137 38 [.inr (.inl l0), .inl l1] [] σ Q = (inI (l1 + (1)) ∧ WP m137 41 [.inr (.inl l0), .inl (l1 + (1))] [] σ Q) := w_iinc d137_38 rfl rfl
theorem d137_41 : adec m137 41 = some (.goto (-39), 3) := by decide +kernel
theorem s137_41 {l0 : Nat} {l1 : Int} : WP m137 41 [.inr (.inl l0), .inl l1] [] σ Q = WP m137 2 [.inr (.inl l0), .inl l1] [] σ Q := w_goto d137_41 (by decide)
theorem d137_44 : adec m137 44 = some (.aload_n 0, 1) := by decide +kernel
theorem s137_44 {l0 : Nat} {l1 : Int} : WP m137 44 [.inr (.inl l0), .inl l1] [] σ Q = WP m137 45 [.inr (.inl l0), .inl l1] [.inr (.inl l0)] σ Q := w_ld d137_44 rfl
theorem d137_45 : adec m137 45 = some (.dup, 1) := by decide +kernel
theorem s137_45 {l0 : Nat} {l1 : Int} {x0 : Nat} : WP m137 45 [.inr (.inl l0), .inl l1] [.inr (.inl x0)] σ Q = WP m137 46 [.inr (.inl l0), .inl l1] [.inr (.inl x0), .inr (.inl x0)] σ Q := w_ld d137_45 rfl
theorem d137_46 : adec m137 46 = some (.getfield 107, 3) := by decide +kernel
theorem s137_46 {l0 : Nat} {l1 : Int} {x0 : Nat} : WP m137 46 [.inr (.inl l0), .inl l1] [.inr (.inl 130), .inr (.inl x0)] σ Q = WP m137 49 [.inr (.inl l0), .inl l1] [.inl (σ 130 1), .inr (.inl x0)] σ Q := (w_getI (c := 10) (n := 1) d137_46 (by decide +kernel) (by decide +kernel)).trans (g_and (isO_dec (by decide +kernel)))
theorem d137_49 : adec m137 49 = some (.aload_n 0, 1) := by decide +kernel
theorem s137_49 {l0 : Nat} {l1 : Int} {x0 : Nat} {x1 : Int} : WP m137 49 [.inr (.inl l0), .inl l1] [.inl x1, .inr (.inl x0)] σ Q = WP m137 50 [.inr (.inl l0), .inl l1] [.inr (.inl l0), .inl x1, .inr (.inl x0)] σ Q := w_ld d137_49 rfl
theorem d137_50 : adec m137 50 = some (.getfield 107, 3) := by decide +kernel
theorem s137_50 {l0 : Nat} {l1 : Int} {x0 : Nat} {x1 : Int} : WP m137 50 [.inr (.inl l0), .inl l1] [.inr (.inl 130), .inl x1, .inr (.inl x0)] σ Q = WP m137 53 [.inr (.inl l0), .inl l1] [.inl (σ 130 1), .inl x1, .inr (.inl x0)] σ Q := (w_getI (c := 10) (n := 1) d137_50 (by decide +kernel) (by decide +kernel)).trans (g_and (isO_dec (by decide +kernel)))
theorem d137_53 : adec m137 53 = some (.bipush (10), 2) := by decide +kernel
theorem s137_53 {l0 : Nat} {l1 : Int} {x0 : Nat} {x1 : Int} {x2 : Int} : WP m137 53 [.inr (.inl l0), .inl l1] [.inl x2, .inl x1, .inr (.inl x0)] σ Q = WP m137 55 [.inr (.inl l0), .inl l1] [.inl (10), .inl x2, .inl x1, .inr (.inl x0)] σ Q := w_bipush d137_53 (by decide)
theorem d137_55 : adec m137 55 = some (.if_icmp .ne (7), 3) := by decide +kernel
theorem s137_55 {l0 : Nat} {l1 : Int} {x0 : Nat} {x1 : Int} {x2 : Int} {x3 : Int} : WP m137 55 [.inr (.inl l0), .inl l1] [.inl x3, .inl x2, .inl x1, .inr (.inl x0)] σ Q = (if x2 = x3 then WP m137 58 [.inr (.inl l0), .inl l1] [.inl x1, .inr (.inl x0)] σ Q else WP m137 62 [.inr (.inl l0), .inl l1] [.inl x1, .inr (.inl x0)] σ Q) := w_icne d137_55 (by decide)
theorem d137_58 : adec m137 58 = some (.iconst (1), 1) := by decide +kernel
theorem s137_58 {l0 : Nat} {l1 : Int} {x0 : Nat} {x1 : Int} : WP m137 58 [.inr (.inl l0), .inl l1] [.inl x1, .inr (.inl x0)] σ Q = WP m137 59 [.inr (.inl l0), .inl l1] [.inl (1), .inl x1, .inr (.inl x0)] σ Q := w_iconst d137_58 (by decide)
theorem d137_59 : adec m137 59 = some (.goto (4), 3) := by decide +kernel
theorem s137_59 {l0 : Nat} {l1 : Int} {x0 : Nat} {x1 : Int} {x2 : Int} : WP m137 59 [.inr (.inl l0), .inl l1] [.inl x2, .inl x1, .inr (.inl x0)] σ Q = WP m137 63 [.inr (.inl l0), .inl l1] [.inl x2, .inl x1, .inr (.inl x0)] σ Q := w_goto d137_59 (by decide)
theorem d137_62 : adec m137 62 = some (.iconst (0), 1) := by decide +kernel
theorem s137_62 {l0 : Nat} {l1 : Int} {x0 : Nat} {x1 : Int} : WP m137 62 [.inr (.inl l0), .inl l1] [.inl x1, .inr (.inl x0)] σ Q = WP m137 63 [.inr (.inl l0), .inl l1] [.inl (0), .inl x1, .inr (.inl x0)] σ Q := w_iconst d137_62 (by decide)
theorem d137_63 : adec m137 63 = some (.isub, 1) := by decide +kernel
theorem s137_63 {l0 : Nat} {l1 : Int} {x0 : Nat} {x1 : Int} {x2 : Int} : WP m137 63 [.inr (.inl l0), .inl l1] [.inl x2, .inl x1, .inr (.inl x0)] σ Q = (inI (x1 - x2) ∧ WP m137 64 [.inr (.inl l0), .inl l1] [.inl (x1 - x2), .inr (.inl x0)] σ Q) := w_isub d137_63
theorem d137_64 : adec m137 64 = some (.putfield 107, 3) := by decide +kernel
theorem s137_64 {l0 : Nat} {l1 : Int} {x1 : Int} : WP m137 64 [.inr (.inl l0), .inl l1] [.inl x1, .inr (.inl 130)] σ Q = WP m137 67 [.inr (.inl l0), .inl l1] [] (aup σ 130 1 x1) Q := (w_putI (c := 10) (n := 1) d137_64 (by decide +kernel) (by decide +kernel) (by decide +kernel)).trans (g_and (isO_dec (by decide +kernel)))
theorem d137_67 : adec m137 67 = some (.aload_n 0, 1) := by decide +kernel
theorem s137_67 {l0 : Nat} {l1 : Int} : WP m137 67 [.inr (.inl l0), .inl l1] [] σ Q = WP m137 68 [.inr (.inl l0), .inl l1] [.inr (.inl l0)] σ Q := w_ld d137_67 rfl
theorem d137_68 : adec m137 68 = some (.iconst (0), 1) := by decide +kernel
theorem s137_68 {l0 : Nat} {l1 : Int} {x0 : Nat} : WP m137 68 [.inr (.inl l0), .inl l1] [.inr (.inl x0)] σ Q = WP m137 69 [.inr (.inl l0), .inl l1] [.inl (0), .inr (.inl x0)] σ Q := w_iconst d137_68 (by decide)
theorem d137_69 : adec m137 69 = some (.sipush (484), 3) := by decide +kernel
theorem s137_69 {l0 : Nat} {l1 : Int} {x0 : Nat} {x1 : Int} : WP m137 69 [.inr (.inl l0), .inl l1] [.inl x1, .inr (.inl x0)] σ Q = WP m137 72 [.inr (.inl l0), .inl l1] [.inl (484), .inl x1, .inr (.inl x0)] σ Q := w_sipush d137_69 (by decide)
theorem d137_72 : adec m137 72 = some (.sipush (484), 3) := by decide +kernel
theorem s137_72 {l0 : Nat} {l1 : Int} {x0 : Nat} {x1 : Int} {x2 : Int} : WP m137 72 [.inr (.inl l0), .inl l1] [.inl x2, .inl x1, .inr (.inl x0)] σ Q = WP m137 75 [.inr (.inl l0), .inl l1] [.inl (484), .inl x2, .inl x1, .inr (.inl x0)] σ Q := w_sipush d137_72 (by decide)
theorem d137_75 : adec m137 75 = some (.aload_n 0, 1) := by decide +kernel
theorem s137_75 {l0 : Nat} {l1 : Int} {x0 : Nat} {x1 : Int} {x2 : Int} {x3 : Int} : WP m137 75 [.inr (.inl l0), .inl l1] [.inl x3, .inl x2, .inl x1, .inr (.inl x0)] σ Q = WP m137 76 [.inr (.inl l0), .inl l1] [.inr (.inl l0), .inl x3, .inl x2, .inl x1, .inr (.inl x0)] σ Q := w_ld d137_75 rfl
theorem d137_76 : adec m137 76 = some (.getfield 107, 3) := by decide +kernel
theorem s137_76 {l0 : Nat} {l1 : Int} {x0 : Nat} {x1 : Int} {x2 : Int} {x3 : Int} : WP m137 76 [.inr (.inl l0), .inl l1] [.inr (.inl 130), .inl x3, .inl x2, .inl x1, .inr (.inl x0)] σ Q = WP m137 79 [.inr (.inl l0), .inl l1] [.inl (σ 130 1), .inl x3, .inl x2, .inl x1, .inr (.inl x0)] σ Q := (w_getI (c := 10) (n := 1) d137_76 (by decide +kernel) (by decide +kernel)).trans (g_and (isO_dec (by decide +kernel)))
theorem d137_79 : adec m137 79 = some (.imul, 1) := by decide +kernel
theorem s137_79 {l0 : Nat} {l1 : Int} {x0 : Nat} {x1 : Int} {x2 : Int} {x3 : Int} {x4 : Int} : WP m137 79 [.inr (.inl l0), .inl l1] [.inl x4, .inl x3, .inl x2, .inl x1, .inr (.inl x0)] σ Q = (inI (x3 * x4) ∧ WP m137 80 [.inr (.inl l0), .inl l1] [.inl (x3 * x4), .inl x2, .inl x1, .inr (.inl x0)] σ Q) := w_imul d137_79
theorem d137_80 : adec m137 80 = some (.iadd, 1) := by decide +kernel
theorem s137_80 {l0 : Nat} {l1 : Int} {x0 : Nat} {x1 : Int} {x2 : Int} {x3 : Int} : WP m137 80 [.inr (.inl l0), .inl l1] [.inl x3, .inl x2, .inl x1, .inr (.inl x0)] σ Q = (inI (x2 + x3) ∧ WP m137 81 [.inr (.inl l0), .inl l1] [.inl (x2 + x3), .inl x1, .inr (.inl x0)] σ Q) := w_iadd d137_80
theorem d137_81 : adec m137 81 = some (.invokevirtual 110, 3) := by decide +kernel
theorem s137_81 {l0 : Nat} {l1 : Int} {x1 : Int} {x2 : Int} : WP m137 81 [.inr (.inl l0), .inl l1] [.inl x2, .inl x1, .inr (.inl 130)] σ Q = CA m135 [.inr (.inl 130), .inl x1, .inl x2] σ (fun v σ2 => WP m137 84 [.inr (.inl l0), .inl l1] (v ++ []) σ2 Q) := (w_cV (k := 135) d137_81 (by decide +kernel) m135_at rfl rfl ⟨Nat.le_of_ble_eq_true rfl, Nat.le_of_ble_eq_true rfl, Nat.le_of_ble_eq_true rfl⟩ (by decide)).trans (g_and (isO_dec (by decide +kernel)))
theorem d137_84 : adec m137 84 = some (.aload_n 0, 1) := by decide +kernel
theorem s137_84 {l0 : Nat} {l1 : Int} : WP m137 84 [.inr (.inl l0), .inl l1] [] σ Q = WP m137 85 [.inr (.inl l0), .inl l1] [.inr (.inl l0)] σ Q := w_ld d137_84 rfl
theorem d137_85 : adec m137 85 = some (.dup, 1) := by decide +kernel
theorem s137_85 {l0 : Nat} {l1 : Int} {x0 : Nat} : WP m137 85 [.inr (.inl l0), .inl l1] [.inr (.inl x0)] σ Q = WP m137 86 [.inr (.inl l0), .inl l1] [.inr (.inl x0), .inr (.inl x0)] σ Q := w_ld d137_85 rfl
theorem d137_86 : adec m137 86 = some (.getfield 107, 3) := by decide +kernel
theorem s137_86 {l0 : Nat} {l1 : Int} {x0 : Nat} : WP m137 86 [.inr (.inl l0), .inl l1] [.inr (.inl 130), .inr (.inl x0)] σ Q = WP m137 89 [.inr (.inl l0), .inl l1] [.inl (σ 130 1), .inr (.inl x0)] σ Q := (w_getI (c := 10) (n := 1) d137_86 (by decide +kernel) (by decide +kernel)).trans (g_and (isO_dec (by decide +kernel)))
theorem d137_89 : adec m137 89 = some (.iconst (1), 1) := by decide +kernel
theorem s137_89 {l0 : Nat} {l1 : Int} {x0 : Nat} {x1 : Int} : WP m137 89 [.inr (.inl l0), .inl l1] [.inl x1, .inr (.inl x0)] σ Q = WP m137 90 [.inr (.inl l0), .inl l1] [.inl (1), .inl x1, .inr (.inl x0)] σ Q := w_iconst d137_89 (by decide)
theorem d137_90 : adec m137 90 = some (.iadd, 1) := by decide +kernel
theorem s137_90 {l0 : Nat} {l1 : Int} {x0 : Nat} {x1 : Int} {x2 : Int} : WP m137 90 [.inr (.inl l0), .inl l1] [.inl x2, .inl x1, .inr (.inl x0)] σ Q = (inI (x1 + x2) ∧ WP m137 91 [.inr (.inl l0), .inl l1] [.inl (x1 + x2), .inr (.inl x0)] σ Q) := w_iadd d137_90
theorem d137_91 : adec m137 91 = some (.putfield 107, 3) := by decide +kernel
theorem s137_91 {l0 : Nat} {l1 : Int} {x1 : Int} : WP m137 91 [.inr (.inl l0), .inl l1] [.inl x1, .inr (.inl 130)] σ Q = WP m137 94 [.inr (.inl l0), .inl l1] [] (aup σ 130 1 x1) Q := (w_putI (c := 10) (n := 1) d137_91 (by decide +kernel) (by decide +kernel) (by decide +kernel)).trans (g_and (isO_dec (by decide +kernel)))
theorem d137_94 : adec m137 94 = some (.return_, 1) := by decide +kernel
theorem s137_94 {l0 : Nat} {l1 : Int} : WP m137 94 [.inr (.inl l0), .inl l1] [] σ Q = Q [] σ := w_rv d137_94 rfl
theorem e137 {p0 : Nat} : CA m137 [.inr (.inl p0)] σ Q = WP m137 0 [.inr (.inl p0), vU] [] σ Q := rfl
-- BinderPressModel.lay(I)I
theorem d138_0 : adec m138 0 = some (.aload_n 0, 1) := by decide +kernel
theorem s138_0 {l0 : Nat} {l1 : Int} {l2 : AV} : WP m138 0 [.inr (.inl l0), .inl l1, l2] [] σ Q = WP m138 1 [.inr (.inl l0), .inl l1, l2] [.inr (.inl l0)] σ Q := w_ld d138_0 rfl
theorem d138_1 : adec m138 1 = some (.getfield 104, 3) := by decide +kernel
theorem s138_1 {l0 : Nat} {l1 : Int} {l2 : AV} : WP m138 1 [.inr (.inl l0), .inl l1, l2] [.inr (.inl 130)] σ Q = WP m138 4 [.inr (.inl l0), .inl l1, l2] [.inl (σ 130 7)] σ Q := (w_getI (c := 10) (n := 7) d138_1 (by decide +kernel) (by decide +kernel)).trans (g_and (isO_dec (by decide +kernel)))
theorem d138_4 : adec m138 4 = some (.bipush (120), 2) := by decide +kernel
theorem s138_4 {l0 : Nat} {l1 : Int} {l2 : AV} {x0 : Int} : WP m138 4 [.inr (.inl l0), .inl l1, l2] [.inl x0] σ Q = WP m138 6 [.inr (.inl l0), .inl l1, l2] [.inl (120), .inl x0] σ Q := w_bipush d138_4 (by decide)
theorem d138_6 : adec m138 6 = some (.if_icmp .le (6), 3) := by decide +kernel
theorem s138_6 {l0 : Nat} {l1 : Int} {l2 : AV} {x0 : Int} {x1 : Int} : WP m138 6 [.inr (.inl l0), .inl l1, l2] [.inl x1, .inl x0] σ Q = (if x0 ≤ x1 then WP m138 12 [.inr (.inl l0), .inl l1, l2] [] σ Q else WP m138 9 [.inr (.inl l0), .inl l1, l2] [] σ Q) := w_icle d138_6 (by decide)
theorem d138_9 : adec m138 9 = some (.ldc 114, 2) := by decide +kernel
theorem s138_9 {l0 : Nat} {l1 : Int} {l2 : AV} : WP m138 9 [.inr (.inl l0), .inl l1, l2] [] σ Q = WP m138 11 [.inr (.inl l0), .inl l1, l2] [.inl (-1000000004)] σ Q := w_ldc d138_9 (by decide +kernel) (by decide)
theorem d138_11 : adec m138 11 = some (.ireturn, 1) := by decide +kernel
theorem s138_11 {l0 : Nat} {l1 : Int} {l2 : AV} {x0 : Int} : WP m138 11 [.inr (.inl l0), .inl l1, l2] [.inl x0] σ Q = Q [.inl x0] σ := w_ri d138_11 rfl
theorem d138_12 : adec m138 12 = some (.aload_n 0, 1) := by decide +kernel
theorem s138_12 {l0 : Nat} {l1 : Int} {l2 : AV} : WP m138 12 [.inr (.inl l0), .inl l1, l2] [] σ Q = WP m138 13 [.inr (.inl l0), .inl l1, l2] [.inr (.inl l0)] σ Q := w_ld d138_12 rfl
theorem d138_13 : adec m138 13 = some (.invokevirtual 115, 3) := by decide +kernel
theorem s138_13 {l0 : Nat} {l1 : Int} {l2 : AV} : WP m138 13 [.inr (.inl l0), .inl l1, l2] [.inr (.inl 130)] σ Q = CA m137 [.inr (.inl 130)] σ (fun v σ2 => WP m138 16 [.inr (.inl l0), .inl l1, l2] (v ++ []) σ2 Q) := (w_cV (k := 137) d138_13 (by decide +kernel) m137_at rfl rfl ⟨Nat.le_of_ble_eq_true rfl, Nat.le_of_ble_eq_true rfl, Nat.le_of_ble_eq_true rfl⟩ (by decide)).trans (g_and (isO_dec (by decide +kernel)))
theorem d138_16 : adec m138 16 = some (.aload_n 0, 1) := by decide +kernel
theorem s138_16 {l0 : Nat} {l1 : Int} {l2 : AV} : WP m138 16 [.inr (.inl l0), .inl l1, l2] [] σ Q = WP m138 17 [.inr (.inl l0), .inl l1, l2] [.inr (.inl l0)] σ Q := w_ld d138_16 rfl
theorem d138_17 : adec m138 17 = some (.getfield 7, 3) := by decide +kernel
theorem s138_17 {l0 : Nat} {l1 : Int} {l2 : AV} : WP m138 17 [.inr (.inl l0), .inl l1, l2] [.inr (.inl 130)] σ Q = WP m138 20 [.inr (.inl l0), .inl l1, l2] [.inr (.inl 131)] σ Q := (w_getR (c := 10) (n := 0) d138_17 (by decide +kernel) (by decide +kernel)).trans (g_and ⟨isO_dec (by decide +kernel), by decide +kernel⟩)
theorem d138_20 : adec m138 20 = some (.bipush (121), 2) := by decide +kernel
theorem s138_20 {l0 : Nat} {l1 : Int} {l2 : AV} {x0 : Nat} : WP m138 20 [.inr (.inl l0), .inl l1, l2] [.inr (.inl x0)] σ Q = WP m138 22 [.inr (.inl l0), .inl l1, l2] [.inl (121), .inr (.inl x0)] σ Q := w_bipush d138_20 (by decide)
theorem d138_22 : adec m138 22 = some (.iload_n 1, 1) := by decide +kernel
theorem s138_22 {l0 : Nat} {l1 : Int} {l2 : AV} {x0 : Nat} {x1 : Int} : WP m138 22 [.inr (.inl l0), .inl l1, l2] [.inl x1, .inr (.inl x0)] σ Q = WP m138 23 [.inr (.inl l0), .inl l1, l2] [.inl l1, .inl x1, .inr (.inl x0)] σ Q := w_ld d138_22 rfl
theorem d138_23 : adec m138 23 = some (.imul, 1) := by decide +kernel
theorem s138_23 {l0 : Nat} {l1 : Int} {l2 : AV} {x0 : Nat} {x1 : Int} {x2 : Int} : WP m138 23 [.inr (.inl l0), .inl l1, l2] [.inl x2, .inl x1, .inr (.inl x0)] σ Q = (inI (x1 * x2) ∧ WP m138 24 [.inr (.inl l0), .inl l1, l2] [.inl (x1 * x2), .inr (.inl x0)] σ Q) := w_imul d138_23
theorem d138_24 : adec m138 24 = some (.aload_n 0, 1) := by decide +kernel
theorem s138_24 {l0 : Nat} {l1 : Int} {l2 : AV} {x0 : Nat} {x1 : Int} : WP m138 24 [.inr (.inl l0), .inl l1, l2] [.inl x1, .inr (.inl x0)] σ Q = WP m138 25 [.inr (.inl l0), .inl l1, l2] [.inr (.inl l0), .inl x1, .inr (.inl x0)] σ Q := w_ld d138_24 rfl
theorem d138_25 : adec m138 25 = some (.getfield 104, 3) := by decide +kernel
theorem s138_25 {l0 : Nat} {l1 : Int} {l2 : AV} {x0 : Nat} {x1 : Int} : WP m138 25 [.inr (.inl l0), .inl l1, l2] [.inr (.inl 130), .inl x1, .inr (.inl x0)] σ Q = WP m138 28 [.inr (.inl l0), .inl l1, l2] [.inl (σ 130 7), .inl x1, .inr (.inl x0)] σ Q := (w_getI (c := 10) (n := 7) d138_25 (by decide +kernel) (by decide +kernel)).trans (g_and (isO_dec (by decide +kernel)))
theorem d138_28 : adec m138 28 = some (.iastore, 1) := by decide +kernel
theorem s138_28 {l0 : Nat} {l1 : Int} {l2 : AV} {x0 : Nat} {x1 : Int} {x2 : Int} : WP m138 28 [.inr (.inl l0), .inl l1, l2] [.inl x2, .inl x1, .inr (.inl x0)] σ Q = ((kdS x0 = 20 ∧ 0 ≤ x1 ∧ x1 < ln x0) ∧ WP m138 29 [.inr (.inl l0), .inl l1, l2] [] (aup σ x0 x1.toNat x2) Q) := w_iast d138_28
theorem d138_29 : adec m138 29 = some (.iconst (0), 1) := by decide +kernel
theorem s138_29 {l0 : Nat} {l1 : Int} {l2 : AV} : WP m138 29 [.inr (.inl l0), .inl l1, l2] [] σ Q = WP m138 30 [.inr (.inl l0), .inl l1, l2] [.inl (0)] σ Q := w_iconst d138_29 (by decide)
theorem d138_30 : adec m138 30 = some (.istore_n 2, 1) := by decide +kernel
theorem s138_30 {l0 : Nat} {l1 : Int} {l2 : AV} {x0 : Int} : WP m138 30 [.inr (.inl l0), .inl l1, l2] [.inl x0] σ Q = WP m138 31 [.inr (.inl l0), .inl l1, .inl x0] [] σ Q := w_st1 (j := 2) d138_30 rfl (Nat.le_of_ble_eq_true rfl) rfl
theorem d138_31 : adec m138 31 = some (.iload_n 2, 1) := by decide +kernel
theorem s138_31 {l0 : Nat} {l1 : Int} {l2 : Int} : WP m138 31 [.inr (.inl l0), .inl l1, .inl l2] [] σ Q = WP m138 32 [.inr (.inl l0), .inl l1, .inl l2] [.inl l2] σ Q := w_ld d138_31 rfl
theorem d138_32 : adec m138 32 = some (.aload_n 0, 1) := by decide +kernel
theorem s138_32 {l0 : Nat} {l1 : Int} {l2 : Int} {x0 : Int} : WP m138 32 [.inr (.inl l0), .inl l1, .inl l2] [.inl x0] σ Q = WP m138 33 [.inr (.inl l0), .inl l1, .inl l2] [.inr (.inl l0), .inl x0] σ Q := w_ld d138_32 rfl
theorem d138_33 : adec m138 33 = some (.getfield 104, 3) := by decide +kernel
theorem s138_33 {l0 : Nat} {l1 : Int} {l2 : Int} {x0 : Int} : WP m138 33 [.inr (.inl l0), .inl l1, .inl l2] [.inr (.inl 130), .inl x0] σ Q = WP m138 36 [.inr (.inl l0), .inl l1, .inl l2] [.inl (σ 130 7), .inl x0] σ Q := (w_getI (c := 10) (n := 7) d138_33 (by decide +kernel) (by decide +kernel)).trans (g_and (isO_dec (by decide +kernel)))
theorem d138_36 : adec m138 36 = some (.if_icmp .ge (28), 3) := by decide +kernel
theorem s138_36 {l0 : Nat} {l1 : Int} {l2 : Int} {x0 : Int} {x1 : Int} : WP m138 36 [.inr (.inl l0), .inl l1, .inl l2] [.inl x1, .inl x0] σ Q = (if x1 ≤ x0 then WP m138 64 [.inr (.inl l0), .inl l1, .inl l2] [] σ Q else WP m138 39 [.inr (.inl l0), .inl l1, .inl l2] [] σ Q) := w_icge d138_36 (by decide)
theorem d138_39 : adec m138 39 = some (.aload_n 0, 1) := by decide +kernel
theorem s138_39 {l0 : Nat} {l1 : Int} {l2 : Int} : WP m138 39 [.inr (.inl l0), .inl l1, .inl l2] [] σ Q = WP m138 40 [.inr (.inl l0), .inl l1, .inl l2] [.inr (.inl l0)] σ Q := w_ld d138_39 rfl
theorem d138_40 : adec m138 40 = some (.getfield 7, 3) := by decide +kernel
theorem s138_40 {l0 : Nat} {l1 : Int} {l2 : Int} : WP m138 40 [.inr (.inl l0), .inl l1, .inl l2] [.inr (.inl 130)] σ Q = WP m138 43 [.inr (.inl l0), .inl l1, .inl l2] [.inr (.inl 131)] σ Q := (w_getR (c := 10) (n := 0) d138_40 (by decide +kernel) (by decide +kernel)).trans (g_and ⟨isO_dec (by decide +kernel), by decide +kernel⟩)
theorem d138_43 : adec m138 43 = some (.bipush (121), 2) := by decide +kernel
theorem s138_43 {l0 : Nat} {l1 : Int} {l2 : Int} {x0 : Nat} : WP m138 43 [.inr (.inl l0), .inl l1, .inl l2] [.inr (.inl x0)] σ Q = WP m138 45 [.inr (.inl l0), .inl l1, .inl l2] [.inl (121), .inr (.inl x0)] σ Q := w_bipush d138_43 (by decide)
theorem d138_45 : adec m138 45 = some (.iload_n 1, 1) := by decide +kernel
theorem s138_45 {l0 : Nat} {l1 : Int} {l2 : Int} {x0 : Nat} {x1 : Int} : WP m138 45 [.inr (.inl l0), .inl l1, .inl l2] [.inl x1, .inr (.inl x0)] σ Q = WP m138 46 [.inr (.inl l0), .inl l1, .inl l2] [.inl l1, .inl x1, .inr (.inl x0)] σ Q := w_ld d138_45 rfl
theorem d138_46 : adec m138 46 = some (.imul, 1) := by decide +kernel
theorem s138_46 {l0 : Nat} {l1 : Int} {l2 : Int} {x0 : Nat} {x1 : Int} {x2 : Int} : WP m138 46 [.inr (.inl l0), .inl l1, .inl l2] [.inl x2, .inl x1, .inr (.inl x0)] σ Q = (inI (x1 * x2) ∧ WP m138 47 [.inr (.inl l0), .inl l1, .inl l2] [.inl (x1 * x2), .inr (.inl x0)] σ Q) := w_imul d138_46
theorem d138_47 : adec m138 47 = some (.iconst (1), 1) := by decide +kernel
theorem s138_47 {l0 : Nat} {l1 : Int} {l2 : Int} {x0 : Nat} {x1 : Int} : WP m138 47 [.inr (.inl l0), .inl l1, .inl l2] [.inl x1, .inr (.inl x0)] σ Q = WP m138 48 [.inr (.inl l0), .inl l1, .inl l2] [.inl (1), .inl x1, .inr (.inl x0)] σ Q := w_iconst d138_47 (by decide)
theorem d138_48 : adec m138 48 = some (.iadd, 1) := by decide +kernel
theorem s138_48 {l0 : Nat} {l1 : Int} {l2 : Int} {x0 : Nat} {x1 : Int} {x2 : Int} : WP m138 48 [.inr (.inl l0), .inl l1, .inl l2] [.inl x2, .inl x1, .inr (.inl x0)] σ Q = (inI (x1 + x2) ∧ WP m138 49 [.inr (.inl l0), .inl l1, .inl l2] [.inl (x1 + x2), .inr (.inl x0)] σ Q) := w_iadd d138_48
theorem d138_49 : adec m138 49 = some (.iload_n 2, 1) := by decide +kernel
theorem s138_49 {l0 : Nat} {l1 : Int} {l2 : Int} {x0 : Nat} {x1 : Int} : WP m138 49 [.inr (.inl l0), .inl l1, .inl l2] [.inl x1, .inr (.inl x0)] σ Q = WP m138 50 [.inr (.inl l0), .inl l1, .inl l2] [.inl l2, .inl x1, .inr (.inl x0)] σ Q := w_ld d138_49 rfl
theorem d138_50 : adec m138 50 = some (.iadd, 1) := by decide +kernel
theorem s138_50 {l0 : Nat} {l1 : Int} {l2 : Int} {x0 : Nat} {x1 : Int} {x2 : Int} : WP m138 50 [.inr (.inl l0), .inl l1, .inl l2] [.inl x2, .inl x1, .inr (.inl x0)] σ Q = (inI (x1 + x2) ∧ WP m138 51 [.inr (.inl l0), .inl l1, .inl l2] [.inl (x1 + x2), .inr (.inl x0)] σ Q) := w_iadd d138_50
theorem d138_51 : adec m138 51 = some (.aload_n 0, 1) := by decide +kernel
theorem s138_51 {l0 : Nat} {l1 : Int} {l2 : Int} {x0 : Nat} {x1 : Int} : WP m138 51 [.inr (.inl l0), .inl l1, .inl l2] [.inl x1, .inr (.inl x0)] σ Q = WP m138 52 [.inr (.inl l0), .inl l1, .inl l2] [.inr (.inl l0), .inl x1, .inr (.inl x0)] σ Q := w_ld d138_51 rfl
theorem d138_52 : adec m138 52 = some (.getfield 24, 3) := by decide +kernel
theorem s138_52 {l0 : Nat} {l1 : Int} {l2 : Int} {x0 : Nat} {x1 : Int} : WP m138 52 [.inr (.inl l0), .inl l1, .inl l2] [.inr (.inl 130), .inl x1, .inr (.inl x0)] σ Q = WP m138 55 [.inr (.inl l0), .inl l1, .inl l2] [.inr (.inl 134), .inl x1, .inr (.inl x0)] σ Q := (w_getR (c := 10) (n := 6) d138_52 (by decide +kernel) (by decide +kernel)).trans (g_and ⟨isO_dec (by decide +kernel), by decide +kernel⟩)
theorem d138_55 : adec m138 55 = some (.iload_n 2, 1) := by decide +kernel
theorem s138_55 {l0 : Nat} {l1 : Int} {l2 : Int} {x0 : Nat} {x1 : Int} {x2 : Nat} : WP m138 55 [.inr (.inl l0), .inl l1, .inl l2] [.inr (.inl x2), .inl x1, .inr (.inl x0)] σ Q = WP m138 56 [.inr (.inl l0), .inl l1, .inl l2] [.inl l2, .inr (.inl x2), .inl x1, .inr (.inl x0)] σ Q := w_ld d138_55 rfl
theorem d138_56 : adec m138 56 = some (.iaload, 1) := by decide +kernel
theorem s138_56 {l0 : Nat} {l1 : Int} {l2 : Int} {x0 : Nat} {x1 : Int} {x2 : Nat} {x3 : Int} : WP m138 56 [.inr (.inl l0), .inl l1, .inl l2] [.inl x3, .inr (.inl x2), .inl x1, .inr (.inl x0)] σ Q = ((kdS x2 = 20 ∧ 0 ≤ x3 ∧ x3 < ln x2) ∧ WP m138 57 [.inr (.inl l0), .inl l1, .inl l2] [.inl (σ x2 x3.toNat), .inl x1, .inr (.inl x0)] σ Q) := w_iald d138_56
theorem d138_57 : adec m138 57 = some (.iastore, 1) := by decide +kernel
theorem s138_57 {l0 : Nat} {l1 : Int} {l2 : Int} {x0 : Nat} {x1 : Int} {x2 : Int} : WP m138 57 [.inr (.inl l0), .inl l1, .inl l2] [.inl x2, .inl x1, .inr (.inl x0)] σ Q = ((kdS x0 = 20 ∧ 0 ≤ x1 ∧ x1 < ln x0) ∧ WP m138 58 [.inr (.inl l0), .inl l1, .inl l2] [] (aup σ x0 x1.toNat x2) Q) := w_iast d138_57
theorem d138_58 : adec m138 58 = some (.iinc 2 (1), 3) := by decide +kernel
theorem s138_58 {l0 : Nat} {l1 : Int} {l2 : Int} : WP m138 58 [.inr (.inl l0), .inl l1, .inl l2] [] σ Q = (inI (l2 + (1)) ∧ WP m138 61 [.inr (.inl l0), .inl l1, .inl (l2 + (1))] [] σ Q) := w_iinc d138_58 rfl rfl
theorem d138_61 : adec m138 61 = some (.goto (-30), 3) := by decide +kernel
theorem s138_61 {l0 : Nat} {l1 : Int} {l2 : Int} : WP m138 61 [.inr (.inl l0), .inl l1, .inl l2] [] σ Q = WP m138 31 [.inr (.inl l0), .inl l1, .inl l2] [] σ Q := w_goto d138_61 (by decide)
theorem d138_64 : adec m138 64 = some (.aload_n 0, 1) := by decide +kernel
theorem s138_64 {l0 : Nat} {l1 : Int} {l2 : Int} : WP m138 64 [.inr (.inl l0), .inl l1, .inl l2] [] σ Q = WP m138 65 [.inr (.inl l0), .inl l1, .inl l2] [.inr (.inl l0)] σ Q := w_ld d138_64 rfl
theorem d138_65 : adec m138 65 = some (.getfield 104, 3) := by decide +kernel
theorem s138_65 {l0 : Nat} {l1 : Int} {l2 : Int} : WP m138 65 [.inr (.inl l0), .inl l1, .inl l2] [.inr (.inl 130)] σ Q = WP m138 68 [.inr (.inl l0), .inl l1, .inl l2] [.inl (σ 130 7)] σ Q := (w_getI (c := 10) (n := 7) d138_65 (by decide +kernel) (by decide +kernel)).trans (g_and (isO_dec (by decide +kernel)))
theorem d138_68 : adec m138 68 = some (.ireturn, 1) := by decide +kernel
theorem s138_68 {l0 : Nat} {l1 : Int} {l2 : Int} {x0 : Int} : WP m138 68 [.inr (.inl l0), .inl l1, .inl l2] [.inl x0] σ Q = Q [.inl x0] σ := w_ri d138_68 rfl
theorem e138 {p0 : Nat} {p1 : Int} : CA m138 [.inr (.inl p0), .inl p1] σ Q = WP m138 0 [.inr (.inl p0), .inl p1, vU] [] σ Q := rfl
-- BinderPressModel.takeMade()V
theorem d139_0 : adec m139 0 = some (.aload_n 0, 1) := by decide +kernel
theorem s139_0 {l0 : Nat} {l1 : AV} : WP m139 0 [.inr (.inl l0), l1] [] σ Q = WP m139 1 [.inr (.inl l0), l1] [.inr (.inl l0)] σ Q := w_ld d139_0 rfl
theorem d139_1 : adec m139 1 = some (.aload_n 0, 1) := by decide +kernel
theorem s139_1 {l0 : Nat} {l1 : AV} {x0 : Nat} : WP m139 1 [.inr (.inl l0), l1] [.inr (.inl x0)] σ Q = WP m139 2 [.inr (.inl l0), l1] [.inr (.inl l0), .inr (.inl x0)] σ Q := w_ld d139_1 rfl
theorem d139_2 : adec m139 2 = some (.getfield 97, 3) := by decide +kernel
theorem s139_2 {l0 : Nat} {l1 : AV} {x0 : Nat} : WP m139 2 [.inr (.inl l0), l1] [.inr (.inl 130), .inr (.inl x0)] σ Q = WP m139 5 [.inr (.inl l0), l1] [.inl (σ 130 9), .inr (.inl x0)] σ Q := (w_getI (c := 10) (n := 9) d139_2 (by decide +kernel) (by decide +kernel)).trans (g_and (isO_dec (by decide +kernel)))
theorem d139_5 : adec m139 5 = some (.putfield 104, 3) := by decide +kernel
theorem s139_5 {l0 : Nat} {l1 : AV} {x1 : Int} : WP m139 5 [.inr (.inl l0), l1] [.inl x1, .inr (.inl 130)] σ Q = WP m139 8 [.inr (.inl l0), l1] [] (aup σ 130 7 x1) Q := (w_putI (c := 10) (n := 7) d139_5 (by decide +kernel) (by decide +kernel) (by decide +kernel)).trans (g_and (isO_dec (by decide +kernel)))
theorem d139_8 : adec m139 8 = some (.iconst (0), 1) := by decide +kernel
theorem s139_8 {l0 : Nat} {l1 : AV} : WP m139 8 [.inr (.inl l0), l1] [] σ Q = WP m139 9 [.inr (.inl l0), l1] [.inl (0)] σ Q := w_iconst d139_8 (by decide)
theorem d139_9 : adec m139 9 = some (.istore_n 1, 1) := by decide +kernel
theorem s139_9 {l0 : Nat} {l1 : AV} {x0 : Int} : WP m139 9 [.inr (.inl l0), l1] [.inl x0] σ Q = WP m139 10 [.inr (.inl l0), .inl x0] [] σ Q := w_st1 (j := 1) d139_9 rfl (Nat.le_of_ble_eq_true rfl) rfl
theorem d139_10 : adec m139 10 = some (.iload_n 1, 1) := by decide +kernel
theorem s139_10 {l0 : Nat} {l1 : Int} : WP m139 10 [.inr (.inl l0), .inl l1] [] σ Q = WP m139 11 [.inr (.inl l0), .inl l1] [.inl l1] σ Q := w_ld d139_10 rfl
theorem d139_11 : adec m139 11 = some (.aload_n 0, 1) := by decide +kernel
theorem s139_11 {l0 : Nat} {l1 : Int} {x0 : Int} : WP m139 11 [.inr (.inl l0), .inl l1] [.inl x0] σ Q = WP m139 12 [.inr (.inl l0), .inl l1] [.inr (.inl l0), .inl x0] σ Q := w_ld d139_11 rfl
theorem d139_12 : adec m139 12 = some (.getfield 97, 3) := by decide +kernel
theorem s139_12 {l0 : Nat} {l1 : Int} {x0 : Int} : WP m139 12 [.inr (.inl l0), .inl l1] [.inr (.inl 130), .inl x0] σ Q = WP m139 15 [.inr (.inl l0), .inl l1] [.inl (σ 130 9), .inl x0] σ Q := (w_getI (c := 10) (n := 9) d139_12 (by decide +kernel) (by decide +kernel)).trans (g_and (isO_dec (by decide +kernel)))
theorem d139_15 : adec m139 15 = some (.if_icmp .ge (21), 3) := by decide +kernel
theorem s139_15 {l0 : Nat} {l1 : Int} {x0 : Int} {x1 : Int} : WP m139 15 [.inr (.inl l0), .inl l1] [.inl x1, .inl x0] σ Q = (if x1 ≤ x0 then WP m139 36 [.inr (.inl l0), .inl l1] [] σ Q else WP m139 18 [.inr (.inl l0), .inl l1] [] σ Q) := w_icge d139_15 (by decide)
theorem d139_18 : adec m139 18 = some (.aload_n 0, 1) := by decide +kernel
theorem s139_18 {l0 : Nat} {l1 : Int} : WP m139 18 [.inr (.inl l0), .inl l1] [] σ Q = WP m139 19 [.inr (.inl l0), .inl l1] [.inr (.inl l0)] σ Q := w_ld d139_18 rfl
theorem d139_19 : adec m139 19 = some (.getfield 24, 3) := by decide +kernel
theorem s139_19 {l0 : Nat} {l1 : Int} : WP m139 19 [.inr (.inl l0), .inl l1] [.inr (.inl 130)] σ Q = WP m139 22 [.inr (.inl l0), .inl l1] [.inr (.inl 134)] σ Q := (w_getR (c := 10) (n := 6) d139_19 (by decide +kernel) (by decide +kernel)).trans (g_and ⟨isO_dec (by decide +kernel), by decide +kernel⟩)
theorem d139_22 : adec m139 22 = some (.iload_n 1, 1) := by decide +kernel
theorem s139_22 {l0 : Nat} {l1 : Int} {x0 : Nat} : WP m139 22 [.inr (.inl l0), .inl l1] [.inr (.inl x0)] σ Q = WP m139 23 [.inr (.inl l0), .inl l1] [.inl l1, .inr (.inl x0)] σ Q := w_ld d139_22 rfl
theorem d139_23 : adec m139 23 = some (.aload_n 0, 1) := by decide +kernel
theorem s139_23 {l0 : Nat} {l1 : Int} {x0 : Nat} {x1 : Int} : WP m139 23 [.inr (.inl l0), .inl l1] [.inl x1, .inr (.inl x0)] σ Q = WP m139 24 [.inr (.inl l0), .inl l1] [.inr (.inl l0), .inl x1, .inr (.inl x0)] σ Q := w_ld d139_23 rfl
theorem d139_24 : adec m139 24 = some (.getfield 27, 3) := by decide +kernel
theorem s139_24 {l0 : Nat} {l1 : Int} {x0 : Nat} {x1 : Int} : WP m139 24 [.inr (.inl l0), .inl l1] [.inr (.inl 130), .inl x1, .inr (.inl x0)] σ Q = WP m139 27 [.inr (.inl l0), .inl l1] [.inr (.inl 135), .inl x1, .inr (.inl x0)] σ Q := (w_getR (c := 10) (n := 8) d139_24 (by decide +kernel) (by decide +kernel)).trans (g_and ⟨isO_dec (by decide +kernel), by decide +kernel⟩)
theorem d139_27 : adec m139 27 = some (.iload_n 1, 1) := by decide +kernel
theorem s139_27 {l0 : Nat} {l1 : Int} {x0 : Nat} {x1 : Int} {x2 : Nat} : WP m139 27 [.inr (.inl l0), .inl l1] [.inr (.inl x2), .inl x1, .inr (.inl x0)] σ Q = WP m139 28 [.inr (.inl l0), .inl l1] [.inl l1, .inr (.inl x2), .inl x1, .inr (.inl x0)] σ Q := w_ld d139_27 rfl
theorem d139_28 : adec m139 28 = some (.iaload, 1) := by decide +kernel
theorem s139_28 {l0 : Nat} {l1 : Int} {x0 : Nat} {x1 : Int} {x2 : Nat} {x3 : Int} : WP m139 28 [.inr (.inl l0), .inl l1] [.inl x3, .inr (.inl x2), .inl x1, .inr (.inl x0)] σ Q = ((kdS x2 = 20 ∧ 0 ≤ x3 ∧ x3 < ln x2) ∧ WP m139 29 [.inr (.inl l0), .inl l1] [.inl (σ x2 x3.toNat), .inl x1, .inr (.inl x0)] σ Q) := w_iald d139_28
theorem d139_29 : adec m139 29 = some (.iastore, 1) := by decide +kernel
theorem s139_29 {l0 : Nat} {l1 : Int} {x0 : Nat} {x1 : Int} {x2 : Int} : WP m139 29 [.inr (.inl l0), .inl l1] [.inl x2, .inl x1, .inr (.inl x0)] σ Q = ((kdS x0 = 20 ∧ 0 ≤ x1 ∧ x1 < ln x0) ∧ WP m139 30 [.inr (.inl l0), .inl l1] [] (aup σ x0 x1.toNat x2) Q) := w_iast d139_29
theorem d139_30 : adec m139 30 = some (.iinc 1 (1), 3) := by decide +kernel
theorem s139_30 {l0 : Nat} {l1 : Int} : WP m139 30 [.inr (.inl l0), .inl l1] [] σ Q = (inI (l1 + (1)) ∧ WP m139 33 [.inr (.inl l0), .inl (l1 + (1))] [] σ Q) := w_iinc d139_30 rfl rfl
theorem d139_33 : adec m139 33 = some (.goto (-23), 3) := by decide +kernel
theorem s139_33 {l0 : Nat} {l1 : Int} : WP m139 33 [.inr (.inl l0), .inl l1] [] σ Q = WP m139 10 [.inr (.inl l0), .inl l1] [] σ Q := w_goto d139_33 (by decide)
theorem d139_36 : adec m139 36 = some (.return_, 1) := by decide +kernel
theorem s139_36 {l0 : Nat} {l1 : Int} : WP m139 36 [.inr (.inl l0), .inl l1] [] σ Q = Q [] σ := w_rv d139_36 rfl
theorem e139 {p0 : Nat} : CA m139 [.inr (.inl p0)] σ Q = WP m139 0 [.inr (.inl p0), vU] [] σ Q := rfl
-- BinderPressModel.feed(I)I
theorem d140_0 : adec m140 0 = some (.iload_n 1, 1) := by decide +kernel
theorem s140_0 {l0 : Nat} {l1 : Int} : WP m140 0 [.inr (.inl l0), .inl l1] [] σ Q = WP m140 1 [.inr (.inl l0), .inl l1] [.inl l1] σ Q := w_ld d140_0 rfl
theorem d140_1 : adec m140 1 = some (.i2l, 1) := by decide +kernel
theorem s140_1 {l0 : Nat} {l1 : Int} {x0 : Int} : WP m140 1 [.inr (.inl l0), .inl l1] [.inl x0] σ Q = WP m140 2 [.inr (.inl l0), .inl l1] [.inr (.inr (.inl x0))] σ Q := w_ld d140_1 rfl
theorem d140_2 : adec m140 2 = some (.lconst 0, 1) := by decide +kernel
theorem s140_2 {l0 : Nat} {l1 : Int} {x0 : Int} : WP m140 2 [.inr (.inl l0), .inl l1] [.inr (.inr (.inl x0))] σ Q = WP m140 3 [.inr (.inl l0), .inl l1] [.inr (.inr (.inl (0))), .inr (.inr (.inl x0))] σ Q := w_lconst d140_2
theorem d140_3 : adec m140 3 = some (.ldc2_w 118, 3) := by decide +kernel
theorem s140_3 {l0 : Nat} {l1 : Int} {x0 : Int} {x1 : Int} : WP m140 3 [.inr (.inl l0), .inl l1] [.inr (.inr (.inl x1)), .inr (.inr (.inl x0))] σ Q = WP m140 6 [.inr (.inl l0), .inl l1] [.inr (.inr (.inl (255))), .inr (.inr (.inl x1)), .inr (.inr (.inl x0))] σ Q := w_ldc2 d140_3 (by decide +kernel) (by decide)
theorem d140_6 : adec m140 6 = some (.invokestatic 88, 3) := by decide +kernel
theorem s140_6 {l0 : Nat} {l1 : Int} {x0 : Int} {x1 : Int} {x2 : Int} : WP m140 6 [.inr (.inl l0), .inl l1] [.inr (.inr (.inl x2)), .inr (.inr (.inl x1)), .inr (.inr (.inl x0))] σ Q = CA m127 [.inr (.inr (.inl x0)), .inr (.inr (.inl x1)), .inr (.inr (.inl x2))] σ (fun v σ2 => WP m140 9 [.inr (.inl l0), .inl l1] (v ++ []) σ2 Q) := w_cS (k := 127) d140_6 (by decide +kernel) (md := 1) (by decide +kernel) m127_at rfl rfl ⟨Nat.le_of_ble_eq_true rfl, Nat.le_of_ble_eq_true rfl, Nat.le_of_ble_eq_true rfl⟩ (by decide)
theorem d140_9 : adec m140 9 = some (.ifCond .ne (6), 3) := by decide +kernel
theorem s140_9 {l0 : Nat} {l1 : Int} {x0 : Int} : WP m140 9 [.inr (.inl l0), .inl l1] [.inl x0] σ Q = (if x0 = 0 then WP m140 12 [.inr (.inl l0), .inl l1] [] σ Q else WP m140 15 [.inr (.inl l0), .inl l1] [] σ Q) := w_ifne d140_9 (by decide)
theorem d140_12 : adec m140 12 = some (.ldc 120, 2) := by decide +kernel
theorem s140_12 {l0 : Nat} {l1 : Int} : WP m140 12 [.inr (.inl l0), .inl l1] [] σ Q = WP m140 14 [.inr (.inl l0), .inl l1] [.inl (-1000000002)] σ Q := w_ldc d140_12 (by decide +kernel) (by decide)
theorem d140_14 : adec m140 14 = some (.ireturn, 1) := by decide +kernel
theorem s140_14 {l0 : Nat} {l1 : Int} {x0 : Int} : WP m140 14 [.inr (.inl l0), .inl l1] [.inl x0] σ Q = Q [.inl x0] σ := w_ri d140_14 rfl
theorem d140_15 : adec m140 15 = some (.aload_n 0, 1) := by decide +kernel
theorem s140_15 {l0 : Nat} {l1 : Int} : WP m140 15 [.inr (.inl l0), .inl l1] [] σ Q = WP m140 16 [.inr (.inl l0), .inl l1] [.inr (.inl l0)] σ Q := w_ld d140_15 rfl
theorem d140_16 : adec m140 16 = some (.getfield 121, 3) := by decide +kernel
theorem s140_16 {l0 : Nat} {l1 : Int} : WP m140 16 [.inr (.inl l0), .inl l1] [.inr (.inl 130)] σ Q = WP m140 19 [.inr (.inl l0), .inl l1] [.inl (σ 130 4)] σ Q := (w_getI (c := 10) (n := 4) d140_16 (by decide +kernel) (by decide +kernel)).trans (g_and (isO_dec (by decide +kernel)))
theorem d140_19 : adec m140 19 = some (.sipush (240), 3) := by decide +kernel
theorem s140_19 {l0 : Nat} {l1 : Int} {x0 : Int} : WP m140 19 [.inr (.inl l0), .inl l1] [.inl x0] σ Q = WP m140 22 [.inr (.inl l0), .inl l1] [.inl (240), .inl x0] σ Q := w_sipush d140_19 (by decide)
theorem d140_22 : adec m140 22 = some (.if_icmp .ne (6), 3) := by decide +kernel
theorem s140_22 {l0 : Nat} {l1 : Int} {x0 : Int} {x1 : Int} : WP m140 22 [.inr (.inl l0), .inl l1] [.inl x1, .inl x0] σ Q = (if x0 = x1 then WP m140 25 [.inr (.inl l0), .inl l1] [] σ Q else WP m140 28 [.inr (.inl l0), .inl l1] [] σ Q) := w_icne d140_22 (by decide)
theorem d140_25 : adec m140 25 = some (.ldc 114, 2) := by decide +kernel
theorem s140_25 {l0 : Nat} {l1 : Int} : WP m140 25 [.inr (.inl l0), .inl l1] [] σ Q = WP m140 27 [.inr (.inl l0), .inl l1] [.inl (-1000000004)] σ Q := w_ldc d140_25 (by decide +kernel) (by decide)
theorem d140_27 : adec m140 27 = some (.ireturn, 1) := by decide +kernel
theorem s140_27 {l0 : Nat} {l1 : Int} {x0 : Int} : WP m140 27 [.inr (.inl l0), .inl l1] [.inl x0] σ Q = Q [.inl x0] σ := w_ri d140_27 rfl
theorem d140_28 : adec m140 28 = some (.aload_n 0, 1) := by decide +kernel
theorem s140_28 {l0 : Nat} {l1 : Int} : WP m140 28 [.inr (.inl l0), .inl l1] [] σ Q = WP m140 29 [.inr (.inl l0), .inl l1] [.inr (.inl l0)] σ Q := w_ld d140_28 rfl
theorem d140_29 : adec m140 29 = some (.getfield 17, 3) := by decide +kernel
theorem s140_29 {l0 : Nat} {l1 : Int} : WP m140 29 [.inr (.inl l0), .inl l1] [.inr (.inl 130)] σ Q = WP m140 32 [.inr (.inl l0), .inl l1] [.inr (.inl 133)] σ Q := (w_getR (c := 10) (n := 3) d140_29 (by decide +kernel) (by decide +kernel)).trans (g_and ⟨isO_dec (by decide +kernel), by decide +kernel⟩)
theorem d140_32 : adec m140 32 = some (.aload_n 0, 1) := by decide +kernel
theorem s140_32 {l0 : Nat} {l1 : Int} {x0 : Nat} : WP m140 32 [.inr (.inl l0), .inl l1] [.inr (.inl x0)] σ Q = WP m140 33 [.inr (.inl l0), .inl l1] [.inr (.inl l0), .inr (.inl x0)] σ Q := w_ld d140_32 rfl
theorem d140_33 : adec m140 33 = some (.getfield 121, 3) := by decide +kernel
theorem s140_33 {l0 : Nat} {l1 : Int} {x0 : Nat} : WP m140 33 [.inr (.inl l0), .inl l1] [.inr (.inl 130), .inr (.inl x0)] σ Q = WP m140 36 [.inr (.inl l0), .inl l1] [.inl (σ 130 4), .inr (.inl x0)] σ Q := (w_getI (c := 10) (n := 4) d140_33 (by decide +kernel) (by decide +kernel)).trans (g_and (isO_dec (by decide +kernel)))
theorem d140_36 : adec m140 36 = some (.iload_n 1, 1) := by decide +kernel
theorem s140_36 {l0 : Nat} {l1 : Int} {x0 : Nat} {x1 : Int} : WP m140 36 [.inr (.inl l0), .inl l1] [.inl x1, .inr (.inl x0)] σ Q = WP m140 37 [.inr (.inl l0), .inl l1] [.inl l1, .inl x1, .inr (.inl x0)] σ Q := w_ld d140_36 rfl
theorem d140_37 : adec m140 37 = some (.iastore, 1) := by decide +kernel
theorem s140_37 {l0 : Nat} {l1 : Int} {x0 : Nat} {x1 : Int} {x2 : Int} : WP m140 37 [.inr (.inl l0), .inl l1] [.inl x2, .inl x1, .inr (.inl x0)] σ Q = ((kdS x0 = 20 ∧ 0 ≤ x1 ∧ x1 < ln x0) ∧ WP m140 38 [.inr (.inl l0), .inl l1] [] (aup σ x0 x1.toNat x2) Q) := w_iast d140_37
theorem d140_38 : adec m140 38 = some (.aload_n 0, 1) := by decide +kernel
theorem s140_38 {l0 : Nat} {l1 : Int} : WP m140 38 [.inr (.inl l0), .inl l1] [] σ Q = WP m140 39 [.inr (.inl l0), .inl l1] [.inr (.inl l0)] σ Q := w_ld d140_38 rfl
theorem d140_39 : adec m140 39 = some (.dup, 1) := by decide +kernel
theorem s140_39 {l0 : Nat} {l1 : Int} {x0 : Nat} : WP m140 39 [.inr (.inl l0), .inl l1] [.inr (.inl x0)] σ Q = WP m140 40 [.inr (.inl l0), .inl l1] [.inr (.inl x0), .inr (.inl x0)] σ Q := w_ld d140_39 rfl
theorem d140_40 : adec m140 40 = some (.getfield 121, 3) := by decide +kernel
theorem s140_40 {l0 : Nat} {l1 : Int} {x0 : Nat} : WP m140 40 [.inr (.inl l0), .inl l1] [.inr (.inl 130), .inr (.inl x0)] σ Q = WP m140 43 [.inr (.inl l0), .inl l1] [.inl (σ 130 4), .inr (.inl x0)] σ Q := (w_getI (c := 10) (n := 4) d140_40 (by decide +kernel) (by decide +kernel)).trans (g_and (isO_dec (by decide +kernel)))
theorem d140_43 : adec m140 43 = some (.iconst (1), 1) := by decide +kernel
theorem s140_43 {l0 : Nat} {l1 : Int} {x0 : Nat} {x1 : Int} : WP m140 43 [.inr (.inl l0), .inl l1] [.inl x1, .inr (.inl x0)] σ Q = WP m140 44 [.inr (.inl l0), .inl l1] [.inl (1), .inl x1, .inr (.inl x0)] σ Q := w_iconst d140_43 (by decide)
theorem d140_44 : adec m140 44 = some (.iadd, 1) := by decide +kernel
theorem s140_44 {l0 : Nat} {l1 : Int} {x0 : Nat} {x1 : Int} {x2 : Int} : WP m140 44 [.inr (.inl l0), .inl l1] [.inl x2, .inl x1, .inr (.inl x0)] σ Q = (inI (x1 + x2) ∧ WP m140 45 [.inr (.inl l0), .inl l1] [.inl (x1 + x2), .inr (.inl x0)] σ Q) := w_iadd d140_44
theorem d140_45 : adec m140 45 = some (.putfield 121, 3) := by decide +kernel
theorem s140_45 {l0 : Nat} {l1 : Int} {x1 : Int} : WP m140 45 [.inr (.inl l0), .inl l1] [.inl x1, .inr (.inl 130)] σ Q = WP m140 48 [.inr (.inl l0), .inl l1] [] (aup σ 130 4 x1) Q := (w_putI (c := 10) (n := 4) d140_45 (by decide +kernel) (by decide +kernel) (by decide +kernel)).trans (g_and (isO_dec (by decide +kernel)))
theorem d140_48 : adec m140 48 = some (.aload_n 0, 1) := by decide +kernel
theorem s140_48 {l0 : Nat} {l1 : Int} : WP m140 48 [.inr (.inl l0), .inl l1] [] σ Q = WP m140 49 [.inr (.inl l0), .inl l1] [.inr (.inl l0)] σ Q := w_ld d140_48 rfl
theorem d140_49 : adec m140 49 = some (.getfield 121, 3) := by decide +kernel
theorem s140_49 {l0 : Nat} {l1 : Int} : WP m140 49 [.inr (.inl l0), .inl l1] [.inr (.inl 130)] σ Q = WP m140 52 [.inr (.inl l0), .inl l1] [.inl (σ 130 4)] σ Q := (w_getI (c := 10) (n := 4) d140_49 (by decide +kernel) (by decide +kernel)).trans (g_and (isO_dec (by decide +kernel)))
theorem d140_52 : adec m140 52 = some (.ireturn, 1) := by decide +kernel
theorem s140_52 {l0 : Nat} {l1 : Int} {x0 : Int} : WP m140 52 [.inr (.inl l0), .inl l1] [.inl x0] σ Q = Q [.inl x0] σ := w_ri d140_52 rfl
theorem e140 {p0 : Nat} {p1 : Int} : CA m140 [.inr (.inl p0), .inl p1] σ Q = WP m140 0 [.inr (.inl p0), .inl p1] [] σ Q := rfl
-- BinderPressModel.open(Z)V
theorem d141_0 : adec m141 0 = some (.aload_n 0, 1) := by decide +kernel
theorem s141_0 {l0 : Nat} {l1 : Int} : WP m141 0 [.inr (.inl l0), .inl l1] [] σ Q = WP m141 1 [.inr (.inl l0), .inl l1] [.inr (.inl l0)] σ Q := w_ld d141_0 rfl
theorem d141_1 : adec m141 1 = some (.dup, 1) := by decide +kernel
theorem s141_1 {l0 : Nat} {l1 : Int} {x0 : Nat} : WP m141 1 [.inr (.inl l0), .inl l1] [.inr (.inl x0)] σ Q = WP m141 2 [.inr (.inl l0), .inl l1] [.inr (.inl x0), .inr (.inl x0)] σ Q := w_ld d141_1 rfl
theorem d141_2 : adec m141 2 = some (.getfield 124, 3) := by decide +kernel
theorem s141_2 {l0 : Nat} {l1 : Int} {x0 : Nat} : WP m141 2 [.inr (.inl l0), .inl l1] [.inr (.inl 130), .inr (.inl x0)] σ Q = WP m141 5 [.inr (.inl l0), .inl l1] [.inl (σ 130 14), .inr (.inl x0)] σ Q := (w_getI (c := 10) (n := 14) d141_2 (by decide +kernel) (by decide +kernel)).trans (g_and (isO_dec (by decide +kernel)))
theorem d141_5 : adec m141 5 = some (.iconst (1), 1) := by decide +kernel
theorem s141_5 {l0 : Nat} {l1 : Int} {x0 : Nat} {x1 : Int} : WP m141 5 [.inr (.inl l0), .inl l1] [.inl x1, .inr (.inl x0)] σ Q = WP m141 6 [.inr (.inl l0), .inl l1] [.inl (1), .inl x1, .inr (.inl x0)] σ Q := w_iconst d141_5 (by decide)
theorem d141_6 : adec m141 6 = some (.iadd, 1) := by decide +kernel
theorem s141_6 {l0 : Nat} {l1 : Int} {x0 : Nat} {x1 : Int} {x2 : Int} : WP m141 6 [.inr (.inl l0), .inl l1] [.inl x2, .inl x1, .inr (.inl x0)] σ Q = (inI (x1 + x2) ∧ WP m141 7 [.inr (.inl l0), .inl l1] [.inl (x1 + x2), .inr (.inl x0)] σ Q) := w_iadd d141_6
theorem d141_7 : adec m141 7 = some (.putfield 124, 3) := by decide +kernel
theorem s141_7 {l0 : Nat} {l1 : Int} {x1 : Int} : WP m141 7 [.inr (.inl l0), .inl l1] [.inl x1, .inr (.inl 130)] σ Q = WP m141 10 [.inr (.inl l0), .inl l1] [] (aup σ 130 14 x1) Q := (w_putI (c := 10) (n := 14) d141_7 (by decide +kernel) (by decide +kernel) (by decide +kernel)).trans (g_and (isO_dec (by decide +kernel)))
theorem d141_10 : adec m141 10 = some (.aload_n 0, 1) := by decide +kernel
theorem s141_10 {l0 : Nat} {l1 : Int} : WP m141 10 [.inr (.inl l0), .inl l1] [] σ Q = WP m141 11 [.inr (.inl l0), .inl l1] [.inr (.inl l0)] σ Q := w_ld d141_10 rfl
theorem d141_11 : adec m141 11 = some (.getfield 33, 3) := by decide +kernel
theorem s141_11 {l0 : Nat} {l1 : Int} : WP m141 11 [.inr (.inl l0), .inl l1] [.inr (.inl 130)] σ Q = WP m141 14 [.inr (.inl l0), .inl l1] [.inr (.inl 137)] σ Q := (w_getR (c := 10) (n := 12) d141_11 (by decide +kernel) (by decide +kernel)).trans (g_and ⟨isO_dec (by decide +kernel), by decide +kernel⟩)
theorem d141_14 : adec m141 14 = some (.aload_n 0, 1) := by decide +kernel
theorem s141_14 {l0 : Nat} {l1 : Int} {x0 : Nat} : WP m141 14 [.inr (.inl l0), .inl l1] [.inr (.inl x0)] σ Q = WP m141 15 [.inr (.inl l0), .inl l1] [.inr (.inl l0), .inr (.inl x0)] σ Q := w_ld d141_14 rfl
theorem d141_15 : adec m141 15 = some (.getfield 124, 3) := by decide +kernel
theorem s141_15 {l0 : Nat} {l1 : Int} {x0 : Nat} : WP m141 15 [.inr (.inl l0), .inl l1] [.inr (.inl 130), .inr (.inl x0)] σ Q = WP m141 18 [.inr (.inl l0), .inl l1] [.inl (σ 130 14), .inr (.inl x0)] σ Q := (w_getI (c := 10) (n := 14) d141_15 (by decide +kernel) (by decide +kernel)).trans (g_and (isO_dec (by decide +kernel)))
theorem d141_18 : adec m141 18 = some (.aload_n 0, 1) := by decide +kernel
theorem s141_18 {l0 : Nat} {l1 : Int} {x0 : Nat} {x1 : Int} : WP m141 18 [.inr (.inl l0), .inl l1] [.inl x1, .inr (.inl x0)] σ Q = WP m141 19 [.inr (.inl l0), .inl l1] [.inr (.inl l0), .inl x1, .inr (.inl x0)] σ Q := w_ld d141_18 rfl
theorem d141_19 : adec m141 19 = some (.getfield 104, 3) := by decide +kernel
theorem s141_19 {l0 : Nat} {l1 : Int} {x0 : Nat} {x1 : Int} : WP m141 19 [.inr (.inl l0), .inl l1] [.inr (.inl 130), .inl x1, .inr (.inl x0)] σ Q = WP m141 22 [.inr (.inl l0), .inl l1] [.inl (σ 130 7), .inl x1, .inr (.inl x0)] σ Q := (w_getI (c := 10) (n := 7) d141_19 (by decide +kernel) (by decide +kernel)).trans (g_and (isO_dec (by decide +kernel)))
theorem d141_22 : adec m141 22 = some (.iastore, 1) := by decide +kernel
theorem s141_22 {l0 : Nat} {l1 : Int} {x0 : Nat} {x1 : Int} {x2 : Int} : WP m141 22 [.inr (.inl l0), .inl l1] [.inl x2, .inl x1, .inr (.inl x0)] σ Q = ((kdS x0 = 20 ∧ 0 ≤ x1 ∧ x1 < ln x0) ∧ WP m141 23 [.inr (.inl l0), .inl l1] [] (aup σ x0 x1.toNat x2) Q) := w_iast d141_22
theorem d141_23 : adec m141 23 = some (.aload_n 0, 1) := by decide +kernel
theorem s141_23 {l0 : Nat} {l1 : Int} : WP m141 23 [.inr (.inl l0), .inl l1] [] σ Q = WP m141 24 [.inr (.inl l0), .inl l1] [.inr (.inl l0)] σ Q := w_ld d141_23 rfl
theorem d141_24 : adec m141 24 = some (.getfield 36, 3) := by decide +kernel
theorem s141_24 {l0 : Nat} {l1 : Int} : WP m141 24 [.inr (.inl l0), .inl l1] [.inr (.inl 130)] σ Q = WP m141 27 [.inr (.inl l0), .inl l1] [.inr (.inl 138)] σ Q := (w_getR (c := 10) (n := 13) d141_24 (by decide +kernel) (by decide +kernel)).trans (g_and ⟨isO_dec (by decide +kernel), by decide +kernel⟩)
theorem d141_27 : adec m141 27 = some (.aload_n 0, 1) := by decide +kernel
theorem s141_27 {l0 : Nat} {l1 : Int} {x0 : Nat} : WP m141 27 [.inr (.inl l0), .inl l1] [.inr (.inl x0)] σ Q = WP m141 28 [.inr (.inl l0), .inl l1] [.inr (.inl l0), .inr (.inl x0)] σ Q := w_ld d141_27 rfl
theorem d141_28 : adec m141 28 = some (.getfield 124, 3) := by decide +kernel
theorem s141_28 {l0 : Nat} {l1 : Int} {x0 : Nat} : WP m141 28 [.inr (.inl l0), .inl l1] [.inr (.inl 130), .inr (.inl x0)] σ Q = WP m141 31 [.inr (.inl l0), .inl l1] [.inl (σ 130 14), .inr (.inl x0)] σ Q := (w_getI (c := 10) (n := 14) d141_28 (by decide +kernel) (by decide +kernel)).trans (g_and (isO_dec (by decide +kernel)))
theorem d141_31 : adec m141 31 = some (.iload_n 1, 1) := by decide +kernel
theorem s141_31 {l0 : Nat} {l1 : Int} {x0 : Nat} {x1 : Int} : WP m141 31 [.inr (.inl l0), .inl l1] [.inl x1, .inr (.inl x0)] σ Q = WP m141 32 [.inr (.inl l0), .inl l1] [.inl l1, .inl x1, .inr (.inl x0)] σ Q := w_ld d141_31 rfl
theorem d141_32 : adec m141 32 = some (.bastore, 1) := by decide +kernel
theorem s141_32 {l0 : Nat} {l1 : Int} {x0 : Nat} {x1 : Int} {x2 : Int} : WP m141 32 [.inr (.inl l0), .inl l1] [.inl x2, .inl x1, .inr (.inl x0)] σ Q = ((kdS x0 = 21 ∧ 0 ≤ x1 ∧ x1 < ln x0 ∧ (x2 = 0 ∨ x2 = 1)) ∧ WP m141 33 [.inr (.inl l0), .inl l1] [] (aup σ x0 x1.toNat x2) Q) := w_zast d141_32
theorem d141_33 : adec m141 33 = some (.return_, 1) := by decide +kernel
theorem s141_33 {l0 : Nat} {l1 : Int} : WP m141 33 [.inr (.inl l0), .inl l1] [] σ Q = Q [] σ := w_rv d141_33 rfl
theorem e141 {p0 : Nat} {p1 : Int} : CA m141 [.inr (.inl p0), .inl p1] σ Q = WP m141 0 [.inr (.inl p0), .inl p1] [] σ Q := rfl
-- BinderPressModel.hasTerm()Z
theorem d142_0 : adec m142 0 = some (.aload_n 0, 1) := by decide +kernel
theorem s142_0 {l0 : Nat} : WP m142 0 [.inr (.inl l0)] [] σ Q = WP m142 1 [.inr (.inl l0)] [.inr (.inl l0)] σ Q := w_ld d142_0 rfl
theorem d142_1 : adec m142 1 = some (.getfield 104, 3) := by decide +kernel
theorem s142_1 {l0 : Nat} : WP m142 1 [.inr (.inl l0)] [.inr (.inl 130)] σ Q = WP m142 4 [.inr (.inl l0)] [.inl (σ 130 7)] σ Q := (w_getI (c := 10) (n := 7) d142_1 (by decide +kernel) (by decide +kernel)).trans (g_and (isO_dec (by decide +kernel)))
theorem d142_4 : adec m142 4 = some (.aload_n 0, 1) := by decide +kernel
theorem s142_4 {l0 : Nat} {x0 : Int} : WP m142 4 [.inr (.inl l0)] [.inl x0] σ Q = WP m142 5 [.inr (.inl l0)] [.inr (.inl l0), .inl x0] σ Q := w_ld d142_4 rfl
theorem d142_5 : adec m142 5 = some (.getfield 33, 3) := by decide +kernel
theorem s142_5 {l0 : Nat} {x0 : Int} : WP m142 5 [.inr (.inl l0)] [.inr (.inl 130), .inl x0] σ Q = WP m142 8 [.inr (.inl l0)] [.inr (.inl 137), .inl x0] σ Q := (w_getR (c := 10) (n := 12) d142_5 (by decide +kernel) (by decide +kernel)).trans (g_and ⟨isO_dec (by decide +kernel), by decide +kernel⟩)
theorem d142_8 : adec m142 8 = some (.aload_n 0, 1) := by decide +kernel
theorem s142_8 {l0 : Nat} {x0 : Int} {x1 : Nat} : WP m142 8 [.inr (.inl l0)] [.inr (.inl x1), .inl x0] σ Q = WP m142 9 [.inr (.inl l0)] [.inr (.inl l0), .inr (.inl x1), .inl x0] σ Q := w_ld d142_8 rfl
theorem d142_9 : adec m142 9 = some (.getfield 124, 3) := by decide +kernel
theorem s142_9 {l0 : Nat} {x0 : Int} {x1 : Nat} : WP m142 9 [.inr (.inl l0)] [.inr (.inl 130), .inr (.inl x1), .inl x0] σ Q = WP m142 12 [.inr (.inl l0)] [.inl (σ 130 14), .inr (.inl x1), .inl x0] σ Q := (w_getI (c := 10) (n := 14) d142_9 (by decide +kernel) (by decide +kernel)).trans (g_and (isO_dec (by decide +kernel)))
theorem d142_12 : adec m142 12 = some (.iaload, 1) := by decide +kernel
theorem s142_12 {l0 : Nat} {x0 : Int} {x1 : Nat} {x2 : Int} : WP m142 12 [.inr (.inl l0)] [.inl x2, .inr (.inl x1), .inl x0] σ Q = ((kdS x1 = 20 ∧ 0 ≤ x2 ∧ x2 < ln x1) ∧ WP m142 13 [.inr (.inl l0)] [.inl (σ x1 x2.toNat), .inl x0] σ Q) := w_iald d142_12
theorem d142_13 : adec m142 13 = some (.if_icmp .le (7), 3) := by decide +kernel
theorem s142_13 {l0 : Nat} {x0 : Int} {x1 : Int} : WP m142 13 [.inr (.inl l0)] [.inl x1, .inl x0] σ Q = (if x0 ≤ x1 then WP m142 20 [.inr (.inl l0)] [] σ Q else WP m142 16 [.inr (.inl l0)] [] σ Q) := w_icle d142_13 (by decide)
theorem d142_16 : adec m142 16 = some (.iconst (1), 1) := by decide +kernel
theorem s142_16 {l0 : Nat} : WP m142 16 [.inr (.inl l0)] [] σ Q = WP m142 17 [.inr (.inl l0)] [.inl (1)] σ Q := w_iconst d142_16 (by decide)
theorem d142_17 : adec m142 17 = some (.goto (4), 3) := by decide +kernel
theorem s142_17 {l0 : Nat} {x0 : Int} : WP m142 17 [.inr (.inl l0)] [.inl x0] σ Q = WP m142 21 [.inr (.inl l0)] [.inl x0] σ Q := w_goto d142_17 (by decide)
theorem d142_20 : adec m142 20 = some (.iconst (0), 1) := by decide +kernel
theorem s142_20 {l0 : Nat} : WP m142 20 [.inr (.inl l0)] [] σ Q = WP m142 21 [.inr (.inl l0)] [.inl (0)] σ Q := w_iconst d142_20 (by decide)
theorem d142_21 : adec m142 21 = some (.ireturn, 1) := by decide +kernel
theorem s142_21 {l0 : Nat} {x0 : Int} : WP m142 21 [.inr (.inl l0)] [.inl x0] σ Q = ((x0 = 0 ∨ x0 = 1) ∧ Q [.inl x0] σ) := w_rz d142_21 rfl
theorem e142 {p0 : Nat} : CA m142 [.inr (.inl p0)] σ Q = WP m142 0 [.inr (.inl p0)] [] σ Q := rfl
-- BinderPressModel.putAhead()V
theorem d143_0 : adec m143 0 = some (.aload_n 0, 1) := by decide +kernel
theorem s143_0 {l0 : Nat} {l1 : AV} : WP m143 0 [.inr (.inl l0), l1] [] σ Q = WP m143 1 [.inr (.inl l0), l1] [.inr (.inl l0)] σ Q := w_ld d143_0 rfl
theorem d143_1 : adec m143 1 = some (.invokevirtual 127, 3) := by decide +kernel
theorem s143_1 {l0 : Nat} {l1 : AV} : WP m143 1 [.inr (.inl l0), l1] [.inr (.inl 130)] σ Q = CA m142 [.inr (.inl 130)] σ (fun v σ2 => WP m143 4 [.inr (.inl l0), l1] (v ++ []) σ2 Q) := (w_cV (k := 142) d143_1 (by decide +kernel) m142_at rfl rfl ⟨Nat.le_of_ble_eq_true rfl, Nat.le_of_ble_eq_true rfl, Nat.le_of_ble_eq_true rfl⟩ (by decide)).trans (g_and (isO_dec (by decide +kernel)))
theorem d143_4 : adec m143 4 = some (.ifCond .eq (66), 3) := by decide +kernel
theorem s143_4 {l0 : Nat} {l1 : AV} {x0 : Int} : WP m143 4 [.inr (.inl l0), l1] [.inl x0] σ Q = (if x0 = 0 then WP m143 70 [.inr (.inl l0), l1] [] σ Q else WP m143 7 [.inr (.inl l0), l1] [] σ Q) := w_ifeq d143_4 (by decide)
theorem d143_7 : adec m143 7 = some (.aload_n 0, 1) := by decide +kernel
theorem s143_7 {l0 : Nat} {l1 : AV} : WP m143 7 [.inr (.inl l0), l1] [] σ Q = WP m143 8 [.inr (.inl l0), l1] [.inr (.inl l0)] σ Q := w_ld d143_7 rfl
theorem d143_8 : adec m143 8 = some (.getfield 104, 3) := by decide +kernel
theorem s143_8 {l0 : Nat} {l1 : AV} : WP m143 8 [.inr (.inl l0), l1] [.inr (.inl 130)] σ Q = WP m143 11 [.inr (.inl l0), l1] [.inl (σ 130 7)] σ Q := (w_getI (c := 10) (n := 7) d143_8 (by decide +kernel) (by decide +kernel)).trans (g_and (isO_dec (by decide +kernel)))
theorem d143_11 : adec m143 11 = some (.istore_n 1, 1) := by decide +kernel
theorem s143_11 {l0 : Nat} {l1 : AV} {x0 : Int} : WP m143 11 [.inr (.inl l0), l1] [.inl x0] σ Q = WP m143 12 [.inr (.inl l0), .inl x0] [] σ Q := w_st1 (j := 1) d143_11 rfl (Nat.le_of_ble_eq_true rfl) rfl
theorem d143_12 : adec m143 12 = some (.iload_n 1, 1) := by decide +kernel
theorem s143_12 {l0 : Nat} {l1 : Int} : WP m143 12 [.inr (.inl l0), .inl l1] [] σ Q = WP m143 13 [.inr (.inl l0), .inl l1] [.inl l1] σ Q := w_ld d143_12 rfl
theorem d143_13 : adec m143 13 = some (.aload_n 0, 1) := by decide +kernel
theorem s143_13 {l0 : Nat} {l1 : Int} {x0 : Int} : WP m143 13 [.inr (.inl l0), .inl l1] [.inl x0] σ Q = WP m143 14 [.inr (.inl l0), .inl l1] [.inr (.inl l0), .inl x0] σ Q := w_ld d143_13 rfl
theorem d143_14 : adec m143 14 = some (.getfield 33, 3) := by decide +kernel
theorem s143_14 {l0 : Nat} {l1 : Int} {x0 : Int} : WP m143 14 [.inr (.inl l0), .inl l1] [.inr (.inl 130), .inl x0] σ Q = WP m143 17 [.inr (.inl l0), .inl l1] [.inr (.inl 137), .inl x0] σ Q := (w_getR (c := 10) (n := 12) d143_14 (by decide +kernel) (by decide +kernel)).trans (g_and ⟨isO_dec (by decide +kernel), by decide +kernel⟩)
theorem d143_17 : adec m143 17 = some (.aload_n 0, 1) := by decide +kernel
theorem s143_17 {l0 : Nat} {l1 : Int} {x0 : Int} {x1 : Nat} : WP m143 17 [.inr (.inl l0), .inl l1] [.inr (.inl x1), .inl x0] σ Q = WP m143 18 [.inr (.inl l0), .inl l1] [.inr (.inl l0), .inr (.inl x1), .inl x0] σ Q := w_ld d143_17 rfl
theorem d143_18 : adec m143 18 = some (.getfield 124, 3) := by decide +kernel
theorem s143_18 {l0 : Nat} {l1 : Int} {x0 : Int} {x1 : Nat} : WP m143 18 [.inr (.inl l0), .inl l1] [.inr (.inl 130), .inr (.inl x1), .inl x0] σ Q = WP m143 21 [.inr (.inl l0), .inl l1] [.inl (σ 130 14), .inr (.inl x1), .inl x0] σ Q := (w_getI (c := 10) (n := 14) d143_18 (by decide +kernel) (by decide +kernel)).trans (g_and (isO_dec (by decide +kernel)))
theorem d143_21 : adec m143 21 = some (.iaload, 1) := by decide +kernel
theorem s143_21 {l0 : Nat} {l1 : Int} {x0 : Int} {x1 : Nat} {x2 : Int} : WP m143 21 [.inr (.inl l0), .inl l1] [.inl x2, .inr (.inl x1), .inl x0] σ Q = ((kdS x1 = 20 ∧ 0 ≤ x2 ∧ x2 < ln x1) ∧ WP m143 22 [.inr (.inl l0), .inl l1] [.inl (σ x1 x2.toNat), .inl x0] σ Q) := w_iald d143_21
theorem d143_22 : adec m143 22 = some (.if_icmp .le (23), 3) := by decide +kernel
theorem s143_22 {l0 : Nat} {l1 : Int} {x0 : Int} {x1 : Int} : WP m143 22 [.inr (.inl l0), .inl l1] [.inl x1, .inl x0] σ Q = (if x0 ≤ x1 then WP m143 45 [.inr (.inl l0), .inl l1] [] σ Q else WP m143 25 [.inr (.inl l0), .inl l1] [] σ Q) := w_icle d143_22 (by decide)
theorem d143_25 : adec m143 25 = some (.aload_n 0, 1) := by decide +kernel
theorem s143_25 {l0 : Nat} {l1 : Int} : WP m143 25 [.inr (.inl l0), .inl l1] [] σ Q = WP m143 26 [.inr (.inl l0), .inl l1] [.inr (.inl l0)] σ Q := w_ld d143_25 rfl
theorem d143_26 : adec m143 26 = some (.getfield 24, 3) := by decide +kernel
theorem s143_26 {l0 : Nat} {l1 : Int} : WP m143 26 [.inr (.inl l0), .inl l1] [.inr (.inl 130)] σ Q = WP m143 29 [.inr (.inl l0), .inl l1] [.inr (.inl 134)] σ Q := (w_getR (c := 10) (n := 6) d143_26 (by decide +kernel) (by decide +kernel)).trans (g_and ⟨isO_dec (by decide +kernel), by decide +kernel⟩)
theorem d143_29 : adec m143 29 = some (.iload_n 1, 1) := by decide +kernel
theorem s143_29 {l0 : Nat} {l1 : Int} {x0 : Nat} : WP m143 29 [.inr (.inl l0), .inl l1] [.inr (.inl x0)] σ Q = WP m143 30 [.inr (.inl l0), .inl l1] [.inl l1, .inr (.inl x0)] σ Q := w_ld d143_29 rfl
theorem d143_30 : adec m143 30 = some (.aload_n 0, 1) := by decide +kernel
theorem s143_30 {l0 : Nat} {l1 : Int} {x0 : Nat} {x1 : Int} : WP m143 30 [.inr (.inl l0), .inl l1] [.inl x1, .inr (.inl x0)] σ Q = WP m143 31 [.inr (.inl l0), .inl l1] [.inr (.inl l0), .inl x1, .inr (.inl x0)] σ Q := w_ld d143_30 rfl
theorem d143_31 : adec m143 31 = some (.getfield 24, 3) := by decide +kernel
theorem s143_31 {l0 : Nat} {l1 : Int} {x0 : Nat} {x1 : Int} : WP m143 31 [.inr (.inl l0), .inl l1] [.inr (.inl 130), .inl x1, .inr (.inl x0)] σ Q = WP m143 34 [.inr (.inl l0), .inl l1] [.inr (.inl 134), .inl x1, .inr (.inl x0)] σ Q := (w_getR (c := 10) (n := 6) d143_31 (by decide +kernel) (by decide +kernel)).trans (g_and ⟨isO_dec (by decide +kernel), by decide +kernel⟩)
theorem d143_34 : adec m143 34 = some (.iload_n 1, 1) := by decide +kernel
theorem s143_34 {l0 : Nat} {l1 : Int} {x0 : Nat} {x1 : Int} {x2 : Nat} : WP m143 34 [.inr (.inl l0), .inl l1] [.inr (.inl x2), .inl x1, .inr (.inl x0)] σ Q = WP m143 35 [.inr (.inl l0), .inl l1] [.inl l1, .inr (.inl x2), .inl x1, .inr (.inl x0)] σ Q := w_ld d143_34 rfl
theorem d143_35 : adec m143 35 = some (.iconst (1), 1) := by decide +kernel
theorem s143_35 {l0 : Nat} {l1 : Int} {x0 : Nat} {x1 : Int} {x2 : Nat} {x3 : Int} : WP m143 35 [.inr (.inl l0), .inl l1] [.inl x3, .inr (.inl x2), .inl x1, .inr (.inl x0)] σ Q = WP m143 36 [.inr (.inl l0), .inl l1] [.inl (1), .inl x3, .inr (.inl x2), .inl x1, .inr (.inl x0)] σ Q := w_iconst d143_35 (by decide)
theorem d143_36 : adec m143 36 = some (.isub, 1) := by decide +kernel
theorem s143_36 {l0 : Nat} {l1 : Int} {x0 : Nat} {x1 : Int} {x2 : Nat} {x3 : Int} {x4 : Int} : WP m143 36 [.inr (.inl l0), .inl l1] [.inl x4, .inl x3, .inr (.inl x2), .inl x1, .inr (.inl x0)] σ Q = (inI (x3 - x4) ∧ WP m143 37 [.inr (.inl l0), .inl l1] [.inl (x3 - x4), .inr (.inl x2), .inl x1, .inr (.inl x0)] σ Q) := w_isub d143_36
theorem d143_37 : adec m143 37 = some (.iaload, 1) := by decide +kernel
theorem s143_37 {l0 : Nat} {l1 : Int} {x0 : Nat} {x1 : Int} {x2 : Nat} {x3 : Int} : WP m143 37 [.inr (.inl l0), .inl l1] [.inl x3, .inr (.inl x2), .inl x1, .inr (.inl x0)] σ Q = ((kdS x2 = 20 ∧ 0 ≤ x3 ∧ x3 < ln x2) ∧ WP m143 38 [.inr (.inl l0), .inl l1] [.inl (σ x2 x3.toNat), .inl x1, .inr (.inl x0)] σ Q) := w_iald d143_37
theorem d143_38 : adec m143 38 = some (.iastore, 1) := by decide +kernel
theorem s143_38 {l0 : Nat} {l1 : Int} {x0 : Nat} {x1 : Int} {x2 : Int} : WP m143 38 [.inr (.inl l0), .inl l1] [.inl x2, .inl x1, .inr (.inl x0)] σ Q = ((kdS x0 = 20 ∧ 0 ≤ x1 ∧ x1 < ln x0) ∧ WP m143 39 [.inr (.inl l0), .inl l1] [] (aup σ x0 x1.toNat x2) Q) := w_iast d143_38
theorem d143_39 : adec m143 39 = some (.iinc 1 (-1), 3) := by decide +kernel
theorem s143_39 {l0 : Nat} {l1 : Int} : WP m143 39 [.inr (.inl l0), .inl l1] [] σ Q = (inI (l1 + (-1)) ∧ WP m143 42 [.inr (.inl l0), .inl (l1 + (-1))] [] σ Q) := w_iinc d143_39 rfl rfl
theorem d143_42 : adec m143 42 = some (.goto (-30), 3) := by decide +kernel
theorem s143_42 {l0 : Nat} {l1 : Int} : WP m143 42 [.inr (.inl l0), .inl l1] [] σ Q = WP m143 12 [.inr (.inl l0), .inl l1] [] σ Q := w_goto d143_42 (by decide)
theorem d143_45 : adec m143 45 = some (.aload_n 0, 1) := by decide +kernel
theorem s143_45 {l0 : Nat} {l1 : Int} : WP m143 45 [.inr (.inl l0), .inl l1] [] σ Q = WP m143 46 [.inr (.inl l0), .inl l1] [.inr (.inl l0)] σ Q := w_ld d143_45 rfl
theorem d143_46 : adec m143 46 = some (.getfield 24, 3) := by decide +kernel
theorem s143_46 {l0 : Nat} {l1 : Int} : WP m143 46 [.inr (.inl l0), .inl l1] [.inr (.inl 130)] σ Q = WP m143 49 [.inr (.inl l0), .inl l1] [.inr (.inl 134)] σ Q := (w_getR (c := 10) (n := 6) d143_46 (by decide +kernel) (by decide +kernel)).trans (g_and ⟨isO_dec (by decide +kernel), by decide +kernel⟩)
theorem d143_49 : adec m143 49 = some (.aload_n 0, 1) := by decide +kernel
theorem s143_49 {l0 : Nat} {l1 : Int} {x0 : Nat} : WP m143 49 [.inr (.inl l0), .inl l1] [.inr (.inl x0)] σ Q = WP m143 50 [.inr (.inl l0), .inl l1] [.inr (.inl l0), .inr (.inl x0)] σ Q := w_ld d143_49 rfl
theorem d143_50 : adec m143 50 = some (.getfield 33, 3) := by decide +kernel
theorem s143_50 {l0 : Nat} {l1 : Int} {x0 : Nat} : WP m143 50 [.inr (.inl l0), .inl l1] [.inr (.inl 130), .inr (.inl x0)] σ Q = WP m143 53 [.inr (.inl l0), .inl l1] [.inr (.inl 137), .inr (.inl x0)] σ Q := (w_getR (c := 10) (n := 12) d143_50 (by decide +kernel) (by decide +kernel)).trans (g_and ⟨isO_dec (by decide +kernel), by decide +kernel⟩)
theorem d143_53 : adec m143 53 = some (.aload_n 0, 1) := by decide +kernel
theorem s143_53 {l0 : Nat} {l1 : Int} {x0 : Nat} {x1 : Nat} : WP m143 53 [.inr (.inl l0), .inl l1] [.inr (.inl x1), .inr (.inl x0)] σ Q = WP m143 54 [.inr (.inl l0), .inl l1] [.inr (.inl l0), .inr (.inl x1), .inr (.inl x0)] σ Q := w_ld d143_53 rfl
theorem d143_54 : adec m143 54 = some (.getfield 124, 3) := by decide +kernel
theorem s143_54 {l0 : Nat} {l1 : Int} {x0 : Nat} {x1 : Nat} : WP m143 54 [.inr (.inl l0), .inl l1] [.inr (.inl 130), .inr (.inl x1), .inr (.inl x0)] σ Q = WP m143 57 [.inr (.inl l0), .inl l1] [.inl (σ 130 14), .inr (.inl x1), .inr (.inl x0)] σ Q := (w_getI (c := 10) (n := 14) d143_54 (by decide +kernel) (by decide +kernel)).trans (g_and (isO_dec (by decide +kernel)))
theorem d143_57 : adec m143 57 = some (.iaload, 1) := by decide +kernel
theorem s143_57 {l0 : Nat} {l1 : Int} {x0 : Nat} {x1 : Nat} {x2 : Int} : WP m143 57 [.inr (.inl l0), .inl l1] [.inl x2, .inr (.inl x1), .inr (.inl x0)] σ Q = ((kdS x1 = 20 ∧ 0 ≤ x2 ∧ x2 < ln x1) ∧ WP m143 58 [.inr (.inl l0), .inl l1] [.inl (σ x1 x2.toNat), .inr (.inl x0)] σ Q) := w_iald d143_57
theorem d143_58 : adec m143 58 = some (.iconst (0), 1) := by decide +kernel
theorem s143_58 {l0 : Nat} {l1 : Int} {x0 : Nat} {x1 : Int} : WP m143 58 [.inr (.inl l0), .inl l1] [.inl x1, .inr (.inl x0)] σ Q = WP m143 59 [.inr (.inl l0), .inl l1] [.inl (0), .inl x1, .inr (.inl x0)] σ Q := w_iconst d143_58 (by decide)
theorem d143_59 : adec m143 59 = some (.iastore, 1) := by decide +kernel
theorem s143_59 {l0 : Nat} {l1 : Int} {x0 : Nat} {x1 : Int} {x2 : Int} : WP m143 59 [.inr (.inl l0), .inl l1] [.inl x2, .inl x1, .inr (.inl x0)] σ Q = ((kdS x0 = 20 ∧ 0 ≤ x1 ∧ x1 < ln x0) ∧ WP m143 60 [.inr (.inl l0), .inl l1] [] (aup σ x0 x1.toNat x2) Q) := w_iast d143_59
theorem d143_60 : adec m143 60 = some (.aload_n 0, 1) := by decide +kernel
theorem s143_60 {l0 : Nat} {l1 : Int} : WP m143 60 [.inr (.inl l0), .inl l1] [] σ Q = WP m143 61 [.inr (.inl l0), .inl l1] [.inr (.inl l0)] σ Q := w_ld d143_60 rfl
theorem d143_61 : adec m143 61 = some (.dup, 1) := by decide +kernel
theorem s143_61 {l0 : Nat} {l1 : Int} {x0 : Nat} : WP m143 61 [.inr (.inl l0), .inl l1] [.inr (.inl x0)] σ Q = WP m143 62 [.inr (.inl l0), .inl l1] [.inr (.inl x0), .inr (.inl x0)] σ Q := w_ld d143_61 rfl
theorem d143_62 : adec m143 62 = some (.getfield 104, 3) := by decide +kernel
theorem s143_62 {l0 : Nat} {l1 : Int} {x0 : Nat} : WP m143 62 [.inr (.inl l0), .inl l1] [.inr (.inl 130), .inr (.inl x0)] σ Q = WP m143 65 [.inr (.inl l0), .inl l1] [.inl (σ 130 7), .inr (.inl x0)] σ Q := (w_getI (c := 10) (n := 7) d143_62 (by decide +kernel) (by decide +kernel)).trans (g_and (isO_dec (by decide +kernel)))
theorem d143_65 : adec m143 65 = some (.iconst (1), 1) := by decide +kernel
theorem s143_65 {l0 : Nat} {l1 : Int} {x0 : Nat} {x1 : Int} : WP m143 65 [.inr (.inl l0), .inl l1] [.inl x1, .inr (.inl x0)] σ Q = WP m143 66 [.inr (.inl l0), .inl l1] [.inl (1), .inl x1, .inr (.inl x0)] σ Q := w_iconst d143_65 (by decide)
theorem d143_66 : adec m143 66 = some (.iadd, 1) := by decide +kernel
theorem s143_66 {l0 : Nat} {l1 : Int} {x0 : Nat} {x1 : Int} {x2 : Int} : WP m143 66 [.inr (.inl l0), .inl l1] [.inl x2, .inl x1, .inr (.inl x0)] σ Q = (inI (x1 + x2) ∧ WP m143 67 [.inr (.inl l0), .inl l1] [.inl (x1 + x2), .inr (.inl x0)] σ Q) := w_iadd d143_66
theorem d143_67 : adec m143 67 = some (.putfield 104, 3) := by decide +kernel
theorem s143_67 {l0 : Nat} {l1 : Int} {x1 : Int} : WP m143 67 [.inr (.inl l0), .inl l1] [.inl x1, .inr (.inl 130)] σ Q = WP m143 70 [.inr (.inl l0), .inl l1] [] (aup σ 130 7 x1) Q := (w_putI (c := 10) (n := 7) d143_67 (by decide +kernel) (by decide +kernel) (by decide +kernel)).trans (g_and (isO_dec (by decide +kernel)))
theorem d143_70 : adec m143 70 = some (.return_, 1) := by decide +kernel
theorem s143_70 {l0 : Nat} {l1 : AV} : WP m143 70 [.inr (.inl l0), l1] [] σ Q = Q [] σ := w_rv d143_70 rfl
theorem e143 {p0 : Nat} : CA m143 [.inr (.inl p0)] σ Q = WP m143 0 [.inr (.inl p0), vU] [] σ Q := rfl
-- BinderPressModel.signOf(I)I
theorem d144_0 : adec m144 0 = some (.iload_n 0, 1) := by decide +kernel
theorem s144_0 {l0 : Int} : WP m144 0 [.inl l0] [] σ Q = WP m144 1 [.inl l0] [.inl l0] σ Q := w_ld d144_0 rfl
theorem d144_1 : adec m144 1 = some (.bipush (73), 2) := by decide +kernel
theorem s144_1 {l0 : Int} {x0 : Int} : WP m144 1 [.inl l0] [.inl x0] σ Q = WP m144 3 [.inl l0] [.inl (73), .inl x0] σ Q := w_bipush d144_1 (by decide)
theorem d144_3 : adec m144 3 = some (.if_icmp .ne (7), 3) := by decide +kernel
theorem s144_3 {l0 : Int} {x0 : Int} {x1 : Int} : WP m144 3 [.inl l0] [.inl x1, .inl x0] σ Q = (if x0 = x1 then WP m144 6 [.inl l0] [] σ Q else WP m144 10 [.inl l0] [] σ Q) := w_icne d144_3 (by decide)
theorem d144_6 : adec m144 6 = some (.iconst (1), 1) := by decide +kernel
theorem s144_6 {l0 : Int} : WP m144 6 [.inl l0] [] σ Q = WP m144 7 [.inl l0] [.inl (1)] σ Q := w_iconst d144_6 (by decide)
theorem d144_7 : adec m144 7 = some (.goto (44), 3) := by decide +kernel
theorem s144_7 {l0 : Int} {x0 : Int} : WP m144 7 [.inl l0] [.inl x0] σ Q = WP m144 51 [.inl l0] [.inl x0] σ Q := w_goto d144_7 (by decide)
theorem d144_10 : adec m144 10 = some (.iload_n 0, 1) := by decide +kernel
theorem s144_10 {l0 : Int} : WP m144 10 [.inl l0] [] σ Q = WP m144 11 [.inl l0] [.inl l0] σ Q := w_ld d144_10 rfl
theorem d144_11 : adec m144 11 = some (.bipush (75), 2) := by decide +kernel
theorem s144_11 {l0 : Int} {x0 : Int} : WP m144 11 [.inl l0] [.inl x0] σ Q = WP m144 13 [.inl l0] [.inl (75), .inl x0] σ Q := w_bipush d144_11 (by decide)
theorem d144_13 : adec m144 13 = some (.if_icmp .ne (7), 3) := by decide +kernel
theorem s144_13 {l0 : Int} {x0 : Int} {x1 : Int} : WP m144 13 [.inl l0] [.inl x1, .inl x0] σ Q = (if x0 = x1 then WP m144 16 [.inl l0] [] σ Q else WP m144 20 [.inl l0] [] σ Q) := w_icne d144_13 (by decide)
theorem d144_16 : adec m144 16 = some (.iconst (2), 1) := by decide +kernel
theorem s144_16 {l0 : Int} : WP m144 16 [.inl l0] [] σ Q = WP m144 17 [.inl l0] [.inl (2)] σ Q := w_iconst d144_16 (by decide)
theorem d144_17 : adec m144 17 = some (.goto (34), 3) := by decide +kernel
theorem s144_17 {l0 : Int} {x0 : Int} : WP m144 17 [.inl l0] [.inl x0] σ Q = WP m144 51 [.inl l0] [.inl x0] σ Q := w_goto d144_17 (by decide)
theorem d144_20 : adec m144 20 = some (.iload_n 0, 1) := by decide +kernel
theorem s144_20 {l0 : Int} : WP m144 20 [.inl l0] [] σ Q = WP m144 21 [.inl l0] [.inl l0] σ Q := w_ld d144_20 rfl
theorem d144_21 : adec m144 21 = some (.bipush (83), 2) := by decide +kernel
theorem s144_21 {l0 : Int} {x0 : Int} : WP m144 21 [.inl l0] [.inl x0] σ Q = WP m144 23 [.inl l0] [.inl (83), .inl x0] σ Q := w_bipush d144_21 (by decide)
theorem d144_23 : adec m144 23 = some (.if_icmp .ne (7), 3) := by decide +kernel
theorem s144_23 {l0 : Int} {x0 : Int} {x1 : Int} : WP m144 23 [.inl l0] [.inl x1, .inl x0] σ Q = (if x0 = x1 then WP m144 26 [.inl l0] [] σ Q else WP m144 30 [.inl l0] [] σ Q) := w_icne d144_23 (by decide)
theorem d144_26 : adec m144 26 = some (.iconst (3), 1) := by decide +kernel
theorem s144_26 {l0 : Int} : WP m144 26 [.inl l0] [] σ Q = WP m144 27 [.inl l0] [.inl (3)] σ Q := w_iconst d144_26 (by decide)
theorem d144_27 : adec m144 27 = some (.goto (24), 3) := by decide +kernel
theorem s144_27 {l0 : Int} {x0 : Int} : WP m144 27 [.inl l0] [.inl x0] σ Q = WP m144 51 [.inl l0] [.inl x0] σ Q := w_goto d144_27 (by decide)
theorem d144_30 : adec m144 30 = some (.iload_n 0, 1) := by decide +kernel
theorem s144_30 {l0 : Int} : WP m144 30 [.inl l0] [] σ Q = WP m144 31 [.inl l0] [.inl l0] σ Q := w_ld d144_30 rfl
theorem d144_31 : adec m144 31 = some (.bipush (66), 2) := by decide +kernel
theorem s144_31 {l0 : Int} {x0 : Int} : WP m144 31 [.inl l0] [.inl x0] σ Q = WP m144 33 [.inl l0] [.inl (66), .inl x0] σ Q := w_bipush d144_31 (by decide)
theorem d144_33 : adec m144 33 = some (.if_icmp .ne (7), 3) := by decide +kernel
theorem s144_33 {l0 : Int} {x0 : Int} {x1 : Int} : WP m144 33 [.inl l0] [.inl x1, .inl x0] σ Q = (if x0 = x1 then WP m144 36 [.inl l0] [] σ Q else WP m144 40 [.inl l0] [] σ Q) := w_icne d144_33 (by decide)
theorem d144_36 : adec m144 36 = some (.iconst (4), 1) := by decide +kernel
theorem s144_36 {l0 : Int} : WP m144 36 [.inl l0] [] σ Q = WP m144 37 [.inl l0] [.inl (4)] σ Q := w_iconst d144_36 (by decide)
theorem d144_37 : adec m144 37 = some (.goto (14), 3) := by decide +kernel
theorem s144_37 {l0 : Int} {x0 : Int} : WP m144 37 [.inl l0] [.inl x0] σ Q = WP m144 51 [.inl l0] [.inl x0] σ Q := w_goto d144_37 (by decide)
theorem d144_40 : adec m144 40 = some (.iload_n 0, 1) := by decide +kernel
theorem s144_40 {l0 : Int} : WP m144 40 [.inl l0] [] σ Q = WP m144 41 [.inl l0] [.inl l0] σ Q := w_ld d144_40 rfl
theorem d144_41 : adec m144 41 = some (.bipush (67), 2) := by decide +kernel
theorem s144_41 {l0 : Int} {x0 : Int} : WP m144 41 [.inl l0] [.inl x0] σ Q = WP m144 43 [.inl l0] [.inl (67), .inl x0] σ Q := w_bipush d144_41 (by decide)
theorem d144_43 : adec m144 43 = some (.if_icmp .ne (7), 3) := by decide +kernel
theorem s144_43 {l0 : Int} {x0 : Int} {x1 : Int} : WP m144 43 [.inl l0] [.inl x1, .inl x0] σ Q = (if x0 = x1 then WP m144 46 [.inl l0] [] σ Q else WP m144 50 [.inl l0] [] σ Q) := w_icne d144_43 (by decide)
theorem d144_46 : adec m144 46 = some (.iconst (5), 1) := by decide +kernel
theorem s144_46 {l0 : Int} : WP m144 46 [.inl l0] [] σ Q = WP m144 47 [.inl l0] [.inl (5)] σ Q := w_iconst d144_46 (by decide)
theorem d144_47 : adec m144 47 = some (.goto (4), 3) := by decide +kernel
theorem s144_47 {l0 : Int} {x0 : Int} : WP m144 47 [.inl l0] [.inl x0] σ Q = WP m144 51 [.inl l0] [.inl x0] σ Q := w_goto d144_47 (by decide)
theorem d144_50 : adec m144 50 = some (.iconst (-1), 1) := by decide +kernel
theorem s144_50 {l0 : Int} : WP m144 50 [.inl l0] [] σ Q = WP m144 51 [.inl l0] [.inl (-1)] σ Q := w_iconst d144_50 (by decide)
theorem d144_51 : adec m144 51 = some (.ireturn, 1) := by decide +kernel
theorem s144_51 {l0 : Int} {x0 : Int} : WP m144 51 [.inl l0] [.inl x0] σ Q = Q [.inl x0] σ := w_ri d144_51 rfl
theorem e144 {p0 : Int} : CA m144 [.inl p0] σ Q = WP m144 0 [.inl p0] [] σ Q := rfl
-- BinderPressModel.ends(Z)Z
theorem d145_0 : adec m145 0 = some (.aload_n 0, 1) := by decide +kernel
theorem s145_0 {l0 : Nat} {l1 : Int} {l2 : AV} : WP m145 0 [.inr (.inl l0), .inl l1, l2] [] σ Q = WP m145 1 [.inr (.inl l0), .inl l1, l2] [.inr (.inl l0)] σ Q := w_ld d145_0 rfl
theorem d145_1 : adec m145 1 = some (.invokevirtual 127, 3) := by decide +kernel
theorem s145_1 {l0 : Nat} {l1 : Int} {l2 : AV} : WP m145 1 [.inr (.inl l0), .inl l1, l2] [.inr (.inl 130)] σ Q = CA m142 [.inr (.inl 130)] σ (fun v σ2 => WP m145 4 [.inr (.inl l0), .inl l1, l2] (v ++ []) σ2 Q) := (w_cV (k := 142) d145_1 (by decide +kernel) m142_at rfl rfl ⟨Nat.le_of_ble_eq_true rfl, Nat.le_of_ble_eq_true rfl, Nat.le_of_ble_eq_true rfl⟩ (by decide)).trans (g_and (isO_dec (by decide +kernel)))
theorem d145_4 : adec m145 4 = some (.ifCond .ne (5), 3) := by decide +kernel
theorem s145_4 {l0 : Nat} {l1 : Int} {l2 : AV} {x0 : Int} : WP m145 4 [.inr (.inl l0), .inl l1, l2] [.inl x0] σ Q = (if x0 = 0 then WP m145 7 [.inr (.inl l0), .inl l1, l2] [] σ Q else WP m145 9 [.inr (.inl l0), .inl l1, l2] [] σ Q) := w_ifne d145_4 (by decide)
theorem d145_7 : adec m145 7 = some (.iconst (0), 1) := by decide +kernel
theorem s145_7 {l0 : Nat} {l1 : Int} {l2 : AV} : WP m145 7 [.inr (.inl l0), .inl l1, l2] [] σ Q = WP m145 8 [.inr (.inl l0), .inl l1, l2] [.inl (0)] σ Q := w_iconst d145_7 (by decide)
theorem d145_8 : adec m145 8 = some (.ireturn, 1) := by decide +kernel
theorem s145_8 {l0 : Nat} {l1 : Int} {l2 : AV} {x0 : Int} : WP m145 8 [.inr (.inl l0), .inl l1, l2] [.inl x0] σ Q = ((x0 = 0 ∨ x0 = 1) ∧ Q [.inl x0] σ) := w_rz d145_8 rfl
theorem d145_9 : adec m145 9 = some (.aload_n 0, 1) := by decide +kernel
theorem s145_9 {l0 : Nat} {l1 : Int} {l2 : AV} : WP m145 9 [.inr (.inl l0), .inl l1, l2] [] σ Q = WP m145 10 [.inr (.inl l0), .inl l1, l2] [.inr (.inl l0)] σ Q := w_ld d145_9 rfl
theorem d145_10 : adec m145 10 = some (.getfield 36, 3) := by decide +kernel
theorem s145_10 {l0 : Nat} {l1 : Int} {l2 : AV} : WP m145 10 [.inr (.inl l0), .inl l1, l2] [.inr (.inl 130)] σ Q = WP m145 13 [.inr (.inl l0), .inl l1, l2] [.inr (.inl 138)] σ Q := (w_getR (c := 10) (n := 13) d145_10 (by decide +kernel) (by decide +kernel)).trans (g_and ⟨isO_dec (by decide +kernel), by decide +kernel⟩)
theorem d145_13 : adec m145 13 = some (.aload_n 0, 1) := by decide +kernel
theorem s145_13 {l0 : Nat} {l1 : Int} {l2 : AV} {x0 : Nat} : WP m145 13 [.inr (.inl l0), .inl l1, l2] [.inr (.inl x0)] σ Q = WP m145 14 [.inr (.inl l0), .inl l1, l2] [.inr (.inl l0), .inr (.inl x0)] σ Q := w_ld d145_13 rfl
theorem d145_14 : adec m145 14 = some (.getfield 124, 3) := by decide +kernel
theorem s145_14 {l0 : Nat} {l1 : Int} {l2 : AV} {x0 : Nat} : WP m145 14 [.inr (.inl l0), .inl l1, l2] [.inr (.inl 130), .inr (.inl x0)] σ Q = WP m145 17 [.inr (.inl l0), .inl l1, l2] [.inl (σ 130 14), .inr (.inl x0)] σ Q := (w_getI (c := 10) (n := 14) d145_14 (by decide +kernel) (by decide +kernel)).trans (g_and (isO_dec (by decide +kernel)))
theorem d145_17 : adec m145 17 = some (.baload, 1) := by decide +kernel
theorem s145_17 {l0 : Nat} {l1 : Int} {l2 : AV} {x0 : Nat} {x1 : Int} : WP m145 17 [.inr (.inl l0), .inl l1, l2] [.inl x1, .inr (.inl x0)] σ Q = ((kdS x0 = 21 ∧ 0 ≤ x1 ∧ x1 < ln x0) ∧ WP m145 18 [.inr (.inl l0), .inl l1, l2] [.inl (σ x0 x1.toNat)] σ Q) := w_zald d145_17
theorem d145_18 : adec m145 18 = some (.ifCond .eq (16), 3) := by decide +kernel
theorem s145_18 {l0 : Nat} {l1 : Int} {l2 : AV} {x0 : Int} : WP m145 18 [.inr (.inl l0), .inl l1, l2] [.inl x0] σ Q = (if x0 = 0 then WP m145 34 [.inr (.inl l0), .inl l1, l2] [] σ Q else WP m145 21 [.inr (.inl l0), .inl l1, l2] [] σ Q) := w_ifeq d145_18 (by decide)
theorem d145_21 : adec m145 21 = some (.aload_n 0, 1) := by decide +kernel
theorem s145_21 {l0 : Nat} {l1 : Int} {l2 : AV} : WP m145 21 [.inr (.inl l0), .inl l1, l2] [] σ Q = WP m145 22 [.inr (.inl l0), .inl l1, l2] [.inr (.inl l0)] σ Q := w_ld d145_21 rfl
theorem d145_22 : adec m145 22 = some (.dup, 1) := by decide +kernel
theorem s145_22 {l0 : Nat} {l1 : Int} {l2 : AV} {x0 : Nat} : WP m145 22 [.inr (.inl l0), .inl l1, l2] [.inr (.inl x0)] σ Q = WP m145 23 [.inr (.inl l0), .inl l1, l2] [.inr (.inl x0), .inr (.inl x0)] σ Q := w_ld d145_22 rfl
theorem d145_23 : adec m145 23 = some (.getfield 124, 3) := by decide +kernel
theorem s145_23 {l0 : Nat} {l1 : Int} {l2 : AV} {x0 : Nat} : WP m145 23 [.inr (.inl l0), .inl l1, l2] [.inr (.inl 130), .inr (.inl x0)] σ Q = WP m145 26 [.inr (.inl l0), .inl l1, l2] [.inl (σ 130 14), .inr (.inl x0)] σ Q := (w_getI (c := 10) (n := 14) d145_23 (by decide +kernel) (by decide +kernel)).trans (g_and (isO_dec (by decide +kernel)))
theorem d145_26 : adec m145 26 = some (.iconst (1), 1) := by decide +kernel
theorem s145_26 {l0 : Nat} {l1 : Int} {l2 : AV} {x0 : Nat} {x1 : Int} : WP m145 26 [.inr (.inl l0), .inl l1, l2] [.inl x1, .inr (.inl x0)] σ Q = WP m145 27 [.inr (.inl l0), .inl l1, l2] [.inl (1), .inl x1, .inr (.inl x0)] σ Q := w_iconst d145_26 (by decide)
theorem d145_27 : adec m145 27 = some (.isub, 1) := by decide +kernel
theorem s145_27 {l0 : Nat} {l1 : Int} {l2 : AV} {x0 : Nat} {x1 : Int} {x2 : Int} : WP m145 27 [.inr (.inl l0), .inl l1, l2] [.inl x2, .inl x1, .inr (.inl x0)] σ Q = (inI (x1 - x2) ∧ WP m145 28 [.inr (.inl l0), .inl l1, l2] [.inl (x1 - x2), .inr (.inl x0)] σ Q) := w_isub d145_27
theorem d145_28 : adec m145 28 = some (.putfield 124, 3) := by decide +kernel
theorem s145_28 {l0 : Nat} {l1 : Int} {l2 : AV} {x1 : Int} : WP m145 28 [.inr (.inl l0), .inl l1, l2] [.inl x1, .inr (.inl 130)] σ Q = WP m145 31 [.inr (.inl l0), .inl l1, l2] [] (aup σ 130 14 x1) Q := (w_putI (c := 10) (n := 14) d145_28 (by decide +kernel) (by decide +kernel) (by decide +kernel)).trans (g_and (isO_dec (by decide +kernel)))
theorem d145_31 : adec m145 31 = some (.goto (-22), 3) := by decide +kernel
theorem s145_31 {l0 : Nat} {l1 : Int} {l2 : AV} : WP m145 31 [.inr (.inl l0), .inl l1, l2] [] σ Q = WP m145 9 [.inr (.inl l0), .inl l1, l2] [] σ Q := w_goto d145_31 (by decide)
theorem d145_34 : adec m145 34 = some (.iload_n 1, 1) := by decide +kernel
theorem s145_34 {l0 : Nat} {l1 : Int} {l2 : AV} : WP m145 34 [.inr (.inl l0), .inl l1, l2] [] σ Q = WP m145 35 [.inr (.inl l0), .inl l1, l2] [.inl l1] σ Q := w_ld d145_34 rfl
theorem d145_35 : adec m145 35 = some (.aload_n 0, 1) := by decide +kernel
theorem s145_35 {l0 : Nat} {l1 : Int} {l2 : AV} {x0 : Int} : WP m145 35 [.inr (.inl l0), .inl l1, l2] [.inl x0] σ Q = WP m145 36 [.inr (.inl l0), .inl l1, l2] [.inr (.inl l0), .inl x0] σ Q := w_ld d145_35 rfl
theorem d145_36 : adec m145 36 = some (.getfield 124, 3) := by decide +kernel
theorem s145_36 {l0 : Nat} {l1 : Int} {l2 : AV} {x0 : Int} : WP m145 36 [.inr (.inl l0), .inl l1, l2] [.inr (.inl 130), .inl x0] σ Q = WP m145 39 [.inr (.inl l0), .inl l1, l2] [.inl (σ 130 14), .inl x0] σ Q := (w_getI (c := 10) (n := 14) d145_36 (by decide +kernel) (by decide +kernel)).trans (g_and (isO_dec (by decide +kernel)))
theorem d145_39 : adec m145 39 = some (.ifCond .le (7), 3) := by decide +kernel
theorem s145_39 {l0 : Nat} {l1 : Int} {l2 : AV} {x0 : Int} {x1 : Int} : WP m145 39 [.inr (.inl l0), .inl l1, l2] [.inl x1, .inl x0] σ Q = (if x1 ≤ 0 then WP m145 46 [.inr (.inl l0), .inl l1, l2] [.inl x0] σ Q else WP m145 42 [.inr (.inl l0), .inl l1, l2] [.inl x0] σ Q) := w_ifle d145_39 (by decide)
theorem d145_42 : adec m145 42 = some (.iconst (1), 1) := by decide +kernel
theorem s145_42 {l0 : Nat} {l1 : Int} {l2 : AV} {x0 : Int} : WP m145 42 [.inr (.inl l0), .inl l1, l2] [.inl x0] σ Q = WP m145 43 [.inr (.inl l0), .inl l1, l2] [.inl (1), .inl x0] σ Q := w_iconst d145_42 (by decide)
theorem d145_43 : adec m145 43 = some (.goto (4), 3) := by decide +kernel
theorem s145_43 {l0 : Nat} {l1 : Int} {l2 : AV} {x0 : Int} {x1 : Int} : WP m145 43 [.inr (.inl l0), .inl l1, l2] [.inl x1, .inl x0] σ Q = WP m145 47 [.inr (.inl l0), .inl l1, l2] [.inl x1, .inl x0] σ Q := w_goto d145_43 (by decide)
theorem d145_46 : adec m145 46 = some (.iconst (0), 1) := by decide +kernel
theorem s145_46 {l0 : Nat} {l1 : Int} {l2 : AV} {x0 : Int} : WP m145 46 [.inr (.inl l0), .inl l1, l2] [.inl x0] σ Q = WP m145 47 [.inr (.inl l0), .inl l1, l2] [.inl (0), .inl x0] σ Q := w_iconst d145_46 (by decide)
theorem d145_47 : adec m145 47 = some (.if_icmp .ne (7), 3) := by decide +kernel
theorem s145_47 {l0 : Nat} {l1 : Int} {l2 : AV} {x0 : Int} {x1 : Int} : WP m145 47 [.inr (.inl l0), .inl l1, l2] [.inl x1, .inl x0] σ Q = (if x0 = x1 then WP m145 50 [.inr (.inl l0), .inl l1, l2] [] σ Q else WP m145 54 [.inr (.inl l0), .inl l1, l2] [] σ Q) := w_icne d145_47 (by decide)
theorem d145_50 : adec m145 50 = some (.iconst (1), 1) := by decide +kernel
theorem s145_50 {l0 : Nat} {l1 : Int} {l2 : AV} : WP m145 50 [.inr (.inl l0), .inl l1, l2] [] σ Q = WP m145 51 [.inr (.inl l0), .inl l1, l2] [.inl (1)] σ Q := w_iconst d145_50 (by decide)
theorem d145_51 : adec m145 51 = some (.goto (4), 3) := by decide +kernel
theorem s145_51 {l0 : Nat} {l1 : Int} {l2 : AV} {x0 : Int} : WP m145 51 [.inr (.inl l0), .inl l1, l2] [.inl x0] σ Q = WP m145 55 [.inr (.inl l0), .inl l1, l2] [.inl x0] σ Q := w_goto d145_51 (by decide)
theorem d145_54 : adec m145 54 = some (.iconst (0), 1) := by decide +kernel
theorem s145_54 {l0 : Nat} {l1 : Int} {l2 : AV} : WP m145 54 [.inr (.inl l0), .inl l1, l2] [] σ Q = WP m145 55 [.inr (.inl l0), .inl l1, l2] [.inl (0)] σ Q := w_iconst d145_54 (by decide)
theorem d145_55 : adec m145 55 = some (.istore_n 2, 1) := by decide +kernel
theorem s145_55 {l0 : Nat} {l1 : Int} {l2 : AV} {x0 : Int} : WP m145 55 [.inr (.inl l0), .inl l1, l2] [.inl x0] σ Q = WP m145 56 [.inr (.inl l0), .inl l1, .inl x0] [] σ Q := w_st1 (j := 2) d145_55 rfl (Nat.le_of_ble_eq_true rfl) rfl
theorem d145_56 : adec m145 56 = some (.aload_n 0, 1) := by decide +kernel
theorem s145_56 {l0 : Nat} {l1 : Int} {l2 : Int} : WP m145 56 [.inr (.inl l0), .inl l1, .inl l2] [] σ Q = WP m145 57 [.inr (.inl l0), .inl l1, .inl l2] [.inr (.inl l0)] σ Q := w_ld d145_56 rfl
theorem d145_57 : adec m145 57 = some (.dup, 1) := by decide +kernel
theorem s145_57 {l0 : Nat} {l1 : Int} {l2 : Int} {x0 : Nat} : WP m145 57 [.inr (.inl l0), .inl l1, .inl l2] [.inr (.inl x0)] σ Q = WP m145 58 [.inr (.inl l0), .inl l1, .inl l2] [.inr (.inl x0), .inr (.inl x0)] σ Q := w_ld d145_57 rfl
theorem d145_58 : adec m145 58 = some (.getfield 124, 3) := by decide +kernel
theorem s145_58 {l0 : Nat} {l1 : Int} {l2 : Int} {x0 : Nat} : WP m145 58 [.inr (.inl l0), .inl l1, .inl l2] [.inr (.inl 130), .inr (.inl x0)] σ Q = WP m145 61 [.inr (.inl l0), .inl l1, .inl l2] [.inl (σ 130 14), .inr (.inl x0)] σ Q := (w_getI (c := 10) (n := 14) d145_58 (by decide +kernel) (by decide +kernel)).trans (g_and (isO_dec (by decide +kernel)))
theorem d145_61 : adec m145 61 = some (.iload_n 2, 1) := by decide +kernel
theorem s145_61 {l0 : Nat} {l1 : Int} {l2 : Int} {x0 : Nat} {x1 : Int} : WP m145 61 [.inr (.inl l0), .inl l1, .inl l2] [.inl x1, .inr (.inl x0)] σ Q = WP m145 62 [.inr (.inl l0), .inl l1, .inl l2] [.inl l2, .inl x1, .inr (.inl x0)] σ Q := w_ld d145_61 rfl
theorem d145_62 : adec m145 62 = some (.ifCond .eq (11), 3) := by decide +kernel
theorem s145_62 {l0 : Nat} {l1 : Int} {l2 : Int} {x0 : Nat} {x1 : Int} {x2 : Int} : WP m145 62 [.inr (.inl l0), .inl l1, .inl l2] [.inl x2, .inl x1, .inr (.inl x0)] σ Q = (if x2 = 0 then WP m145 73 [.inr (.inl l0), .inl l1, .inl l2] [.inl x1, .inr (.inl x0)] σ Q else WP m145 65 [.inr (.inl l0), .inl l1, .inl l2] [.inl x1, .inr (.inl x0)] σ Q) := w_ifeq d145_62 (by decide)
theorem d145_65 : adec m145 65 = some (.iload_n 1, 1) := by decide +kernel
theorem s145_65 {l0 : Nat} {l1 : Int} {l2 : Int} {x0 : Nat} {x1 : Int} : WP m145 65 [.inr (.inl l0), .inl l1, .inl l2] [.inl x1, .inr (.inl x0)] σ Q = WP m145 66 [.inr (.inl l0), .inl l1, .inl l2] [.inl l1, .inl x1, .inr (.inl x0)] σ Q := w_ld d145_65 rfl
theorem d145_66 : adec m145 66 = some (.ifCond .eq (7), 3) := by decide +kernel
theorem s145_66 {l0 : Nat} {l1 : Int} {l2 : Int} {x0 : Nat} {x1 : Int} {x2 : Int} : WP m145 66 [.inr (.inl l0), .inl l1, .inl l2] [.inl x2, .inl x1, .inr (.inl x0)] σ Q = (if x2 = 0 then WP m145 73 [.inr (.inl l0), .inl l1, .inl l2] [.inl x1, .inr (.inl x0)] σ Q else WP m145 69 [.inr (.inl l0), .inl l1, .inl l2] [.inl x1, .inr (.inl x0)] σ Q) := w_ifeq d145_66 (by decide)
theorem d145_69 : adec m145 69 = some (.iconst (1), 1) := by decide +kernel
theorem s145_69 {l0 : Nat} {l1 : Int} {l2 : Int} {x0 : Nat} {x1 : Int} : WP m145 69 [.inr (.inl l0), .inl l1, .inl l2] [.inl x1, .inr (.inl x0)] σ Q = WP m145 70 [.inr (.inl l0), .inl l1, .inl l2] [.inl (1), .inl x1, .inr (.inl x0)] σ Q := w_iconst d145_69 (by decide)
theorem d145_70 : adec m145 70 = some (.goto (4), 3) := by decide +kernel
theorem s145_70 {l0 : Nat} {l1 : Int} {l2 : Int} {x0 : Nat} {x1 : Int} {x2 : Int} : WP m145 70 [.inr (.inl l0), .inl l1, .inl l2] [.inl x2, .inl x1, .inr (.inl x0)] σ Q = WP m145 74 [.inr (.inl l0), .inl l1, .inl l2] [.inl x2, .inl x1, .inr (.inl x0)] σ Q := w_goto d145_70 (by decide)
theorem d145_73 : adec m145 73 = some (.iconst (0), 1) := by decide +kernel
theorem s145_73 {l0 : Nat} {l1 : Int} {l2 : Int} {x0 : Nat} {x1 : Int} : WP m145 73 [.inr (.inl l0), .inl l1, .inl l2] [.inl x1, .inr (.inl x0)] σ Q = WP m145 74 [.inr (.inl l0), .inl l1, .inl l2] [.inl (0), .inl x1, .inr (.inl x0)] σ Q := w_iconst d145_73 (by decide)
theorem d145_74 : adec m145 74 = some (.isub, 1) := by decide +kernel
theorem s145_74 {l0 : Nat} {l1 : Int} {l2 : Int} {x0 : Nat} {x1 : Int} {x2 : Int} : WP m145 74 [.inr (.inl l0), .inl l1, .inl l2] [.inl x2, .inl x1, .inr (.inl x0)] σ Q = (inI (x1 - x2) ∧ WP m145 75 [.inr (.inl l0), .inl l1, .inl l2] [.inl (x1 - x2), .inr (.inl x0)] σ Q) := w_isub d145_74
theorem d145_75 : adec m145 75 = some (.putfield 124, 3) := by decide +kernel
theorem s145_75 {l0 : Nat} {l1 : Int} {l2 : Int} {x1 : Int} : WP m145 75 [.inr (.inl l0), .inl l1, .inl l2] [.inl x1, .inr (.inl 130)] σ Q = WP m145 78 [.inr (.inl l0), .inl l1, .inl l2] [] (aup σ 130 14 x1) Q := (w_putI (c := 10) (n := 14) d145_75 (by decide +kernel) (by decide +kernel) (by decide +kernel)).trans (g_and (isO_dec (by decide +kernel)))
theorem d145_78 : adec m145 78 = some (.iload_n 2, 1) := by decide +kernel
theorem s145_78 {l0 : Nat} {l1 : Int} {l2 : Int} : WP m145 78 [.inr (.inl l0), .inl l1, .inl l2] [] σ Q = WP m145 79 [.inr (.inl l0), .inl l1, .inl l2] [.inl l2] σ Q := w_ld d145_78 rfl
theorem d145_79 : adec m145 79 = some (.ireturn, 1) := by decide +kernel
theorem s145_79 {l0 : Nat} {l1 : Int} {l2 : Int} {x0 : Int} : WP m145 79 [.inr (.inl l0), .inl l1, .inl l2] [.inl x0] σ Q = ((x0 = 0 ∨ x0 = 1) ∧ Q [.inl x0] σ) := w_rz d145_79 rfl
theorem e145 {p0 : Nat} {p1 : Int} : CA m145 [.inr (.inl p0), .inl p1] σ Q = WP m145 0 [.inr (.inl p0), .inl p1, vU] [] σ Q := rfl
-- BinderPressModel.reads(I)I
theorem d146_0 : adec m146 0 = some (.iload_n 1, 1) := by decide +kernel
theorem s146_0 {l0 : Nat} {l1 : Int} {l2 : AV} : WP m146 0 [.inr (.inl l0), .inl l1, l2] [] σ Q = WP m146 1 [.inr (.inl l0), .inl l1, l2] [.inl l1] σ Q := w_ld d146_0 rfl
theorem d146_1 : adec m146 1 = some (.bipush (32), 2) := by decide +kernel
theorem s146_1 {l0 : Nat} {l1 : Int} {l2 : AV} {x0 : Int} : WP m146 1 [.inr (.inl l0), .inl l1, l2] [.inl x0] σ Q = WP m146 3 [.inr (.inl l0), .inl l1, l2] [.inl (32), .inl x0] σ Q := w_bipush d146_1 (by decide)
theorem d146_3 : adec m146 3 = some (.if_icmp .ne (5), 3) := by decide +kernel
theorem s146_3 {l0 : Nat} {l1 : Int} {l2 : AV} {x0 : Int} {x1 : Int} : WP m146 3 [.inr (.inl l0), .inl l1, l2] [.inl x1, .inl x0] σ Q = (if x0 = x1 then WP m146 6 [.inr (.inl l0), .inl l1, l2] [] σ Q else WP m146 8 [.inr (.inl l0), .inl l1, l2] [] σ Q) := w_icne d146_3 (by decide)
theorem d146_6 : adec m146 6 = some (.iconst (0), 1) := by decide +kernel
theorem s146_6 {l0 : Nat} {l1 : Int} {l2 : AV} : WP m146 6 [.inr (.inl l0), .inl l1, l2] [] σ Q = WP m146 7 [.inr (.inl l0), .inl l1, l2] [.inl (0)] σ Q := w_iconst d146_6 (by decide)
theorem d146_7 : adec m146 7 = some (.ireturn, 1) := by decide +kernel
theorem s146_7 {l0 : Nat} {l1 : Int} {l2 : AV} {x0 : Int} : WP m146 7 [.inr (.inl l0), .inl l1, l2] [.inl x0] σ Q = Q [.inl x0] σ := w_ri d146_7 rfl
theorem d146_8 : adec m146 8 = some (.aload_n 0, 1) := by decide +kernel
theorem s146_8 {l0 : Nat} {l1 : Int} {l2 : AV} : WP m146 8 [.inr (.inl l0), .inl l1, l2] [] σ Q = WP m146 9 [.inr (.inl l0), .inl l1, l2] [.inr (.inl l0)] σ Q := w_ld d146_8 rfl
theorem d146_9 : adec m146 9 = some (.getfield 131, 3) := by decide +kernel
theorem s146_9 {l0 : Nat} {l1 : Int} {l2 : AV} : WP m146 9 [.inr (.inl l0), .inl l1, l2] [.inr (.inl 130)] σ Q = WP m146 12 [.inr (.inl l0), .inl l1, l2] [.inl (σ 130 15)] σ Q := (w_getI (c := 10) (n := 15) d146_9 (by decide +kernel) (by decide +kernel)).trans (g_and (isO_dec (by decide +kernel)))
theorem d146_12 : adec m146 12 = some (.iconst (1), 1) := by decide +kernel
theorem s146_12 {l0 : Nat} {l1 : Int} {l2 : AV} {x0 : Int} : WP m146 12 [.inr (.inl l0), .inl l1, l2] [.inl x0] σ Q = WP m146 13 [.inr (.inl l0), .inl l1, l2] [.inl (1), .inl x0] σ Q := w_iconst d146_12 (by decide)
theorem d146_13 : adec m146 13 = some (.if_icmp .ne (37), 3) := by decide +kernel
theorem s146_13 {l0 : Nat} {l1 : Int} {l2 : AV} {x0 : Int} {x1 : Int} : WP m146 13 [.inr (.inl l0), .inl l1, l2] [.inl x1, .inl x0] σ Q = (if x0 = x1 then WP m146 16 [.inr (.inl l0), .inl l1, l2] [] σ Q else WP m146 50 [.inr (.inl l0), .inl l1, l2] [] σ Q) := w_icne d146_13 (by decide)
theorem d146_16 : adec m146 16 = some (.aload_n 0, 1) := by decide +kernel
theorem s146_16 {l0 : Nat} {l1 : Int} {l2 : AV} : WP m146 16 [.inr (.inl l0), .inl l1, l2] [] σ Q = WP m146 17 [.inr (.inl l0), .inl l1, l2] [.inr (.inl l0)] σ Q := w_ld d146_16 rfl
theorem d146_17 : adec m146 17 = some (.getfield 24, 3) := by decide +kernel
theorem s146_17 {l0 : Nat} {l1 : Int} {l2 : AV} : WP m146 17 [.inr (.inl l0), .inl l1, l2] [.inr (.inl 130)] σ Q = WP m146 20 [.inr (.inl l0), .inl l1, l2] [.inr (.inl 134)] σ Q := (w_getR (c := 10) (n := 6) d146_17 (by decide +kernel) (by decide +kernel)).trans (g_and ⟨isO_dec (by decide +kernel), by decide +kernel⟩)
theorem d146_20 : adec m146 20 = some (.aload_n 0, 1) := by decide +kernel
theorem s146_20 {l0 : Nat} {l1 : Int} {l2 : AV} {x0 : Nat} : WP m146 20 [.inr (.inl l0), .inl l1, l2] [.inr (.inl x0)] σ Q = WP m146 21 [.inr (.inl l0), .inl l1, l2] [.inr (.inl l0), .inr (.inl x0)] σ Q := w_ld d146_20 rfl
theorem d146_21 : adec m146 21 = some (.getfield 104, 3) := by decide +kernel
theorem s146_21 {l0 : Nat} {l1 : Int} {l2 : AV} {x0 : Nat} : WP m146 21 [.inr (.inl l0), .inl l1, l2] [.inr (.inl 130), .inr (.inl x0)] σ Q = WP m146 24 [.inr (.inl l0), .inl l1, l2] [.inl (σ 130 7), .inr (.inl x0)] σ Q := (w_getI (c := 10) (n := 7) d146_21 (by decide +kernel) (by decide +kernel)).trans (g_and (isO_dec (by decide +kernel)))
theorem d146_24 : adec m146 24 = some (.iconst (1), 1) := by decide +kernel
theorem s146_24 {l0 : Nat} {l1 : Int} {l2 : AV} {x0 : Nat} {x1 : Int} : WP m146 24 [.inr (.inl l0), .inl l1, l2] [.inl x1, .inr (.inl x0)] σ Q = WP m146 25 [.inr (.inl l0), .inl l1, l2] [.inl (1), .inl x1, .inr (.inl x0)] σ Q := w_iconst d146_24 (by decide)
theorem d146_25 : adec m146 25 = some (.isub, 1) := by decide +kernel
theorem s146_25 {l0 : Nat} {l1 : Int} {l2 : AV} {x0 : Nat} {x1 : Int} {x2 : Int} : WP m146 25 [.inr (.inl l0), .inl l1, l2] [.inl x2, .inl x1, .inr (.inl x0)] σ Q = (inI (x1 - x2) ∧ WP m146 26 [.inr (.inl l0), .inl l1, l2] [.inl (x1 - x2), .inr (.inl x0)] σ Q) := w_isub d146_25
theorem d146_26 : adec m146 26 = some (.sipush (1000), 3) := by decide +kernel
theorem s146_26 {l0 : Nat} {l1 : Int} {l2 : AV} {x0 : Nat} {x1 : Int} : WP m146 26 [.inr (.inl l0), .inl l1, l2] [.inl x1, .inr (.inl x0)] σ Q = WP m146 29 [.inr (.inl l0), .inl l1, l2] [.inl (1000), .inl x1, .inr (.inl x0)] σ Q := w_sipush d146_26 (by decide)
theorem d146_29 : adec m146 29 = some (.iload_n 1, 1) := by decide +kernel
theorem s146_29 {l0 : Nat} {l1 : Int} {l2 : AV} {x0 : Nat} {x1 : Int} {x2 : Int} : WP m146 29 [.inr (.inl l0), .inl l1, l2] [.inl x2, .inl x1, .inr (.inl x0)] σ Q = WP m146 30 [.inr (.inl l0), .inl l1, l2] [.inl l1, .inl x2, .inl x1, .inr (.inl x0)] σ Q := w_ld d146_29 rfl
theorem d146_30 : adec m146 30 = some (.iadd, 1) := by decide +kernel
theorem s146_30 {l0 : Nat} {l1 : Int} {l2 : AV} {x0 : Nat} {x1 : Int} {x2 : Int} {x3 : Int} : WP m146 30 [.inr (.inl l0), .inl l1, l2] [.inl x3, .inl x2, .inl x1, .inr (.inl x0)] σ Q = (inI (x2 + x3) ∧ WP m146 31 [.inr (.inl l0), .inl l1, l2] [.inl (x2 + x3), .inl x1, .inr (.inl x0)] σ Q) := w_iadd d146_30
theorem d146_31 : adec m146 31 = some (.iastore, 1) := by decide +kernel
theorem s146_31 {l0 : Nat} {l1 : Int} {l2 : AV} {x0 : Nat} {x1 : Int} {x2 : Int} : WP m146 31 [.inr (.inl l0), .inl l1, l2] [.inl x2, .inl x1, .inr (.inl x0)] σ Q = ((kdS x0 = 20 ∧ 0 ≤ x1 ∧ x1 < ln x0) ∧ WP m146 32 [.inr (.inl l0), .inl l1, l2] [] (aup σ x0 x1.toNat x2) Q) := w_iast d146_31
theorem d146_32 : adec m146 32 = some (.aload_n 0, 1) := by decide +kernel
theorem s146_32 {l0 : Nat} {l1 : Int} {l2 : AV} : WP m146 32 [.inr (.inl l0), .inl l1, l2] [] σ Q = WP m146 33 [.inr (.inl l0), .inl l1, l2] [.inr (.inl l0)] σ Q := w_ld d146_32 rfl
theorem d146_33 : adec m146 33 = some (.iconst (2), 1) := by decide +kernel
theorem s146_33 {l0 : Nat} {l1 : Int} {l2 : AV} {x0 : Nat} : WP m146 33 [.inr (.inl l0), .inl l1, l2] [.inr (.inl x0)] σ Q = WP m146 34 [.inr (.inl l0), .inl l1, l2] [.inl (2), .inr (.inl x0)] σ Q := w_iconst d146_33 (by decide)
theorem d146_34 : adec m146 34 = some (.putfield 131, 3) := by decide +kernel
theorem s146_34 {l0 : Nat} {l1 : Int} {l2 : AV} {x1 : Int} : WP m146 34 [.inr (.inl l0), .inl l1, l2] [.inl x1, .inr (.inl 130)] σ Q = WP m146 37 [.inr (.inl l0), .inl l1, l2] [] (aup σ 130 15 x1) Q := (w_putI (c := 10) (n := 15) d146_34 (by decide +kernel) (by decide +kernel) (by decide +kernel)).trans (g_and (isO_dec (by decide +kernel)))
theorem d146_37 : adec m146 37 = some (.iload_n 1, 1) := by decide +kernel
theorem s146_37 {l0 : Nat} {l1 : Int} {l2 : AV} : WP m146 37 [.inr (.inl l0), .inl l1, l2] [] σ Q = WP m146 38 [.inr (.inl l0), .inl l1, l2] [.inl l1] σ Q := w_ld d146_37 rfl
theorem d146_38 : adec m146 38 = some (.invokestatic 134, 3) := by decide +kernel
theorem s146_38 {l0 : Nat} {l1 : Int} {l2 : AV} {x0 : Int} : WP m146 38 [.inr (.inl l0), .inl l1, l2] [.inl x0] σ Q = CA m128 [.inl x0] σ (fun v σ2 => WP m146 41 [.inr (.inl l0), .inl l1, l2] (v ++ []) σ2 Q) := w_cS (k := 128) d146_38 (by decide +kernel) (md := 1) (by decide +kernel) m128_at rfl rfl ⟨Nat.le_of_ble_eq_true rfl, Nat.le_of_ble_eq_true rfl, Nat.le_of_ble_eq_true rfl⟩ (by decide)
theorem d146_41 : adec m146 41 = some (.ifCond .eq (7), 3) := by decide +kernel
theorem s146_41 {l0 : Nat} {l1 : Int} {l2 : AV} {x0 : Int} : WP m146 41 [.inr (.inl l0), .inl l1, l2] [.inl x0] σ Q = (if x0 = 0 then WP m146 48 [.inr (.inl l0), .inl l1, l2] [] σ Q else WP m146 44 [.inr (.inl l0), .inl l1, l2] [] σ Q) := w_ifeq d146_41 (by decide)
theorem d146_44 : adec m146 44 = some (.iconst (0), 1) := by decide +kernel
theorem s146_44 {l0 : Nat} {l1 : Int} {l2 : AV} : WP m146 44 [.inr (.inl l0), .inl l1, l2] [] σ Q = WP m146 45 [.inr (.inl l0), .inl l1, l2] [.inl (0)] σ Q := w_iconst d146_44 (by decide)
theorem d146_45 : adec m146 45 = some (.goto (4), 3) := by decide +kernel
theorem s146_45 {l0 : Nat} {l1 : Int} {l2 : AV} {x0 : Int} : WP m146 45 [.inr (.inl l0), .inl l1, l2] [.inl x0] σ Q = WP m146 49 [.inr (.inl l0), .inl l1, l2] [.inl x0] σ Q := w_goto d146_45 (by decide)
theorem d146_48 : adec m146 48 = some (.iconst (1), 1) := by decide +kernel
theorem s146_48 {l0 : Nat} {l1 : Int} {l2 : AV} : WP m146 48 [.inr (.inl l0), .inl l1, l2] [] σ Q = WP m146 49 [.inr (.inl l0), .inl l1, l2] [.inl (1)] σ Q := w_iconst d146_48 (by decide)
theorem d146_49 : adec m146 49 = some (.ireturn, 1) := by decide +kernel
theorem s146_49 {l0 : Nat} {l1 : Int} {l2 : AV} {x0 : Int} : WP m146 49 [.inr (.inl l0), .inl l1, l2] [.inl x0] σ Q = Q [.inl x0] σ := w_ri d146_49 rfl
theorem d146_50 : adec m146 50 = some (.aload_n 0, 1) := by decide +kernel
theorem s146_50 {l0 : Nat} {l1 : Int} {l2 : AV} : WP m146 50 [.inr (.inl l0), .inl l1, l2] [] σ Q = WP m146 51 [.inr (.inl l0), .inl l1, l2] [.inr (.inl l0)] σ Q := w_ld d146_50 rfl
theorem d146_51 : adec m146 51 = some (.getfield 131, 3) := by decide +kernel
theorem s146_51 {l0 : Nat} {l1 : Int} {l2 : AV} : WP m146 51 [.inr (.inl l0), .inl l1, l2] [.inr (.inl 130)] σ Q = WP m146 54 [.inr (.inl l0), .inl l1, l2] [.inl (σ 130 15)] σ Q := (w_getI (c := 10) (n := 15) d146_51 (by decide +kernel) (by decide +kernel)).trans (g_and (isO_dec (by decide +kernel)))
theorem d146_54 : adec m146 54 = some (.iconst (2), 1) := by decide +kernel
theorem s146_54 {l0 : Nat} {l1 : Int} {l2 : AV} {x0 : Int} : WP m146 54 [.inr (.inl l0), .inl l1, l2] [.inl x0] σ Q = WP m146 55 [.inr (.inl l0), .inl l1, l2] [.inl (2), .inl x0] σ Q := w_iconst d146_54 (by decide)
theorem d146_55 : adec m146 55 = some (.if_icmp .ne (25), 3) := by decide +kernel
theorem s146_55 {l0 : Nat} {l1 : Int} {l2 : AV} {x0 : Int} {x1 : Int} : WP m146 55 [.inr (.inl l0), .inl l1, l2] [.inl x1, .inl x0] σ Q = (if x0 = x1 then WP m146 58 [.inr (.inl l0), .inl l1, l2] [] σ Q else WP m146 80 [.inr (.inl l0), .inl l1, l2] [] σ Q) := w_icne d146_55 (by decide)
theorem d146_58 : adec m146 58 = some (.aload_n 0, 1) := by decide +kernel
theorem s146_58 {l0 : Nat} {l1 : Int} {l2 : AV} : WP m146 58 [.inr (.inl l0), .inl l1, l2] [] σ Q = WP m146 59 [.inr (.inl l0), .inl l1, l2] [.inr (.inl l0)] σ Q := w_ld d146_58 rfl
theorem d146_59 : adec m146 59 = some (.iconst (0), 1) := by decide +kernel
theorem s146_59 {l0 : Nat} {l1 : Int} {l2 : AV} {x0 : Nat} : WP m146 59 [.inr (.inl l0), .inl l1, l2] [.inr (.inl x0)] σ Q = WP m146 60 [.inr (.inl l0), .inl l1, l2] [.inl (0), .inr (.inl x0)] σ Q := w_iconst d146_59 (by decide)
theorem d146_60 : adec m146 60 = some (.putfield 131, 3) := by decide +kernel
theorem s146_60 {l0 : Nat} {l1 : Int} {l2 : AV} {x1 : Int} : WP m146 60 [.inr (.inl l0), .inl l1, l2] [.inl x1, .inr (.inl 130)] σ Q = WP m146 63 [.inr (.inl l0), .inl l1, l2] [] (aup σ 130 15 x1) Q := (w_putI (c := 10) (n := 15) d146_60 (by decide +kernel) (by decide +kernel) (by decide +kernel)).trans (g_and (isO_dec (by decide +kernel)))
theorem d146_63 : adec m146 63 = some (.aload_n 0, 1) := by decide +kernel
theorem s146_63 {l0 : Nat} {l1 : Int} {l2 : AV} : WP m146 63 [.inr (.inl l0), .inl l1, l2] [] σ Q = WP m146 64 [.inr (.inl l0), .inl l1, l2] [.inr (.inl l0)] σ Q := w_ld d146_63 rfl
theorem d146_64 : adec m146 64 = some (.iconst (1), 1) := by decide +kernel
theorem s146_64 {l0 : Nat} {l1 : Int} {l2 : AV} {x0 : Nat} : WP m146 64 [.inr (.inl l0), .inl l1, l2] [.inr (.inl x0)] σ Q = WP m146 65 [.inr (.inl l0), .inl l1, l2] [.inl (1), .inr (.inl x0)] σ Q := w_iconst d146_64 (by decide)
theorem d146_65 : adec m146 65 = some (.invokevirtual 138, 3) := by decide +kernel
theorem s146_65 {l0 : Nat} {l1 : Int} {l2 : AV} {x1 : Int} : WP m146 65 [.inr (.inl l0), .inl l1, l2] [.inl x1, .inr (.inl 130)] σ Q = CA m141 [.inr (.inl 130), .inl x1] σ (fun v σ2 => WP m146 68 [.inr (.inl l0), .inl l1, l2] (v ++ []) σ2 Q) := (w_cV (k := 141) d146_65 (by decide +kernel) m141_at rfl rfl ⟨Nat.le_of_ble_eq_true rfl, Nat.le_of_ble_eq_true rfl, Nat.le_of_ble_eq_true rfl⟩ (by decide)).trans (g_and (isO_dec (by decide +kernel)))
theorem d146_68 : adec m146 68 = some (.iload_n 1, 1) := by decide +kernel
theorem s146_68 {l0 : Nat} {l1 : Int} {l2 : AV} : WP m146 68 [.inr (.inl l0), .inl l1, l2] [] σ Q = WP m146 69 [.inr (.inl l0), .inl l1, l2] [.inl l1] σ Q := w_ld d146_68 rfl
theorem d146_69 : adec m146 69 = some (.bipush (46), 2) := by decide +kernel
theorem s146_69 {l0 : Nat} {l1 : Int} {l2 : AV} {x0 : Int} : WP m146 69 [.inr (.inl l0), .inl l1, l2] [.inl x0] σ Q = WP m146 71 [.inr (.inl l0), .inl l1, l2] [.inl (46), .inl x0] σ Q := w_bipush d146_69 (by decide)
theorem d146_71 : adec m146 71 = some (.if_icmp .ne (7), 3) := by decide +kernel
theorem s146_71 {l0 : Nat} {l1 : Int} {l2 : AV} {x0 : Int} {x1 : Int} : WP m146 71 [.inr (.inl l0), .inl l1, l2] [.inl x1, .inl x0] σ Q = (if x0 = x1 then WP m146 74 [.inr (.inl l0), .inl l1, l2] [] σ Q else WP m146 78 [.inr (.inl l0), .inl l1, l2] [] σ Q) := w_icne d146_71 (by decide)
theorem d146_74 : adec m146 74 = some (.iconst (0), 1) := by decide +kernel
theorem s146_74 {l0 : Nat} {l1 : Int} {l2 : AV} : WP m146 74 [.inr (.inl l0), .inl l1, l2] [] σ Q = WP m146 75 [.inr (.inl l0), .inl l1, l2] [.inl (0)] σ Q := w_iconst d146_74 (by decide)
theorem d146_75 : adec m146 75 = some (.goto (4), 3) := by decide +kernel
theorem s146_75 {l0 : Nat} {l1 : Int} {l2 : AV} {x0 : Int} : WP m146 75 [.inr (.inl l0), .inl l1, l2] [.inl x0] σ Q = WP m146 79 [.inr (.inl l0), .inl l1, l2] [.inl x0] σ Q := w_goto d146_75 (by decide)
theorem d146_78 : adec m146 78 = some (.iconst (1), 1) := by decide +kernel
theorem s146_78 {l0 : Nat} {l1 : Int} {l2 : AV} : WP m146 78 [.inr (.inl l0), .inl l1, l2] [] σ Q = WP m146 79 [.inr (.inl l0), .inl l1, l2] [.inl (1)] σ Q := w_iconst d146_78 (by decide)
theorem d146_79 : adec m146 79 = some (.ireturn, 1) := by decide +kernel
theorem s146_79 {l0 : Nat} {l1 : Int} {l2 : AV} {x0 : Int} : WP m146 79 [.inr (.inl l0), .inl l1, l2] [.inl x0] σ Q = Q [.inl x0] σ := w_ri d146_79 rfl
theorem d146_80 : adec m146 80 = some (.iload_n 1, 1) := by decide +kernel
theorem s146_80 {l0 : Nat} {l1 : Int} {l2 : AV} : WP m146 80 [.inr (.inl l0), .inl l1, l2] [] σ Q = WP m146 81 [.inr (.inl l0), .inl l1, l2] [.inl l1] σ Q := w_ld d146_80 rfl
theorem d146_81 : adec m146 81 = some (.bipush (41), 2) := by decide +kernel
theorem s146_81 {l0 : Nat} {l1 : Int} {l2 : AV} {x0 : Int} : WP m146 81 [.inr (.inl l0), .inl l1, l2] [.inl x0] σ Q = WP m146 83 [.inr (.inl l0), .inl l1, l2] [.inl (41), .inl x0] σ Q := w_bipush d146_81 (by decide)
theorem d146_83 : adec m146 83 = some (.if_icmp .ne (17), 3) := by decide +kernel
theorem s146_83 {l0 : Nat} {l1 : Int} {l2 : AV} {x0 : Int} {x1 : Int} : WP m146 83 [.inr (.inl l0), .inl l1, l2] [.inl x1, .inl x0] σ Q = (if x0 = x1 then WP m146 86 [.inr (.inl l0), .inl l1, l2] [] σ Q else WP m146 100 [.inr (.inl l0), .inl l1, l2] [] σ Q) := w_icne d146_83 (by decide)
theorem d146_86 : adec m146 86 = some (.aload_n 0, 1) := by decide +kernel
theorem s146_86 {l0 : Nat} {l1 : Int} {l2 : AV} : WP m146 86 [.inr (.inl l0), .inl l1, l2] [] σ Q = WP m146 87 [.inr (.inl l0), .inl l1, l2] [.inr (.inl l0)] σ Q := w_ld d146_86 rfl
theorem d146_87 : adec m146 87 = some (.iconst (1), 1) := by decide +kernel
theorem s146_87 {l0 : Nat} {l1 : Int} {l2 : AV} {x0 : Nat} : WP m146 87 [.inr (.inl l0), .inl l1, l2] [.inr (.inl x0)] σ Q = WP m146 88 [.inr (.inl l0), .inl l1, l2] [.inl (1), .inr (.inl x0)] σ Q := w_iconst d146_87 (by decide)
theorem d146_88 : adec m146 88 = some (.invokevirtual 142, 3) := by decide +kernel
theorem s146_88 {l0 : Nat} {l1 : Int} {l2 : AV} {x1 : Int} : WP m146 88 [.inr (.inl l0), .inl l1, l2] [.inl x1, .inr (.inl 130)] σ Q = CA m145 [.inr (.inl 130), .inl x1] σ (fun v σ2 => WP m146 91 [.inr (.inl l0), .inl l1, l2] (v ++ []) σ2 Q) := (w_cV (k := 145) d146_88 (by decide +kernel) m145_at rfl rfl ⟨Nat.le_of_ble_eq_true rfl, Nat.le_of_ble_eq_true rfl, Nat.le_of_ble_eq_true rfl⟩ (by decide)).trans (g_and (isO_dec (by decide +kernel)))
theorem d146_91 : adec m146 91 = some (.ifCond .eq (7), 3) := by decide +kernel
theorem s146_91 {l0 : Nat} {l1 : Int} {l2 : AV} {x0 : Int} : WP m146 91 [.inr (.inl l0), .inl l1, l2] [.inl x0] σ Q = (if x0 = 0 then WP m146 98 [.inr (.inl l0), .inl l1, l2] [] σ Q else WP m146 94 [.inr (.inl l0), .inl l1, l2] [] σ Q) := w_ifeq d146_91 (by decide)
theorem d146_94 : adec m146 94 = some (.iconst (0), 1) := by decide +kernel
theorem s146_94 {l0 : Nat} {l1 : Int} {l2 : AV} : WP m146 94 [.inr (.inl l0), .inl l1, l2] [] σ Q = WP m146 95 [.inr (.inl l0), .inl l1, l2] [.inl (0)] σ Q := w_iconst d146_94 (by decide)
theorem d146_95 : adec m146 95 = some (.goto (4), 3) := by decide +kernel
theorem s146_95 {l0 : Nat} {l1 : Int} {l2 : AV} {x0 : Int} : WP m146 95 [.inr (.inl l0), .inl l1, l2] [.inl x0] σ Q = WP m146 99 [.inr (.inl l0), .inl l1, l2] [.inl x0] σ Q := w_goto d146_95 (by decide)
theorem d146_98 : adec m146 98 = some (.iconst (1), 1) := by decide +kernel
theorem s146_98 {l0 : Nat} {l1 : Int} {l2 : AV} : WP m146 98 [.inr (.inl l0), .inl l1, l2] [] σ Q = WP m146 99 [.inr (.inl l0), .inl l1, l2] [.inl (1)] σ Q := w_iconst d146_98 (by decide)
theorem d146_99 : adec m146 99 = some (.ireturn, 1) := by decide +kernel
theorem s146_99 {l0 : Nat} {l1 : Int} {l2 : AV} {x0 : Int} : WP m146 99 [.inr (.inl l0), .inl l1, l2] [.inl x0] σ Q = Q [.inl x0] σ := w_ri d146_99 rfl
theorem d146_100 : adec m146 100 = some (.iload_n 1, 1) := by decide +kernel
theorem s146_100 {l0 : Nat} {l1 : Int} {l2 : AV} : WP m146 100 [.inr (.inl l0), .inl l1, l2] [] σ Q = WP m146 101 [.inr (.inl l0), .inl l1, l2] [.inl l1] σ Q := w_ld d146_100 rfl
theorem d146_101 : adec m146 101 = some (.invokestatic 134, 3) := by decide +kernel
theorem s146_101 {l0 : Nat} {l1 : Int} {l2 : AV} {x0 : Int} : WP m146 101 [.inr (.inl l0), .inl l1, l2] [.inl x0] σ Q = CA m128 [.inl x0] σ (fun v σ2 => WP m146 104 [.inr (.inl l0), .inl l1, l2] (v ++ []) σ2 Q) := w_cS (k := 128) d146_101 (by decide +kernel) (md := 1) (by decide +kernel) m128_at rfl rfl ⟨Nat.le_of_ble_eq_true rfl, Nat.le_of_ble_eq_true rfl, Nat.le_of_ble_eq_true rfl⟩ (by decide)
theorem d146_104 : adec m146 104 = some (.ifCond .ne (17), 3) := by decide +kernel
theorem s146_104 {l0 : Nat} {l1 : Int} {l2 : AV} {x0 : Int} : WP m146 104 [.inr (.inl l0), .inl l1, l2] [.inl x0] σ Q = (if x0 = 0 then WP m146 107 [.inr (.inl l0), .inl l1, l2] [] σ Q else WP m146 121 [.inr (.inl l0), .inl l1, l2] [] σ Q) := w_ifne d146_104 (by decide)
theorem d146_107 : adec m146 107 = some (.iload_n 1, 1) := by decide +kernel
theorem s146_107 {l0 : Nat} {l1 : Int} {l2 : AV} : WP m146 107 [.inr (.inl l0), .inl l1, l2] [] σ Q = WP m146 108 [.inr (.inl l0), .inl l1, l2] [.inl l1] σ Q := w_ld d146_107 rfl
theorem d146_108 : adec m146 108 = some (.invokestatic 146, 3) := by decide +kernel
theorem s146_108 {l0 : Nat} {l1 : Int} {l2 : AV} {x0 : Int} : WP m146 108 [.inr (.inl l0), .inl l1, l2] [.inl x0] σ Q = CA m144 [.inl x0] σ (fun v σ2 => WP m146 111 [.inr (.inl l0), .inl l1, l2] (v ++ []) σ2 Q) := w_cS (k := 144) d146_108 (by decide +kernel) (md := 1) (by decide +kernel) m144_at rfl rfl ⟨Nat.le_of_ble_eq_true rfl, Nat.le_of_ble_eq_true rfl, Nat.le_of_ble_eq_true rfl⟩ (by decide)
theorem d146_111 : adec m146 111 = some (.iconst (-1), 1) := by decide +kernel
theorem s146_111 {l0 : Nat} {l1 : Int} {l2 : AV} {x0 : Int} : WP m146 111 [.inr (.inl l0), .inl l1, l2] [.inl x0] σ Q = WP m146 112 [.inr (.inl l0), .inl l1, l2] [.inl (-1), .inl x0] σ Q := w_iconst d146_111 (by decide)
theorem d146_112 : adec m146 112 = some (.if_icmp .ne (9), 3) := by decide +kernel
theorem s146_112 {l0 : Nat} {l1 : Int} {l2 : AV} {x0 : Int} {x1 : Int} : WP m146 112 [.inr (.inl l0), .inl l1, l2] [.inl x1, .inl x0] σ Q = (if x0 = x1 then WP m146 115 [.inr (.inl l0), .inl l1, l2] [] σ Q else WP m146 121 [.inr (.inl l0), .inl l1, l2] [] σ Q) := w_icne d146_112 (by decide)
theorem d146_115 : adec m146 115 = some (.iload_n 1, 1) := by decide +kernel
theorem s146_115 {l0 : Nat} {l1 : Int} {l2 : AV} : WP m146 115 [.inr (.inl l0), .inl l1, l2] [] σ Q = WP m146 116 [.inr (.inl l0), .inl l1, l2] [.inl l1] σ Q := w_ld d146_115 rfl
theorem d146_116 : adec m146 116 = some (.bipush (94), 2) := by decide +kernel
theorem s146_116 {l0 : Nat} {l1 : Int} {l2 : AV} {x0 : Int} : WP m146 116 [.inr (.inl l0), .inl l1, l2] [.inl x0] σ Q = WP m146 118 [.inr (.inl l0), .inl l1, l2] [.inl (94), .inl x0] σ Q := w_bipush d146_116 (by decide)
theorem d146_118 : adec m146 118 = some (.if_icmp .ne (7), 3) := by decide +kernel
theorem s146_118 {l0 : Nat} {l1 : Int} {l2 : AV} {x0 : Int} {x1 : Int} : WP m146 118 [.inr (.inl l0), .inl l1, l2] [.inl x1, .inl x0] σ Q = (if x0 = x1 then WP m146 121 [.inr (.inl l0), .inl l1, l2] [] σ Q else WP m146 125 [.inr (.inl l0), .inl l1, l2] [] σ Q) := w_icne d146_118 (by decide)
theorem d146_121 : adec m146 121 = some (.iconst (1), 1) := by decide +kernel
theorem s146_121 {l0 : Nat} {l1 : Int} {l2 : AV} : WP m146 121 [.inr (.inl l0), .inl l1, l2] [] σ Q = WP m146 122 [.inr (.inl l0), .inl l1, l2] [.inl (1)] σ Q := w_iconst d146_121 (by decide)
theorem d146_122 : adec m146 122 = some (.goto (4), 3) := by decide +kernel
theorem s146_122 {l0 : Nat} {l1 : Int} {l2 : AV} {x0 : Int} : WP m146 122 [.inr (.inl l0), .inl l1, l2] [.inl x0] σ Q = WP m146 126 [.inr (.inl l0), .inl l1, l2] [.inl x0] σ Q := w_goto d146_122 (by decide)
theorem d146_125 : adec m146 125 = some (.iconst (0), 1) := by decide +kernel
theorem s146_125 {l0 : Nat} {l1 : Int} {l2 : AV} : WP m146 125 [.inr (.inl l0), .inl l1, l2] [] σ Q = WP m146 126 [.inr (.inl l0), .inl l1, l2] [.inl (0)] σ Q := w_iconst d146_125 (by decide)
theorem d146_126 : adec m146 126 = some (.istore_n 2, 1) := by decide +kernel
theorem s146_126 {l0 : Nat} {l1 : Int} {l2 : AV} {x0 : Int} : WP m146 126 [.inr (.inl l0), .inl l1, l2] [.inl x0] σ Q = WP m146 127 [.inr (.inl l0), .inl l1, .inl x0] [] σ Q := w_st1 (j := 2) d146_126 rfl (Nat.le_of_ble_eq_true rfl) rfl
theorem d146_127 : adec m146 127 = some (.iload_n 2, 1) := by decide +kernel
theorem s146_127 {l0 : Nat} {l1 : Int} {l2 : Int} : WP m146 127 [.inr (.inl l0), .inl l1, .inl l2] [] σ Q = WP m146 128 [.inr (.inl l0), .inl l1, .inl l2] [.inl l2] σ Q := w_ld d146_127 rfl
theorem d146_128 : adec m146 128 = some (.ifCond .ne (11), 3) := by decide +kernel
theorem s146_128 {l0 : Nat} {l1 : Int} {l2 : Int} {x0 : Int} : WP m146 128 [.inr (.inl l0), .inl l1, .inl l2] [.inl x0] σ Q = (if x0 = 0 then WP m146 131 [.inr (.inl l0), .inl l1, .inl l2] [] σ Q else WP m146 139 [.inr (.inl l0), .inl l1, .inl l2] [] σ Q) := w_ifne d146_128 (by decide)
theorem d146_131 : adec m146 131 = some (.iload_n 1, 1) := by decide +kernel
theorem s146_131 {l0 : Nat} {l1 : Int} {l2 : Int} : WP m146 131 [.inr (.inl l0), .inl l1, .inl l2] [] σ Q = WP m146 132 [.inr (.inl l0), .inl l1, .inl l2] [.inl l1] σ Q := w_ld d146_131 rfl
theorem d146_132 : adec m146 132 = some (.bipush (40), 2) := by decide +kernel
theorem s146_132 {l0 : Nat} {l1 : Int} {l2 : Int} {x0 : Int} : WP m146 132 [.inr (.inl l0), .inl l1, .inl l2] [.inl x0] σ Q = WP m146 134 [.inr (.inl l0), .inl l1, .inl l2] [.inl (40), .inl x0] σ Q := w_bipush d146_132 (by decide)
theorem d146_134 : adec m146 134 = some (.if_icmp .eq (5), 3) := by decide +kernel
theorem s146_134 {l0 : Nat} {l1 : Int} {l2 : Int} {x0 : Int} {x1 : Int} : WP m146 134 [.inr (.inl l0), .inl l1, .inl l2] [.inl x1, .inl x0] σ Q = (if x0 = x1 then WP m146 139 [.inr (.inl l0), .inl l1, .inl l2] [] σ Q else WP m146 137 [.inr (.inl l0), .inl l1, .inl l2] [] σ Q) := w_iceq d146_134 (by decide)
theorem d146_137 : adec m146 137 = some (.iconst (1), 1) := by decide +kernel
theorem s146_137 {l0 : Nat} {l1 : Int} {l2 : Int} : WP m146 137 [.inr (.inl l0), .inl l1, .inl l2] [] σ Q = WP m146 138 [.inr (.inl l0), .inl l1, .inl l2] [.inl (1)] σ Q := w_iconst d146_137 (by decide)
theorem d146_138 : adec m146 138 = some (.ireturn, 1) := by decide +kernel
theorem s146_138 {l0 : Nat} {l1 : Int} {l2 : Int} {x0 : Int} : WP m146 138 [.inr (.inl l0), .inl l1, .inl l2] [.inl x0] σ Q = Q [.inl x0] σ := w_ri d146_138 rfl
theorem d146_139 : adec m146 139 = some (.aload_n 0, 1) := by decide +kernel
theorem s146_139 {l0 : Nat} {l1 : Int} {l2 : Int} : WP m146 139 [.inr (.inl l0), .inl l1, .inl l2] [] σ Q = WP m146 140 [.inr (.inl l0), .inl l1, .inl l2] [.inr (.inl l0)] σ Q := w_ld d146_139 rfl
theorem d146_140 : adec m146 140 = some (.getfield 104, 3) := by decide +kernel
theorem s146_140 {l0 : Nat} {l1 : Int} {l2 : Int} : WP m146 140 [.inr (.inl l0), .inl l1, .inl l2] [.inr (.inl 130)] σ Q = WP m146 143 [.inr (.inl l0), .inl l1, .inl l2] [.inl (σ 130 7)] σ Q := (w_getI (c := 10) (n := 7) d146_140 (by decide +kernel) (by decide +kernel)).trans (g_and (isO_dec (by decide +kernel)))
theorem d146_143 : adec m146 143 = some (.iload_n 2, 1) := by decide +kernel
theorem s146_143 {l0 : Nat} {l1 : Int} {l2 : Int} {x0 : Int} : WP m146 143 [.inr (.inl l0), .inl l1, .inl l2] [.inl x0] σ Q = WP m146 144 [.inr (.inl l0), .inl l1, .inl l2] [.inl l2, .inl x0] σ Q := w_ld d146_143 rfl
theorem d146_144 : adec m146 144 = some (.ifCond .eq (7), 3) := by decide +kernel
theorem s146_144 {l0 : Nat} {l1 : Int} {l2 : Int} {x0 : Int} {x1 : Int} : WP m146 144 [.inr (.inl l0), .inl l1, .inl l2] [.inl x1, .inl x0] σ Q = (if x1 = 0 then WP m146 151 [.inr (.inl l0), .inl l1, .inl l2] [.inl x0] σ Q else WP m146 147 [.inr (.inl l0), .inl l1, .inl l2] [.inl x0] σ Q) := w_ifeq d146_144 (by decide)
theorem d146_147 : adec m146 147 = some (.iconst (1), 1) := by decide +kernel
theorem s146_147 {l0 : Nat} {l1 : Int} {l2 : Int} {x0 : Int} : WP m146 147 [.inr (.inl l0), .inl l1, .inl l2] [.inl x0] σ Q = WP m146 148 [.inr (.inl l0), .inl l1, .inl l2] [.inl (1), .inl x0] σ Q := w_iconst d146_147 (by decide)
theorem d146_148 : adec m146 148 = some (.goto (4), 3) := by decide +kernel
theorem s146_148 {l0 : Nat} {l1 : Int} {l2 : Int} {x0 : Int} {x1 : Int} : WP m146 148 [.inr (.inl l0), .inl l1, .inl l2] [.inl x1, .inl x0] σ Q = WP m146 152 [.inr (.inl l0), .inl l1, .inl l2] [.inl x1, .inl x0] σ Q := w_goto d146_148 (by decide)
theorem d146_151 : adec m146 151 = some (.iconst (0), 1) := by decide +kernel
theorem s146_151 {l0 : Nat} {l1 : Int} {l2 : Int} {x0 : Int} : WP m146 151 [.inr (.inl l0), .inl l1, .inl l2] [.inl x0] σ Q = WP m146 152 [.inr (.inl l0), .inl l1, .inl l2] [.inl (0), .inl x0] σ Q := w_iconst d146_151 (by decide)
theorem d146_152 : adec m146 152 = some (.iadd, 1) := by decide +kernel
theorem s146_152 {l0 : Nat} {l1 : Int} {l2 : Int} {x0 : Int} {x1 : Int} : WP m146 152 [.inr (.inl l0), .inl l1, .inl l2] [.inl x1, .inl x0] σ Q = (inI (x0 + x1) ∧ WP m146 153 [.inr (.inl l0), .inl l1, .inl l2] [.inl (x0 + x1)] σ Q) := w_iadd d146_152
theorem d146_153 : adec m146 153 = some (.aload_n 0, 1) := by decide +kernel
theorem s146_153 {l0 : Nat} {l1 : Int} {l2 : Int} {x0 : Int} : WP m146 153 [.inr (.inl l0), .inl l1, .inl l2] [.inl x0] σ Q = WP m146 154 [.inr (.inl l0), .inl l1, .inl l2] [.inr (.inl l0), .inl x0] σ Q := w_ld d146_153 rfl
theorem d146_154 : adec m146 154 = some (.invokevirtual 127, 3) := by decide +kernel
theorem s146_154 {l0 : Nat} {l1 : Int} {l2 : Int} {x0 : Int} : WP m146 154 [.inr (.inl l0), .inl l1, .inl l2] [.inr (.inl 130), .inl x0] σ Q = CA m142 [.inr (.inl 130)] σ (fun v σ2 => WP m146 157 [.inr (.inl l0), .inl l1, .inl l2] (v ++ [.inl x0]) σ2 Q) := (w_cV (k := 142) d146_154 (by decide +kernel) m142_at rfl rfl ⟨Nat.le_of_ble_eq_true rfl, Nat.le_of_ble_eq_true rfl, Nat.le_of_ble_eq_true rfl⟩ (by decide)).trans (g_and (isO_dec (by decide +kernel)))
theorem d146_157 : adec m146 157 = some (.ifCond .eq (7), 3) := by decide +kernel
theorem s146_157 {l0 : Nat} {l1 : Int} {l2 : Int} {x0 : Int} {x1 : Int} : WP m146 157 [.inr (.inl l0), .inl l1, .inl l2] [.inl x1, .inl x0] σ Q = (if x1 = 0 then WP m146 164 [.inr (.inl l0), .inl l1, .inl l2] [.inl x0] σ Q else WP m146 160 [.inr (.inl l0), .inl l1, .inl l2] [.inl x0] σ Q) := w_ifeq d146_157 (by decide)
theorem d146_160 : adec m146 160 = some (.iconst (1), 1) := by decide +kernel
theorem s146_160 {l0 : Nat} {l1 : Int} {l2 : Int} {x0 : Int} : WP m146 160 [.inr (.inl l0), .inl l1, .inl l2] [.inl x0] σ Q = WP m146 161 [.inr (.inl l0), .inl l1, .inl l2] [.inl (1), .inl x0] σ Q := w_iconst d146_160 (by decide)
theorem d146_161 : adec m146 161 = some (.goto (4), 3) := by decide +kernel
theorem s146_161 {l0 : Nat} {l1 : Int} {l2 : Int} {x0 : Int} {x1 : Int} : WP m146 161 [.inr (.inl l0), .inl l1, .inl l2] [.inl x1, .inl x0] σ Q = WP m146 165 [.inr (.inl l0), .inl l1, .inl l2] [.inl x1, .inl x0] σ Q := w_goto d146_161 (by decide)
theorem d146_164 : adec m146 164 = some (.iconst (0), 1) := by decide +kernel
theorem s146_164 {l0 : Nat} {l1 : Int} {l2 : Int} {x0 : Int} : WP m146 164 [.inr (.inl l0), .inl l1, .inl l2] [.inl x0] σ Q = WP m146 165 [.inr (.inl l0), .inl l1, .inl l2] [.inl (0), .inl x0] σ Q := w_iconst d146_164 (by decide)
theorem d146_165 : adec m146 165 = some (.iadd, 1) := by decide +kernel
theorem s146_165 {l0 : Nat} {l1 : Int} {l2 : Int} {x0 : Int} {x1 : Int} : WP m146 165 [.inr (.inl l0), .inl l1, .inl l2] [.inl x1, .inl x0] σ Q = (inI (x0 + x1) ∧ WP m146 166 [.inr (.inl l0), .inl l1, .inl l2] [.inl (x0 + x1)] σ Q) := w_iadd d146_165
theorem d146_166 : adec m146 166 = some (.bipush (120), 2) := by decide +kernel
theorem s146_166 {l0 : Nat} {l1 : Int} {l2 : Int} {x0 : Int} : WP m146 166 [.inr (.inl l0), .inl l1, .inl l2] [.inl x0] σ Q = WP m146 168 [.inr (.inl l0), .inl l1, .inl l2] [.inl (120), .inl x0] σ Q := w_bipush d146_166 (by decide)
theorem d146_168 : adec m146 168 = some (.if_icmp .le (5), 3) := by decide +kernel
theorem s146_168 {l0 : Nat} {l1 : Int} {l2 : Int} {x0 : Int} {x1 : Int} : WP m146 168 [.inr (.inl l0), .inl l1, .inl l2] [.inl x1, .inl x0] σ Q = (if x0 ≤ x1 then WP m146 173 [.inr (.inl l0), .inl l1, .inl l2] [] σ Q else WP m146 171 [.inr (.inl l0), .inl l1, .inl l2] [] σ Q) := w_icle d146_168 (by decide)
theorem d146_171 : adec m146 171 = some (.iconst (2), 1) := by decide +kernel
theorem s146_171 {l0 : Nat} {l1 : Int} {l2 : Int} : WP m146 171 [.inr (.inl l0), .inl l1, .inl l2] [] σ Q = WP m146 172 [.inr (.inl l0), .inl l1, .inl l2] [.inl (2)] σ Q := w_iconst d146_171 (by decide)
theorem d146_172 : adec m146 172 = some (.ireturn, 1) := by decide +kernel
theorem s146_172 {l0 : Nat} {l1 : Int} {l2 : Int} {x0 : Int} : WP m146 172 [.inr (.inl l0), .inl l1, .inl l2] [.inl x0] σ Q = Q [.inl x0] σ := w_ri d146_172 rfl
theorem d146_173 : adec m146 173 = some (.aload_n 0, 1) := by decide +kernel
theorem s146_173 {l0 : Nat} {l1 : Int} {l2 : Int} : WP m146 173 [.inr (.inl l0), .inl l1, .inl l2] [] σ Q = WP m146 174 [.inr (.inl l0), .inl l1, .inl l2] [.inr (.inl l0)] σ Q := w_ld d146_173 rfl
theorem d146_174 : adec m146 174 = some (.invokevirtual 149, 3) := by decide +kernel
theorem s146_174 {l0 : Nat} {l1 : Int} {l2 : Int} : WP m146 174 [.inr (.inl l0), .inl l1, .inl l2] [.inr (.inl 130)] σ Q = CA m143 [.inr (.inl 130)] σ (fun v σ2 => WP m146 177 [.inr (.inl l0), .inl l1, .inl l2] (v ++ []) σ2 Q) := (w_cV (k := 143) d146_174 (by decide +kernel) m143_at rfl rfl ⟨Nat.le_of_ble_eq_true rfl, Nat.le_of_ble_eq_true rfl, Nat.le_of_ble_eq_true rfl⟩ (by decide)).trans (g_and (isO_dec (by decide +kernel)))
theorem d146_177 : adec m146 177 = some (.iload_n 2, 1) := by decide +kernel
theorem s146_177 {l0 : Nat} {l1 : Int} {l2 : Int} : WP m146 177 [.inr (.inl l0), .inl l1, .inl l2] [] σ Q = WP m146 178 [.inr (.inl l0), .inl l1, .inl l2] [.inl l2] σ Q := w_ld d146_177 rfl
theorem d146_178 : adec m146 178 = some (.ifCond .eq (55), 3) := by decide +kernel
theorem s146_178 {l0 : Nat} {l1 : Int} {l2 : Int} {x0 : Int} : WP m146 178 [.inr (.inl l0), .inl l1, .inl l2] [.inl x0] σ Q = (if x0 = 0 then WP m146 233 [.inr (.inl l0), .inl l1, .inl l2] [] σ Q else WP m146 181 [.inr (.inl l0), .inl l1, .inl l2] [] σ Q) := w_ifeq d146_178 (by decide)
theorem d146_181 : adec m146 181 = some (.aload_n 0, 1) := by decide +kernel
theorem s146_181 {l0 : Nat} {l1 : Int} {l2 : Int} : WP m146 181 [.inr (.inl l0), .inl l1, .inl l2] [] σ Q = WP m146 182 [.inr (.inl l0), .inl l1, .inl l2] [.inr (.inl l0)] σ Q := w_ld d146_181 rfl
theorem d146_182 : adec m146 182 = some (.getfield 24, 3) := by decide +kernel
theorem s146_182 {l0 : Nat} {l1 : Int} {l2 : Int} : WP m146 182 [.inr (.inl l0), .inl l1, .inl l2] [.inr (.inl 130)] σ Q = WP m146 185 [.inr (.inl l0), .inl l1, .inl l2] [.inr (.inl 134)] σ Q := (w_getR (c := 10) (n := 6) d146_182 (by decide +kernel) (by decide +kernel)).trans (g_and ⟨isO_dec (by decide +kernel), by decide +kernel⟩)
theorem d146_185 : adec m146 185 = some (.aload_n 0, 1) := by decide +kernel
theorem s146_185 {l0 : Nat} {l1 : Int} {l2 : Int} {x0 : Nat} : WP m146 185 [.inr (.inl l0), .inl l1, .inl l2] [.inr (.inl x0)] σ Q = WP m146 186 [.inr (.inl l0), .inl l1, .inl l2] [.inr (.inl l0), .inr (.inl x0)] σ Q := w_ld d146_185 rfl
theorem d146_186 : adec m146 186 = some (.getfield 104, 3) := by decide +kernel
theorem s146_186 {l0 : Nat} {l1 : Int} {l2 : Int} {x0 : Nat} : WP m146 186 [.inr (.inl l0), .inl l1, .inl l2] [.inr (.inl 130), .inr (.inl x0)] σ Q = WP m146 189 [.inr (.inl l0), .inl l1, .inl l2] [.inl (σ 130 7), .inr (.inl x0)] σ Q := (w_getI (c := 10) (n := 7) d146_186 (by decide +kernel) (by decide +kernel)).trans (g_and (isO_dec (by decide +kernel)))
theorem d146_189 : adec m146 189 = some (.iload_n 1, 1) := by decide +kernel
theorem s146_189 {l0 : Nat} {l1 : Int} {l2 : Int} {x0 : Nat} {x1 : Int} : WP m146 189 [.inr (.inl l0), .inl l1, .inl l2] [.inl x1, .inr (.inl x0)] σ Q = WP m146 190 [.inr (.inl l0), .inl l1, .inl l2] [.inl l1, .inl x1, .inr (.inl x0)] σ Q := w_ld d146_189 rfl
theorem d146_190 : adec m146 190 = some (.invokestatic 134, 3) := by decide +kernel
theorem s146_190 {l0 : Nat} {l1 : Int} {l2 : Int} {x0 : Nat} {x1 : Int} {x2 : Int} : WP m146 190 [.inr (.inl l0), .inl l1, .inl l2] [.inl x2, .inl x1, .inr (.inl x0)] σ Q = CA m128 [.inl x2] σ (fun v σ2 => WP m146 193 [.inr (.inl l0), .inl l1, .inl l2] (v ++ [.inl x1, .inr (.inl x0)]) σ2 Q) := w_cS (k := 128) d146_190 (by decide +kernel) (md := 1) (by decide +kernel) m128_at rfl rfl ⟨Nat.le_of_ble_eq_true rfl, Nat.le_of_ble_eq_true rfl, Nat.le_of_ble_eq_true rfl⟩ (by decide)
theorem d146_193 : adec m146 193 = some (.ifCond .eq (7), 3) := by decide +kernel
theorem s146_193 {l0 : Nat} {l1 : Int} {l2 : Int} {x0 : Nat} {x1 : Int} {x2 : Int} : WP m146 193 [.inr (.inl l0), .inl l1, .inl l2] [.inl x2, .inl x1, .inr (.inl x0)] σ Q = (if x2 = 0 then WP m146 200 [.inr (.inl l0), .inl l1, .inl l2] [.inl x1, .inr (.inl x0)] σ Q else WP m146 196 [.inr (.inl l0), .inl l1, .inl l2] [.inl x1, .inr (.inl x0)] σ Q) := w_ifeq d146_193 (by decide)
theorem d146_196 : adec m146 196 = some (.iload_n 1, 1) := by decide +kernel
theorem s146_196 {l0 : Nat} {l1 : Int} {l2 : Int} {x0 : Nat} {x1 : Int} : WP m146 196 [.inr (.inl l0), .inl l1, .inl l2] [.inl x1, .inr (.inl x0)] σ Q = WP m146 197 [.inr (.inl l0), .inl l1, .inl l2] [.inl l1, .inl x1, .inr (.inl x0)] σ Q := w_ld d146_196 rfl
theorem d146_197 : adec m146 197 = some (.goto (7), 3) := by decide +kernel
theorem s146_197 {l0 : Nat} {l1 : Int} {l2 : Int} {x0 : Nat} {x1 : Int} {x2 : Int} : WP m146 197 [.inr (.inl l0), .inl l1, .inl l2] [.inl x2, .inl x1, .inr (.inl x0)] σ Q = WP m146 204 [.inr (.inl l0), .inl l1, .inl l2] [.inl x2, .inl x1, .inr (.inl x0)] σ Q := w_goto d146_197 (by decide)
theorem d146_200 : adec m146 200 = some (.iload_n 1, 1) := by decide +kernel
theorem s146_200 {l0 : Nat} {l1 : Int} {l2 : Int} {x0 : Nat} {x1 : Int} : WP m146 200 [.inr (.inl l0), .inl l1, .inl l2] [.inl x1, .inr (.inl x0)] σ Q = WP m146 201 [.inr (.inl l0), .inl l1, .inl l2] [.inl l1, .inl x1, .inr (.inl x0)] σ Q := w_ld d146_200 rfl
theorem d146_201 : adec m146 201 = some (.invokestatic 146, 3) := by decide +kernel
theorem s146_201 {l0 : Nat} {l1 : Int} {l2 : Int} {x0 : Nat} {x1 : Int} {x2 : Int} : WP m146 201 [.inr (.inl l0), .inl l1, .inl l2] [.inl x2, .inl x1, .inr (.inl x0)] σ Q = CA m144 [.inl x2] σ (fun v σ2 => WP m146 204 [.inr (.inl l0), .inl l1, .inl l2] (v ++ [.inl x1, .inr (.inl x0)]) σ2 Q) := w_cS (k := 144) d146_201 (by decide +kernel) (md := 1) (by decide +kernel) m144_at rfl rfl ⟨Nat.le_of_ble_eq_true rfl, Nat.le_of_ble_eq_true rfl, Nat.le_of_ble_eq_true rfl⟩ (by decide)
theorem d146_204 : adec m146 204 = some (.iastore, 1) := by decide +kernel
theorem s146_204 {l0 : Nat} {l1 : Int} {l2 : Int} {x0 : Nat} {x1 : Int} {x2 : Int} : WP m146 204 [.inr (.inl l0), .inl l1, .inl l2] [.inl x2, .inl x1, .inr (.inl x0)] σ Q = ((kdS x0 = 20 ∧ 0 ≤ x1 ∧ x1 < ln x0) ∧ WP m146 205 [.inr (.inl l0), .inl l1, .inl l2] [] (aup σ x0 x1.toNat x2) Q) := w_iast d146_204
theorem d146_205 : adec m146 205 = some (.aload_n 0, 1) := by decide +kernel
theorem s146_205 {l0 : Nat} {l1 : Int} {l2 : Int} : WP m146 205 [.inr (.inl l0), .inl l1, .inl l2] [] σ Q = WP m146 206 [.inr (.inl l0), .inl l1, .inl l2] [.inr (.inl l0)] σ Q := w_ld d146_205 rfl
theorem d146_206 : adec m146 206 = some (.dup, 1) := by decide +kernel
theorem s146_206 {l0 : Nat} {l1 : Int} {l2 : Int} {x0 : Nat} : WP m146 206 [.inr (.inl l0), .inl l1, .inl l2] [.inr (.inl x0)] σ Q = WP m146 207 [.inr (.inl l0), .inl l1, .inl l2] [.inr (.inl x0), .inr (.inl x0)] σ Q := w_ld d146_206 rfl
theorem d146_207 : adec m146 207 = some (.getfield 104, 3) := by decide +kernel
theorem s146_207 {l0 : Nat} {l1 : Int} {l2 : Int} {x0 : Nat} : WP m146 207 [.inr (.inl l0), .inl l1, .inl l2] [.inr (.inl 130), .inr (.inl x0)] σ Q = WP m146 210 [.inr (.inl l0), .inl l1, .inl l2] [.inl (σ 130 7), .inr (.inl x0)] σ Q := (w_getI (c := 10) (n := 7) d146_207 (by decide +kernel) (by decide +kernel)).trans (g_and (isO_dec (by decide +kernel)))
theorem d146_210 : adec m146 210 = some (.iconst (1), 1) := by decide +kernel
theorem s146_210 {l0 : Nat} {l1 : Int} {l2 : Int} {x0 : Nat} {x1 : Int} : WP m146 210 [.inr (.inl l0), .inl l1, .inl l2] [.inl x1, .inr (.inl x0)] σ Q = WP m146 211 [.inr (.inl l0), .inl l1, .inl l2] [.inl (1), .inl x1, .inr (.inl x0)] σ Q := w_iconst d146_210 (by decide)
theorem d146_211 : adec m146 211 = some (.iadd, 1) := by decide +kernel
theorem s146_211 {l0 : Nat} {l1 : Int} {l2 : Int} {x0 : Nat} {x1 : Int} {x2 : Int} : WP m146 211 [.inr (.inl l0), .inl l1, .inl l2] [.inl x2, .inl x1, .inr (.inl x0)] σ Q = (inI (x1 + x2) ∧ WP m146 212 [.inr (.inl l0), .inl l1, .inl l2] [.inl (x1 + x2), .inr (.inl x0)] σ Q) := w_iadd d146_211
theorem d146_212 : adec m146 212 = some (.putfield 104, 3) := by decide +kernel
theorem s146_212 {l0 : Nat} {l1 : Int} {l2 : Int} {x1 : Int} : WP m146 212 [.inr (.inl l0), .inl l1, .inl l2] [.inl x1, .inr (.inl 130)] σ Q = WP m146 215 [.inr (.inl l0), .inl l1, .inl l2] [] (aup σ 130 7 x1) Q := (w_putI (c := 10) (n := 7) d146_212 (by decide +kernel) (by decide +kernel) (by decide +kernel)).trans (g_and (isO_dec (by decide +kernel)))
theorem d146_215 : adec m146 215 = some (.aload_n 0, 1) := by decide +kernel
theorem s146_215 {l0 : Nat} {l1 : Int} {l2 : Int} : WP m146 215 [.inr (.inl l0), .inl l1, .inl l2] [] σ Q = WP m146 216 [.inr (.inl l0), .inl l1, .inl l2] [.inr (.inl l0)] σ Q := w_ld d146_215 rfl
theorem d146_216 : adec m146 216 = some (.iload_n 1, 1) := by decide +kernel
theorem s146_216 {l0 : Nat} {l1 : Int} {l2 : Int} {x0 : Nat} : WP m146 216 [.inr (.inl l0), .inl l1, .inl l2] [.inr (.inl x0)] σ Q = WP m146 217 [.inr (.inl l0), .inl l1, .inl l2] [.inl l1, .inr (.inl x0)] σ Q := w_ld d146_216 rfl
theorem d146_217 : adec m146 217 = some (.bipush (94), 2) := by decide +kernel
theorem s146_217 {l0 : Nat} {l1 : Int} {l2 : Int} {x0 : Nat} {x1 : Int} : WP m146 217 [.inr (.inl l0), .inl l1, .inl l2] [.inl x1, .inr (.inl x0)] σ Q = WP m146 219 [.inr (.inl l0), .inl l1, .inl l2] [.inl (94), .inl x1, .inr (.inl x0)] σ Q := w_bipush d146_217 (by decide)
theorem d146_219 : adec m146 219 = some (.if_icmp .ne (7), 3) := by decide +kernel
theorem s146_219 {l0 : Nat} {l1 : Int} {l2 : Int} {x0 : Nat} {x1 : Int} {x2 : Int} : WP m146 219 [.inr (.inl l0), .inl l1, .inl l2] [.inl x2, .inl x1, .inr (.inl x0)] σ Q = (if x1 = x2 then WP m146 222 [.inr (.inl l0), .inl l1, .inl l2] [.inr (.inl x0)] σ Q else WP m146 226 [.inr (.inl l0), .inl l1, .inl l2] [.inr (.inl x0)] σ Q) := w_icne d146_219 (by decide)
theorem d146_222 : adec m146 222 = some (.iconst (1), 1) := by decide +kernel
theorem s146_222 {l0 : Nat} {l1 : Int} {l2 : Int} {x0 : Nat} : WP m146 222 [.inr (.inl l0), .inl l1, .inl l2] [.inr (.inl x0)] σ Q = WP m146 223 [.inr (.inl l0), .inl l1, .inl l2] [.inl (1), .inr (.inl x0)] σ Q := w_iconst d146_222 (by decide)
theorem d146_223 : adec m146 223 = some (.goto (4), 3) := by decide +kernel
theorem s146_223 {l0 : Nat} {l1 : Int} {l2 : Int} {x0 : Nat} {x1 : Int} : WP m146 223 [.inr (.inl l0), .inl l1, .inl l2] [.inl x1, .inr (.inl x0)] σ Q = WP m146 227 [.inr (.inl l0), .inl l1, .inl l2] [.inl x1, .inr (.inl x0)] σ Q := w_goto d146_223 (by decide)
theorem d146_226 : adec m146 226 = some (.iconst (0), 1) := by decide +kernel
theorem s146_226 {l0 : Nat} {l1 : Int} {l2 : Int} {x0 : Nat} : WP m146 226 [.inr (.inl l0), .inl l1, .inl l2] [.inr (.inl x0)] σ Q = WP m146 227 [.inr (.inl l0), .inl l1, .inl l2] [.inl (0), .inr (.inl x0)] σ Q := w_iconst d146_226 (by decide)
theorem d146_227 : adec m146 227 = some (.putfield 131, 3) := by decide +kernel
theorem s146_227 {l0 : Nat} {l1 : Int} {l2 : Int} {x1 : Int} : WP m146 227 [.inr (.inl l0), .inl l1, .inl l2] [.inl x1, .inr (.inl 130)] σ Q = WP m146 230 [.inr (.inl l0), .inl l1, .inl l2] [] (aup σ 130 15 x1) Q := (w_putI (c := 10) (n := 15) d146_227 (by decide +kernel) (by decide +kernel) (by decide +kernel)).trans (g_and (isO_dec (by decide +kernel)))
theorem d146_230 : adec m146 230 = some (.goto (8), 3) := by decide +kernel
theorem s146_230 {l0 : Nat} {l1 : Int} {l2 : Int} : WP m146 230 [.inr (.inl l0), .inl l1, .inl l2] [] σ Q = WP m146 238 [.inr (.inl l0), .inl l1, .inl l2] [] σ Q := w_goto d146_230 (by decide)
theorem d146_233 : adec m146 233 = some (.aload_n 0, 1) := by decide +kernel
theorem s146_233 {l0 : Nat} {l1 : Int} {l2 : Int} : WP m146 233 [.inr (.inl l0), .inl l1, .inl l2] [] σ Q = WP m146 234 [.inr (.inl l0), .inl l1, .inl l2] [.inr (.inl l0)] σ Q := w_ld d146_233 rfl
theorem d146_234 : adec m146 234 = some (.iconst (0), 1) := by decide +kernel
theorem s146_234 {l0 : Nat} {l1 : Int} {l2 : Int} {x0 : Nat} : WP m146 234 [.inr (.inl l0), .inl l1, .inl l2] [.inr (.inl x0)] σ Q = WP m146 235 [.inr (.inl l0), .inl l1, .inl l2] [.inl (0), .inr (.inl x0)] σ Q := w_iconst d146_234 (by decide)
theorem d146_235 : adec m146 235 = some (.invokevirtual 138, 3) := by decide +kernel
theorem s146_235 {l0 : Nat} {l1 : Int} {l2 : Int} {x1 : Int} : WP m146 235 [.inr (.inl l0), .inl l1, .inl l2] [.inl x1, .inr (.inl 130)] σ Q = CA m141 [.inr (.inl 130), .inl x1] σ (fun v σ2 => WP m146 238 [.inr (.inl l0), .inl l1, .inl l2] (v ++ []) σ2 Q) := (w_cV (k := 141) d146_235 (by decide +kernel) m141_at rfl rfl ⟨Nat.le_of_ble_eq_true rfl, Nat.le_of_ble_eq_true rfl, Nat.le_of_ble_eq_true rfl⟩ (by decide)).trans (g_and (isO_dec (by decide +kernel)))
theorem d146_238 : adec m146 238 = some (.iconst (0), 1) := by decide +kernel
theorem s146_238 {l0 : Nat} {l1 : Int} {l2 : Int} : WP m146 238 [.inr (.inl l0), .inl l1, .inl l2] [] σ Q = WP m146 239 [.inr (.inl l0), .inl l1, .inl l2] [.inl (0)] σ Q := w_iconst d146_238 (by decide)
theorem d146_239 : adec m146 239 = some (.ireturn, 1) := by decide +kernel
theorem s146_239 {l0 : Nat} {l1 : Int} {l2 : Int} {x0 : Int} : WP m146 239 [.inr (.inl l0), .inl l1, .inl l2] [.inl x0] σ Q = Q [.inl x0] σ := w_ri d146_239 rfl
theorem e146 {p0 : Nat} {p1 : Int} : CA m146 [.inr (.inl p0), .inl p1] σ Q = WP m146 0 [.inr (.inl p0), .inl p1, vU] [] σ Q := rfl
-- BinderPressModel.term(I)I
theorem d147_0 : adec m147 0 = some (.iload_n 1, 1) := by decide +kernel
theorem s147_0 {l0 : Nat} {l1 : Int} {l2 : AV} {l3 : AV} : WP m147 0 [.inr (.inl l0), .inl l1, l2, l3] [] σ Q = WP m147 1 [.inr (.inl l0), .inl l1, l2, l3] [.inl l1] σ Q := w_ld d147_0 rfl
theorem d147_1 : adec m147 1 = some (.invokestatic 152, 3) := by decide +kernel
theorem s147_1 {l0 : Nat} {l1 : Int} {l2 : AV} {l3 : AV} {x0 : Int} : WP m147 1 [.inr (.inl l0), .inl l1, l2, l3] [.inl x0] σ Q = CA m130 [.inl x0] σ (fun v σ2 => WP m147 4 [.inr (.inl l0), .inl l1, l2, l3] (v ++ []) σ2 Q) := w_cS (k := 130) d147_1 (by decide +kernel) (md := 1) (by decide +kernel) m130_at rfl rfl ⟨Nat.le_of_ble_eq_true rfl, Nat.le_of_ble_eq_true rfl, Nat.le_of_ble_eq_true rfl⟩ (by decide)
theorem d147_4 : adec m147 4 = some (.ifCond .ne (6), 3) := by decide +kernel
theorem s147_4 {l0 : Nat} {l1 : Int} {l2 : AV} {l3 : AV} {x0 : Int} : WP m147 4 [.inr (.inl l0), .inl l1, l2, l3] [.inl x0] σ Q = (if x0 = 0 then WP m147 7 [.inr (.inl l0), .inl l1, l2, l3] [] σ Q else WP m147 10 [.inr (.inl l0), .inl l1, l2, l3] [] σ Q) := w_ifne d147_4 (by decide)
theorem d147_7 : adec m147 7 = some (.ldc 155, 2) := by decide +kernel
theorem s147_7 {l0 : Nat} {l1 : Int} {l2 : AV} {l3 : AV} : WP m147 7 [.inr (.inl l0), .inl l1, l2, l3] [] σ Q = WP m147 9 [.inr (.inl l0), .inl l1, l2, l3] [.inl (-1000000001)] σ Q := w_ldc d147_7 (by decide +kernel) (by decide)
theorem d147_9 : adec m147 9 = some (.ireturn, 1) := by decide +kernel
theorem s147_9 {l0 : Nat} {l1 : Int} {l2 : AV} {l3 : AV} {x0 : Int} : WP m147 9 [.inr (.inl l0), .inl l1, l2, l3] [.inl x0] σ Q = Q [.inl x0] σ := w_ri d147_9 rfl
theorem d147_10 : adec m147 10 = some (.aload_n 0, 1) := by decide +kernel
theorem s147_10 {l0 : Nat} {l1 : Int} {l2 : AV} {l3 : AV} : WP m147 10 [.inr (.inl l0), .inl l1, l2, l3] [] σ Q = WP m147 11 [.inr (.inl l0), .inl l1, l2, l3] [.inr (.inl l0)] σ Q := w_ld d147_10 rfl
theorem d147_11 : adec m147 11 = some (.iconst (0), 1) := by decide +kernel
theorem s147_11 {l0 : Nat} {l1 : Int} {l2 : AV} {l3 : AV} {x0 : Nat} : WP m147 11 [.inr (.inl l0), .inl l1, l2, l3] [.inr (.inl x0)] σ Q = WP m147 12 [.inr (.inl l0), .inl l1, l2, l3] [.inl (0), .inr (.inl x0)] σ Q := w_iconst d147_11 (by decide)
theorem d147_12 : adec m147 12 = some (.putfield 104, 3) := by decide +kernel
theorem s147_12 {l0 : Nat} {l1 : Int} {l2 : AV} {l3 : AV} {x1 : Int} : WP m147 12 [.inr (.inl l0), .inl l1, l2, l3] [.inl x1, .inr (.inl 130)] σ Q = WP m147 15 [.inr (.inl l0), .inl l1, l2, l3] [] (aup σ 130 7 x1) Q := (w_putI (c := 10) (n := 7) d147_12 (by decide +kernel) (by decide +kernel) (by decide +kernel)).trans (g_and (isO_dec (by decide +kernel)))
theorem d147_15 : adec m147 15 = some (.aload_n 0, 1) := by decide +kernel
theorem s147_15 {l0 : Nat} {l1 : Int} {l2 : AV} {l3 : AV} : WP m147 15 [.inr (.inl l0), .inl l1, l2, l3] [] σ Q = WP m147 16 [.inr (.inl l0), .inl l1, l2, l3] [.inr (.inl l0)] σ Q := w_ld d147_15 rfl
theorem d147_16 : adec m147 16 = some (.iconst (0), 1) := by decide +kernel
theorem s147_16 {l0 : Nat} {l1 : Int} {l2 : AV} {l3 : AV} {x0 : Nat} : WP m147 16 [.inr (.inl l0), .inl l1, l2, l3] [.inr (.inl x0)] σ Q = WP m147 17 [.inr (.inl l0), .inl l1, l2, l3] [.inl (0), .inr (.inl x0)] σ Q := w_iconst d147_16 (by decide)
theorem d147_17 : adec m147 17 = some (.putfield 124, 3) := by decide +kernel
theorem s147_17 {l0 : Nat} {l1 : Int} {l2 : AV} {l3 : AV} {x1 : Int} : WP m147 17 [.inr (.inl l0), .inl l1, l2, l3] [.inl x1, .inr (.inl 130)] σ Q = WP m147 20 [.inr (.inl l0), .inl l1, l2, l3] [] (aup σ 130 14 x1) Q := (w_putI (c := 10) (n := 14) d147_17 (by decide +kernel) (by decide +kernel) (by decide +kernel)).trans (g_and (isO_dec (by decide +kernel)))
theorem d147_20 : adec m147 20 = some (.aload_n 0, 1) := by decide +kernel
theorem s147_20 {l0 : Nat} {l1 : Int} {l2 : AV} {l3 : AV} : WP m147 20 [.inr (.inl l0), .inl l1, l2, l3] [] σ Q = WP m147 21 [.inr (.inl l0), .inl l1, l2, l3] [.inr (.inl l0)] σ Q := w_ld d147_20 rfl
theorem d147_21 : adec m147 21 = some (.getfield 33, 3) := by decide +kernel
theorem s147_21 {l0 : Nat} {l1 : Int} {l2 : AV} {l3 : AV} : WP m147 21 [.inr (.inl l0), .inl l1, l2, l3] [.inr (.inl 130)] σ Q = WP m147 24 [.inr (.inl l0), .inl l1, l2, l3] [.inr (.inl 137)] σ Q := (w_getR (c := 10) (n := 12) d147_21 (by decide +kernel) (by decide +kernel)).trans (g_and ⟨isO_dec (by decide +kernel), by decide +kernel⟩)
theorem d147_24 : adec m147 24 = some (.iconst (0), 1) := by decide +kernel
theorem s147_24 {l0 : Nat} {l1 : Int} {l2 : AV} {l3 : AV} {x0 : Nat} : WP m147 24 [.inr (.inl l0), .inl l1, l2, l3] [.inr (.inl x0)] σ Q = WP m147 25 [.inr (.inl l0), .inl l1, l2, l3] [.inl (0), .inr (.inl x0)] σ Q := w_iconst d147_24 (by decide)
theorem d147_25 : adec m147 25 = some (.iconst (0), 1) := by decide +kernel
theorem s147_25 {l0 : Nat} {l1 : Int} {l2 : AV} {l3 : AV} {x0 : Nat} {x1 : Int} : WP m147 25 [.inr (.inl l0), .inl l1, l2, l3] [.inl x1, .inr (.inl x0)] σ Q = WP m147 26 [.inr (.inl l0), .inl l1, l2, l3] [.inl (0), .inl x1, .inr (.inl x0)] σ Q := w_iconst d147_25 (by decide)
theorem d147_26 : adec m147 26 = some (.iastore, 1) := by decide +kernel
theorem s147_26 {l0 : Nat} {l1 : Int} {l2 : AV} {l3 : AV} {x0 : Nat} {x1 : Int} {x2 : Int} : WP m147 26 [.inr (.inl l0), .inl l1, l2, l3] [.inl x2, .inl x1, .inr (.inl x0)] σ Q = ((kdS x0 = 20 ∧ 0 ≤ x1 ∧ x1 < ln x0) ∧ WP m147 27 [.inr (.inl l0), .inl l1, l2, l3] [] (aup σ x0 x1.toNat x2) Q) := w_iast d147_26
theorem d147_27 : adec m147 27 = some (.aload_n 0, 1) := by decide +kernel
theorem s147_27 {l0 : Nat} {l1 : Int} {l2 : AV} {l3 : AV} : WP m147 27 [.inr (.inl l0), .inl l1, l2, l3] [] σ Q = WP m147 28 [.inr (.inl l0), .inl l1, l2, l3] [.inr (.inl l0)] σ Q := w_ld d147_27 rfl
theorem d147_28 : adec m147 28 = some (.getfield 36, 3) := by decide +kernel
theorem s147_28 {l0 : Nat} {l1 : Int} {l2 : AV} {l3 : AV} : WP m147 28 [.inr (.inl l0), .inl l1, l2, l3] [.inr (.inl 130)] σ Q = WP m147 31 [.inr (.inl l0), .inl l1, l2, l3] [.inr (.inl 138)] σ Q := (w_getR (c := 10) (n := 13) d147_28 (by decide +kernel) (by decide +kernel)).trans (g_and ⟨isO_dec (by decide +kernel), by decide +kernel⟩)
theorem d147_31 : adec m147 31 = some (.iconst (0), 1) := by decide +kernel
theorem s147_31 {l0 : Nat} {l1 : Int} {l2 : AV} {l3 : AV} {x0 : Nat} : WP m147 31 [.inr (.inl l0), .inl l1, l2, l3] [.inr (.inl x0)] σ Q = WP m147 32 [.inr (.inl l0), .inl l1, l2, l3] [.inl (0), .inr (.inl x0)] σ Q := w_iconst d147_31 (by decide)
theorem d147_32 : adec m147 32 = some (.iconst (0), 1) := by decide +kernel
theorem s147_32 {l0 : Nat} {l1 : Int} {l2 : AV} {l3 : AV} {x0 : Nat} {x1 : Int} : WP m147 32 [.inr (.inl l0), .inl l1, l2, l3] [.inl x1, .inr (.inl x0)] σ Q = WP m147 33 [.inr (.inl l0), .inl l1, l2, l3] [.inl (0), .inl x1, .inr (.inl x0)] σ Q := w_iconst d147_32 (by decide)
theorem d147_33 : adec m147 33 = some (.bastore, 1) := by decide +kernel
theorem s147_33 {l0 : Nat} {l1 : Int} {l2 : AV} {l3 : AV} {x0 : Nat} {x1 : Int} {x2 : Int} : WP m147 33 [.inr (.inl l0), .inl l1, l2, l3] [.inl x2, .inl x1, .inr (.inl x0)] σ Q = ((kdS x0 = 21 ∧ 0 ≤ x1 ∧ x1 < ln x0 ∧ (x2 = 0 ∨ x2 = 1)) ∧ WP m147 34 [.inr (.inl l0), .inl l1, l2, l3] [] (aup σ x0 x1.toNat x2) Q) := w_zast d147_33
theorem d147_34 : adec m147 34 = some (.aload_n 0, 1) := by decide +kernel
theorem s147_34 {l0 : Nat} {l1 : Int} {l2 : AV} {l3 : AV} : WP m147 34 [.inr (.inl l0), .inl l1, l2, l3] [] σ Q = WP m147 35 [.inr (.inl l0), .inl l1, l2, l3] [.inr (.inl l0)] σ Q := w_ld d147_34 rfl
theorem d147_35 : adec m147 35 = some (.iconst (0), 1) := by decide +kernel
theorem s147_35 {l0 : Nat} {l1 : Int} {l2 : AV} {l3 : AV} {x0 : Nat} : WP m147 35 [.inr (.inl l0), .inl l1, l2, l3] [.inr (.inl x0)] σ Q = WP m147 36 [.inr (.inl l0), .inl l1, l2, l3] [.inl (0), .inr (.inl x0)] σ Q := w_iconst d147_35 (by decide)
theorem d147_36 : adec m147 36 = some (.putfield 131, 3) := by decide +kernel
theorem s147_36 {l0 : Nat} {l1 : Int} {l2 : AV} {l3 : AV} {x1 : Int} : WP m147 36 [.inr (.inl l0), .inl l1, l2, l3] [.inl x1, .inr (.inl 130)] σ Q = WP m147 39 [.inr (.inl l0), .inl l1, l2, l3] [] (aup σ 130 15 x1) Q := (w_putI (c := 10) (n := 15) d147_36 (by decide +kernel) (by decide +kernel) (by decide +kernel)).trans (g_and (isO_dec (by decide +kernel)))
theorem d147_39 : adec m147 39 = some (.iconst (0), 1) := by decide +kernel
theorem s147_39 {l0 : Nat} {l1 : Int} {l2 : AV} {l3 : AV} : WP m147 39 [.inr (.inl l0), .inl l1, l2, l3] [] σ Q = WP m147 40 [.inr (.inl l0), .inl l1, l2, l3] [.inl (0)] σ Q := w_iconst d147_39 (by decide)
theorem d147_40 : adec m147 40 = some (.istore_n 2, 1) := by decide +kernel
theorem s147_40 {l0 : Nat} {l1 : Int} {l2 : AV} {l3 : AV} {x0 : Int} : WP m147 40 [.inr (.inl l0), .inl l1, l2, l3] [.inl x0] σ Q = WP m147 41 [.inr (.inl l0), .inl l1, .inl x0, l3] [] σ Q := w_st1 (j := 2) d147_40 rfl (Nat.le_of_ble_eq_true rfl) rfl
theorem d147_41 : adec m147 41 = some (.iconst (0), 1) := by decide +kernel
theorem s147_41 {l0 : Nat} {l1 : Int} {l2 : Int} {l3 : AV} : WP m147 41 [.inr (.inl l0), .inl l1, .inl l2, l3] [] σ Q = WP m147 42 [.inr (.inl l0), .inl l1, .inl l2, l3] [.inl (0)] σ Q := w_iconst d147_41 (by decide)
theorem d147_42 : adec m147 42 = some (.istore_n 3, 1) := by decide +kernel
theorem s147_42 {l0 : Nat} {l1 : Int} {l2 : Int} {l3 : AV} {x0 : Int} : WP m147 42 [.inr (.inl l0), .inl l1, .inl l2, l3] [.inl x0] σ Q = WP m147 43 [.inr (.inl l0), .inl l1, .inl l2, .inl x0] [] σ Q := w_st1 (j := 3) d147_42 rfl (Nat.le_of_ble_eq_true rfl) rfl
theorem d147_43 : adec m147 43 = some (.iload_n 3, 1) := by decide +kernel
theorem s147_43 {l0 : Nat} {l1 : Int} {l2 : Int} {l3 : Int} : WP m147 43 [.inr (.inl l0), .inl l1, .inl l2, .inl l3] [] σ Q = WP m147 44 [.inr (.inl l0), .inl l1, .inl l2, .inl l3] [.inl l3] σ Q := w_ld d147_43 rfl
theorem d147_44 : adec m147 44 = some (.aload_n 0, 1) := by decide +kernel
theorem s147_44 {l0 : Nat} {l1 : Int} {l2 : Int} {l3 : Int} {x0 : Int} : WP m147 44 [.inr (.inl l0), .inl l1, .inl l2, .inl l3] [.inl x0] σ Q = WP m147 45 [.inr (.inl l0), .inl l1, .inl l2, .inl l3] [.inr (.inl l0), .inl x0] σ Q := w_ld d147_44 rfl
theorem d147_45 : adec m147 45 = some (.getfield 121, 3) := by decide +kernel
theorem s147_45 {l0 : Nat} {l1 : Int} {l2 : Int} {l3 : Int} {x0 : Int} : WP m147 45 [.inr (.inl l0), .inl l1, .inl l2, .inl l3] [.inr (.inl 130), .inl x0] σ Q = WP m147 48 [.inr (.inl l0), .inl l1, .inl l2, .inl l3] [.inl (σ 130 4), .inl x0] σ Q := (w_getI (c := 10) (n := 4) d147_45 (by decide +kernel) (by decide +kernel)).trans (g_and (isO_dec (by decide +kernel)))
theorem d147_48 : adec m147 48 = some (.if_icmp .ge (33), 3) := by decide +kernel
theorem s147_48 {l0 : Nat} {l1 : Int} {l2 : Int} {l3 : Int} {x0 : Int} {x1 : Int} : WP m147 48 [.inr (.inl l0), .inl l1, .inl l2, .inl l3] [.inl x1, .inl x0] σ Q = (if x1 ≤ x0 then WP m147 81 [.inr (.inl l0), .inl l1, .inl l2, .inl l3] [] σ Q else WP m147 51 [.inr (.inl l0), .inl l1, .inl l2, .inl l3] [] σ Q) := w_icge d147_48 (by decide)
theorem d147_51 : adec m147 51 = some (.iload_n 2, 1) := by decide +kernel
theorem s147_51 {l0 : Nat} {l1 : Int} {l2 : Int} {l3 : Int} : WP m147 51 [.inr (.inl l0), .inl l1, .inl l2, .inl l3] [] σ Q = WP m147 52 [.inr (.inl l0), .inl l1, .inl l2, .inl l3] [.inl l2] σ Q := w_ld d147_51 rfl
theorem d147_52 : adec m147 52 = some (.ifCond .ne (29), 3) := by decide +kernel
theorem s147_52 {l0 : Nat} {l1 : Int} {l2 : Int} {l3 : Int} {x0 : Int} : WP m147 52 [.inr (.inl l0), .inl l1, .inl l2, .inl l3] [.inl x0] σ Q = (if x0 = 0 then WP m147 55 [.inr (.inl l0), .inl l1, .inl l2, .inl l3] [] σ Q else WP m147 81 [.inr (.inl l0), .inl l1, .inl l2, .inl l3] [] σ Q) := w_ifne d147_52 (by decide)
theorem d147_55 : adec m147 55 = some (.aload_n 0, 1) := by decide +kernel
theorem s147_55 {l0 : Nat} {l1 : Int} {l2 : Int} {l3 : Int} : WP m147 55 [.inr (.inl l0), .inl l1, .inl l2, .inl l3] [] σ Q = WP m147 56 [.inr (.inl l0), .inl l1, .inl l2, .inl l3] [.inr (.inl l0)] σ Q := w_ld d147_55 rfl
theorem d147_56 : adec m147 56 = some (.aload_n 0, 1) := by decide +kernel
theorem s147_56 {l0 : Nat} {l1 : Int} {l2 : Int} {l3 : Int} {x0 : Nat} : WP m147 56 [.inr (.inl l0), .inl l1, .inl l2, .inl l3] [.inr (.inl x0)] σ Q = WP m147 57 [.inr (.inl l0), .inl l1, .inl l2, .inl l3] [.inr (.inl l0), .inr (.inl x0)] σ Q := w_ld d147_56 rfl
theorem d147_57 : adec m147 57 = some (.getfield 17, 3) := by decide +kernel
theorem s147_57 {l0 : Nat} {l1 : Int} {l2 : Int} {l3 : Int} {x0 : Nat} : WP m147 57 [.inr (.inl l0), .inl l1, .inl l2, .inl l3] [.inr (.inl 130), .inr (.inl x0)] σ Q = WP m147 60 [.inr (.inl l0), .inl l1, .inl l2, .inl l3] [.inr (.inl 133), .inr (.inl x0)] σ Q := (w_getR (c := 10) (n := 3) d147_57 (by decide +kernel) (by decide +kernel)).trans (g_and ⟨isO_dec (by decide +kernel), by decide +kernel⟩)
theorem d147_60 : adec m147 60 = some (.iload_n 3, 1) := by decide +kernel
theorem s147_60 {l0 : Nat} {l1 : Int} {l2 : Int} {l3 : Int} {x0 : Nat} {x1 : Nat} : WP m147 60 [.inr (.inl l0), .inl l1, .inl l2, .inl l3] [.inr (.inl x1), .inr (.inl x0)] σ Q = WP m147 61 [.inr (.inl l0), .inl l1, .inl l2, .inl l3] [.inl l3, .inr (.inl x1), .inr (.inl x0)] σ Q := w_ld d147_60 rfl
theorem d147_61 : adec m147 61 = some (.iaload, 1) := by decide +kernel
theorem s147_61 {l0 : Nat} {l1 : Int} {l2 : Int} {l3 : Int} {x0 : Nat} {x1 : Nat} {x2 : Int} : WP m147 61 [.inr (.inl l0), .inl l1, .inl l2, .inl l3] [.inl x2, .inr (.inl x1), .inr (.inl x0)] σ Q = ((kdS x1 = 20 ∧ 0 ≤ x2 ∧ x2 < ln x1) ∧ WP m147 62 [.inr (.inl l0), .inl l1, .inl l2, .inl l3] [.inl (σ x1 x2.toNat), .inr (.inl x0)] σ Q) := w_iald d147_61
theorem d147_62 : adec m147 62 = some (.invokevirtual 156, 3) := by decide +kernel
theorem s147_62 {l0 : Nat} {l1 : Int} {l2 : Int} {l3 : Int} {x1 : Int} : WP m147 62 [.inr (.inl l0), .inl l1, .inl l2, .inl l3] [.inl x1, .inr (.inl 130)] σ Q = CA m146 [.inr (.inl 130), .inl x1] σ (fun v σ2 => WP m147 65 [.inr (.inl l0), .inl l1, .inl l2, .inl l3] (v ++ []) σ2 Q) := (w_cV (k := 146) d147_62 (by decide +kernel) m146_at rfl rfl ⟨Nat.le_of_ble_eq_true rfl, Nat.le_of_ble_eq_true rfl, Nat.le_of_ble_eq_true rfl⟩ (by decide)).trans (g_and (isO_dec (by decide +kernel)))
theorem d147_65 : adec m147 65 = some (.istore_n 2, 1) := by decide +kernel
theorem s147_65 {l0 : Nat} {l1 : Int} {l2 : Int} {l3 : Int} {x0 : Int} : WP m147 65 [.inr (.inl l0), .inl l1, .inl l2, .inl l3] [.inl x0] σ Q = WP m147 66 [.inr (.inl l0), .inl l1, .inl x0, .inl l3] [] σ Q := w_st1 (j := 2) d147_65 rfl (Nat.le_of_ble_eq_true rfl) rfl
theorem d147_66 : adec m147 66 = some (.iload_n 3, 1) := by decide +kernel
theorem s147_66 {l0 : Nat} {l1 : Int} {l2 : Int} {l3 : Int} : WP m147 66 [.inr (.inl l0), .inl l1, .inl l2, .inl l3] [] σ Q = WP m147 67 [.inr (.inl l0), .inl l1, .inl l2, .inl l3] [.inl l3] σ Q := w_ld d147_66 rfl
theorem d147_67 : adec m147 67 = some (.iload_n 2, 1) := by decide +kernel
theorem s147_67 {l0 : Nat} {l1 : Int} {l2 : Int} {l3 : Int} {x0 : Int} : WP m147 67 [.inr (.inl l0), .inl l1, .inl l2, .inl l3] [.inl x0] σ Q = WP m147 68 [.inr (.inl l0), .inl l1, .inl l2, .inl l3] [.inl l2, .inl x0] σ Q := w_ld d147_67 rfl
theorem d147_68 : adec m147 68 = some (.ifCond .ne (7), 3) := by decide +kernel
theorem s147_68 {l0 : Nat} {l1 : Int} {l2 : Int} {l3 : Int} {x0 : Int} {x1 : Int} : WP m147 68 [.inr (.inl l0), .inl l1, .inl l2, .inl l3] [.inl x1, .inl x0] σ Q = (if x1 = 0 then WP m147 71 [.inr (.inl l0), .inl l1, .inl l2, .inl l3] [.inl x0] σ Q else WP m147 75 [.inr (.inl l0), .inl l1, .inl l2, .inl l3] [.inl x0] σ Q) := w_ifne d147_68 (by decide)
theorem d147_71 : adec m147 71 = some (.iconst (1), 1) := by decide +kernel
theorem s147_71 {l0 : Nat} {l1 : Int} {l2 : Int} {l3 : Int} {x0 : Int} : WP m147 71 [.inr (.inl l0), .inl l1, .inl l2, .inl l3] [.inl x0] σ Q = WP m147 72 [.inr (.inl l0), .inl l1, .inl l2, .inl l3] [.inl (1), .inl x0] σ Q := w_iconst d147_71 (by decide)
theorem d147_72 : adec m147 72 = some (.goto (4), 3) := by decide +kernel
theorem s147_72 {l0 : Nat} {l1 : Int} {l2 : Int} {l3 : Int} {x0 : Int} {x1 : Int} : WP m147 72 [.inr (.inl l0), .inl l1, .inl l2, .inl l3] [.inl x1, .inl x0] σ Q = WP m147 76 [.inr (.inl l0), .inl l1, .inl l2, .inl l3] [.inl x1, .inl x0] σ Q := w_goto d147_72 (by decide)
theorem d147_75 : adec m147 75 = some (.iconst (0), 1) := by decide +kernel
theorem s147_75 {l0 : Nat} {l1 : Int} {l2 : Int} {l3 : Int} {x0 : Int} : WP m147 75 [.inr (.inl l0), .inl l1, .inl l2, .inl l3] [.inl x0] σ Q = WP m147 76 [.inr (.inl l0), .inl l1, .inl l2, .inl l3] [.inl (0), .inl x0] σ Q := w_iconst d147_75 (by decide)
theorem d147_76 : adec m147 76 = some (.iadd, 1) := by decide +kernel
theorem s147_76 {l0 : Nat} {l1 : Int} {l2 : Int} {l3 : Int} {x0 : Int} {x1 : Int} : WP m147 76 [.inr (.inl l0), .inl l1, .inl l2, .inl l3] [.inl x1, .inl x0] σ Q = (inI (x0 + x1) ∧ WP m147 77 [.inr (.inl l0), .inl l1, .inl l2, .inl l3] [.inl (x0 + x1)] σ Q) := w_iadd d147_76
theorem d147_77 : adec m147 77 = some (.istore_n 3, 1) := by decide +kernel
theorem s147_77 {l0 : Nat} {l1 : Int} {l2 : Int} {l3 : Int} {x0 : Int} : WP m147 77 [.inr (.inl l0), .inl l1, .inl l2, .inl l3] [.inl x0] σ Q = WP m147 78 [.inr (.inl l0), .inl l1, .inl l2, .inl x0] [] σ Q := w_st1 (j := 3) d147_77 rfl (Nat.le_of_ble_eq_true rfl) rfl
theorem d147_78 : adec m147 78 = some (.goto (-35), 3) := by decide +kernel
theorem s147_78 {l0 : Nat} {l1 : Int} {l2 : Int} {l3 : Int} : WP m147 78 [.inr (.inl l0), .inl l1, .inl l2, .inl l3] [] σ Q = WP m147 43 [.inr (.inl l0), .inl l1, .inl l2, .inl l3] [] σ Q := w_goto d147_78 (by decide)
theorem d147_81 : adec m147 81 = some (.iload_n 2, 1) := by decide +kernel
theorem s147_81 {l0 : Nat} {l1 : Int} {l2 : Int} {l3 : Int} : WP m147 81 [.inr (.inl l0), .inl l1, .inl l2, .inl l3] [] σ Q = WP m147 82 [.inr (.inl l0), .inl l1, .inl l2, .inl l3] [.inl l2] σ Q := w_ld d147_81 rfl
theorem d147_82 : adec m147 82 = some (.ifCond .ne (22), 3) := by decide +kernel
theorem s147_82 {l0 : Nat} {l1 : Int} {l2 : Int} {l3 : Int} {x0 : Int} : WP m147 82 [.inr (.inl l0), .inl l1, .inl l2, .inl l3] [.inl x0] σ Q = (if x0 = 0 then WP m147 85 [.inr (.inl l0), .inl l1, .inl l2, .inl l3] [] σ Q else WP m147 104 [.inr (.inl l0), .inl l1, .inl l2, .inl l3] [] σ Q) := w_ifne d147_82 (by decide)
theorem d147_85 : adec m147 85 = some (.aload_n 0, 1) := by decide +kernel
theorem s147_85 {l0 : Nat} {l1 : Int} {l2 : Int} {l3 : Int} : WP m147 85 [.inr (.inl l0), .inl l1, .inl l2, .inl l3] [] σ Q = WP m147 86 [.inr (.inl l0), .inl l1, .inl l2, .inl l3] [.inr (.inl l0)] σ Q := w_ld d147_85 rfl
theorem d147_86 : adec m147 86 = some (.getfield 131, 3) := by decide +kernel
theorem s147_86 {l0 : Nat} {l1 : Int} {l2 : Int} {l3 : Int} : WP m147 86 [.inr (.inl l0), .inl l1, .inl l2, .inl l3] [.inr (.inl 130)] σ Q = WP m147 89 [.inr (.inl l0), .inl l1, .inl l2, .inl l3] [.inl (σ 130 15)] σ Q := (w_getI (c := 10) (n := 15) d147_86 (by decide +kernel) (by decide +kernel)).trans (g_and (isO_dec (by decide +kernel)))
theorem d147_89 : adec m147 89 = some (.ifCond .ne (11), 3) := by decide +kernel
theorem s147_89 {l0 : Nat} {l1 : Int} {l2 : Int} {l3 : Int} {x0 : Int} : WP m147 89 [.inr (.inl l0), .inl l1, .inl l2, .inl l3] [.inl x0] σ Q = (if x0 = 0 then WP m147 92 [.inr (.inl l0), .inl l1, .inl l2, .inl l3] [] σ Q else WP m147 100 [.inr (.inl l0), .inl l1, .inl l2, .inl l3] [] σ Q) := w_ifne d147_89 (by decide)
theorem d147_92 : adec m147 92 = some (.aload_n 0, 1) := by decide +kernel
theorem s147_92 {l0 : Nat} {l1 : Int} {l2 : Int} {l3 : Int} : WP m147 92 [.inr (.inl l0), .inl l1, .inl l2, .inl l3] [] σ Q = WP m147 93 [.inr (.inl l0), .inl l1, .inl l2, .inl l3] [.inr (.inl l0)] σ Q := w_ld d147_92 rfl
theorem d147_93 : adec m147 93 = some (.iconst (0), 1) := by decide +kernel
theorem s147_93 {l0 : Nat} {l1 : Int} {l2 : Int} {l3 : Int} {x0 : Nat} : WP m147 93 [.inr (.inl l0), .inl l1, .inl l2, .inl l3] [.inr (.inl x0)] σ Q = WP m147 94 [.inr (.inl l0), .inl l1, .inl l2, .inl l3] [.inl (0), .inr (.inl x0)] σ Q := w_iconst d147_93 (by decide)
theorem d147_94 : adec m147 94 = some (.invokevirtual 142, 3) := by decide +kernel
theorem s147_94 {l0 : Nat} {l1 : Int} {l2 : Int} {l3 : Int} {x1 : Int} : WP m147 94 [.inr (.inl l0), .inl l1, .inl l2, .inl l3] [.inl x1, .inr (.inl 130)] σ Q = CA m145 [.inr (.inl 130), .inl x1] σ (fun v σ2 => WP m147 97 [.inr (.inl l0), .inl l1, .inl l2, .inl l3] (v ++ []) σ2 Q) := (w_cV (k := 145) d147_94 (by decide +kernel) m145_at rfl rfl ⟨Nat.le_of_ble_eq_true rfl, Nat.le_of_ble_eq_true rfl, Nat.le_of_ble_eq_true rfl⟩ (by decide)).trans (g_and (isO_dec (by decide +kernel)))
theorem d147_97 : adec m147 97 = some (.ifCond .ne (7), 3) := by decide +kernel
theorem s147_97 {l0 : Nat} {l1 : Int} {l2 : Int} {l3 : Int} {x0 : Int} : WP m147 97 [.inr (.inl l0), .inl l1, .inl l2, .inl l3] [.inl x0] σ Q = (if x0 = 0 then WP m147 100 [.inr (.inl l0), .inl l1, .inl l2, .inl l3] [] σ Q else WP m147 104 [.inr (.inl l0), .inl l1, .inl l2, .inl l3] [] σ Q) := w_ifne d147_97 (by decide)
theorem d147_100 : adec m147 100 = some (.iconst (1), 1) := by decide +kernel
theorem s147_100 {l0 : Nat} {l1 : Int} {l2 : Int} {l3 : Int} : WP m147 100 [.inr (.inl l0), .inl l1, .inl l2, .inl l3] [] σ Q = WP m147 101 [.inr (.inl l0), .inl l1, .inl l2, .inl l3] [.inl (1)] σ Q := w_iconst d147_100 (by decide)
theorem d147_101 : adec m147 101 = some (.goto (4), 3) := by decide +kernel
theorem s147_101 {l0 : Nat} {l1 : Int} {l2 : Int} {l3 : Int} {x0 : Int} : WP m147 101 [.inr (.inl l0), .inl l1, .inl l2, .inl l3] [.inl x0] σ Q = WP m147 105 [.inr (.inl l0), .inl l1, .inl l2, .inl l3] [.inl x0] σ Q := w_goto d147_101 (by decide)
theorem d147_104 : adec m147 104 = some (.iload_n 2, 1) := by decide +kernel
theorem s147_104 {l0 : Nat} {l1 : Int} {l2 : Int} {l3 : Int} : WP m147 104 [.inr (.inl l0), .inl l1, .inl l2, .inl l3] [] σ Q = WP m147 105 [.inr (.inl l0), .inl l1, .inl l2, .inl l3] [.inl l2] σ Q := w_ld d147_104 rfl
theorem d147_105 : adec m147 105 = some (.istore_n 2, 1) := by decide +kernel
theorem s147_105 {l0 : Nat} {l1 : Int} {l2 : Int} {l3 : Int} {x0 : Int} : WP m147 105 [.inr (.inl l0), .inl l1, .inl l2, .inl l3] [.inl x0] σ Q = WP m147 106 [.inr (.inl l0), .inl l1, .inl x0, .inl l3] [] σ Q := w_st1 (j := 2) d147_105 rfl (Nat.le_of_ble_eq_true rfl) rfl
theorem d147_106 : adec m147 106 = some (.aload_n 0, 1) := by decide +kernel
theorem s147_106 {l0 : Nat} {l1 : Int} {l2 : Int} {l3 : Int} : WP m147 106 [.inr (.inl l0), .inl l1, .inl l2, .inl l3] [] σ Q = WP m147 107 [.inr (.inl l0), .inl l1, .inl l2, .inl l3] [.inr (.inl l0)] σ Q := w_ld d147_106 rfl
theorem d147_107 : adec m147 107 = some (.iconst (0), 1) := by decide +kernel
theorem s147_107 {l0 : Nat} {l1 : Int} {l2 : Int} {l3 : Int} {x0 : Nat} : WP m147 107 [.inr (.inl l0), .inl l1, .inl l2, .inl l3] [.inr (.inl x0)] σ Q = WP m147 108 [.inr (.inl l0), .inl l1, .inl l2, .inl l3] [.inl (0), .inr (.inl x0)] σ Q := w_iconst d147_107 (by decide)
theorem d147_108 : adec m147 108 = some (.putfield 121, 3) := by decide +kernel
theorem s147_108 {l0 : Nat} {l1 : Int} {l2 : Int} {l3 : Int} {x1 : Int} : WP m147 108 [.inr (.inl l0), .inl l1, .inl l2, .inl l3] [.inl x1, .inr (.inl 130)] σ Q = WP m147 111 [.inr (.inl l0), .inl l1, .inl l2, .inl l3] [] (aup σ 130 4 x1) Q := (w_putI (c := 10) (n := 4) d147_108 (by decide +kernel) (by decide +kernel) (by decide +kernel)).trans (g_and (isO_dec (by decide +kernel)))
theorem d147_111 : adec m147 111 = some (.aload_n 0, 1) := by decide +kernel
theorem s147_111 {l0 : Nat} {l1 : Int} {l2 : Int} {l3 : Int} : WP m147 111 [.inr (.inl l0), .inl l1, .inl l2, .inl l3] [] σ Q = WP m147 112 [.inr (.inl l0), .inl l1, .inl l2, .inl l3] [.inr (.inl l0)] σ Q := w_ld d147_111 rfl
theorem d147_112 : adec m147 112 = some (.iload_n 2, 1) := by decide +kernel
theorem s147_112 {l0 : Nat} {l1 : Int} {l2 : Int} {l3 : Int} {x0 : Nat} : WP m147 112 [.inr (.inl l0), .inl l1, .inl l2, .inl l3] [.inr (.inl x0)] σ Q = WP m147 113 [.inr (.inl l0), .inl l1, .inl l2, .inl l3] [.inl l2, .inr (.inl x0)] σ Q := w_ld d147_112 rfl
theorem d147_113 : adec m147 113 = some (.ifCond .ne (7), 3) := by decide +kernel
theorem s147_113 {l0 : Nat} {l1 : Int} {l2 : Int} {l3 : Int} {x0 : Nat} {x1 : Int} : WP m147 113 [.inr (.inl l0), .inl l1, .inl l2, .inl l3] [.inl x1, .inr (.inl x0)] σ Q = (if x1 = 0 then WP m147 116 [.inr (.inl l0), .inl l1, .inl l2, .inl l3] [.inr (.inl x0)] σ Q else WP m147 120 [.inr (.inl l0), .inl l1, .inl l2, .inl l3] [.inr (.inl x0)] σ Q) := w_ifne d147_113 (by decide)
theorem d147_116 : adec m147 116 = some (.iconst (-1), 1) := by decide +kernel
theorem s147_116 {l0 : Nat} {l1 : Int} {l2 : Int} {l3 : Int} {x0 : Nat} : WP m147 116 [.inr (.inl l0), .inl l1, .inl l2, .inl l3] [.inr (.inl x0)] σ Q = WP m147 117 [.inr (.inl l0), .inl l1, .inl l2, .inl l3] [.inl (-1), .inr (.inl x0)] σ Q := w_iconst d147_116 (by decide)
theorem d147_117 : adec m147 117 = some (.goto (4), 3) := by decide +kernel
theorem s147_117 {l0 : Nat} {l1 : Int} {l2 : Int} {l3 : Int} {x0 : Nat} {x1 : Int} : WP m147 117 [.inr (.inl l0), .inl l1, .inl l2, .inl l3] [.inl x1, .inr (.inl x0)] σ Q = WP m147 121 [.inr (.inl l0), .inl l1, .inl l2, .inl l3] [.inl x1, .inr (.inl x0)] σ Q := w_goto d147_117 (by decide)
theorem d147_120 : adec m147 120 = some (.iload_n 3, 1) := by decide +kernel
theorem s147_120 {l0 : Nat} {l1 : Int} {l2 : Int} {l3 : Int} {x0 : Nat} : WP m147 120 [.inr (.inl l0), .inl l1, .inl l2, .inl l3] [.inr (.inl x0)] σ Q = WP m147 121 [.inr (.inl l0), .inl l1, .inl l2, .inl l3] [.inl l3, .inr (.inl x0)] σ Q := w_ld d147_120 rfl
theorem d147_121 : adec m147 121 = some (.putfield 20, 3) := by decide +kernel
theorem s147_121 {l0 : Nat} {l1 : Int} {l2 : Int} {l3 : Int} {x1 : Int} : WP m147 121 [.inr (.inl l0), .inl l1, .inl l2, .inl l3] [.inl x1, .inr (.inl 130)] σ Q = WP m147 124 [.inr (.inl l0), .inl l1, .inl l2, .inl l3] [] (aup σ 130 5 x1) Q := (w_putI (c := 10) (n := 5) d147_121 (by decide +kernel) (by decide +kernel) (by decide +kernel)).trans (g_and (isO_dec (by decide +kernel)))
theorem d147_124 : adec m147 124 = some (.iload_n 2, 1) := by decide +kernel
theorem s147_124 {l0 : Nat} {l1 : Int} {l2 : Int} {l3 : Int} : WP m147 124 [.inr (.inl l0), .inl l1, .inl l2, .inl l3] [] σ Q = WP m147 125 [.inr (.inl l0), .inl l1, .inl l2, .inl l3] [.inl l2] σ Q := w_ld d147_124 rfl
theorem d147_125 : adec m147 125 = some (.ifCond .ne (11), 3) := by decide +kernel
theorem s147_125 {l0 : Nat} {l1 : Int} {l2 : Int} {l3 : Int} {x0 : Int} : WP m147 125 [.inr (.inl l0), .inl l1, .inl l2, .inl l3] [.inl x0] σ Q = (if x0 = 0 then WP m147 128 [.inr (.inl l0), .inl l1, .inl l2, .inl l3] [] σ Q else WP m147 136 [.inr (.inl l0), .inl l1, .inl l2, .inl l3] [] σ Q) := w_ifne d147_125 (by decide)
theorem d147_128 : adec m147 128 = some (.aload_n 0, 1) := by decide +kernel
theorem s147_128 {l0 : Nat} {l1 : Int} {l2 : Int} {l3 : Int} : WP m147 128 [.inr (.inl l0), .inl l1, .inl l2, .inl l3] [] σ Q = WP m147 129 [.inr (.inl l0), .inl l1, .inl l2, .inl l3] [.inr (.inl l0)] σ Q := w_ld d147_128 rfl
theorem d147_129 : adec m147 129 = some (.iload_n 1, 1) := by decide +kernel
theorem s147_129 {l0 : Nat} {l1 : Int} {l2 : Int} {l3 : Int} {x0 : Nat} : WP m147 129 [.inr (.inl l0), .inl l1, .inl l2, .inl l3] [.inr (.inl x0)] σ Q = WP m147 130 [.inr (.inl l0), .inl l1, .inl l2, .inl l3] [.inl l1, .inr (.inl x0)] σ Q := w_ld d147_129 rfl
theorem d147_130 : adec m147 130 = some (.invokevirtual 159, 3) := by decide +kernel
theorem s147_130 {l0 : Nat} {l1 : Int} {l2 : Int} {l3 : Int} {x1 : Int} : WP m147 130 [.inr (.inl l0), .inl l1, .inl l2, .inl l3] [.inl x1, .inr (.inl 130)] σ Q = CA m138 [.inr (.inl 130), .inl x1] σ (fun v σ2 => WP m147 133 [.inr (.inl l0), .inl l1, .inl l2, .inl l3] (v ++ []) σ2 Q) := (w_cV (k := 138) d147_130 (by decide +kernel) m138_at rfl rfl ⟨Nat.le_of_ble_eq_true rfl, Nat.le_of_ble_eq_true rfl, Nat.le_of_ble_eq_true rfl⟩ (by decide)).trans (g_and (isO_dec (by decide +kernel)))
theorem d147_133 : adec m147 133 = some (.goto (7), 3) := by decide +kernel
theorem s147_133 {l0 : Nat} {l1 : Int} {l2 : Int} {l3 : Int} {x0 : Int} : WP m147 133 [.inr (.inl l0), .inl l1, .inl l2, .inl l3] [.inl x0] σ Q = WP m147 140 [.inr (.inl l0), .inl l1, .inl l2, .inl l3] [.inl x0] σ Q := w_goto d147_133 (by decide)
theorem d147_136 : adec m147 136 = some (.bipush (-10), 2) := by decide +kernel
theorem s147_136 {l0 : Nat} {l1 : Int} {l2 : Int} {l3 : Int} : WP m147 136 [.inr (.inl l0), .inl l1, .inl l2, .inl l3] [] σ Q = WP m147 138 [.inr (.inl l0), .inl l1, .inl l2, .inl l3] [.inl (-10)] σ Q := w_bipush d147_136 (by decide)
theorem d147_138 : adec m147 138 = some (.iload_n 2, 1) := by decide +kernel
theorem s147_138 {l0 : Nat} {l1 : Int} {l2 : Int} {l3 : Int} {x0 : Int} : WP m147 138 [.inr (.inl l0), .inl l1, .inl l2, .inl l3] [.inl x0] σ Q = WP m147 139 [.inr (.inl l0), .inl l1, .inl l2, .inl l3] [.inl l2, .inl x0] σ Q := w_ld d147_138 rfl
theorem d147_139 : adec m147 139 = some (.isub, 1) := by decide +kernel
theorem s147_139 {l0 : Nat} {l1 : Int} {l2 : Int} {l3 : Int} {x0 : Int} {x1 : Int} : WP m147 139 [.inr (.inl l0), .inl l1, .inl l2, .inl l3] [.inl x1, .inl x0] σ Q = (inI (x0 - x1) ∧ WP m147 140 [.inr (.inl l0), .inl l1, .inl l2, .inl l3] [.inl (x0 - x1)] σ Q) := w_isub d147_139
theorem d147_140 : adec m147 140 = some (.ireturn, 1) := by decide +kernel
theorem s147_140 {l0 : Nat} {l1 : Int} {l2 : Int} {l3 : Int} {x0 : Int} : WP m147 140 [.inr (.inl l0), .inl l1, .inl l2, .inl l3] [.inl x0] σ Q = Q [.inl x0] σ := w_ri d147_140 rfl
theorem e147 {p0 : Nat} {p1 : Int} : CA m147 [.inr (.inl p0), .inl p1] σ Q = WP m147 0 [.inr (.inl p0), .inl p1, vU, vU] [] σ Q := rfl
-- BinderPressModel.fault()I
theorem d148_0 : adec m148 0 = some (.aload_n 0, 1) := by decide +kernel
theorem s148_0 {l0 : Nat} : WP m148 0 [.inr (.inl l0)] [] σ Q = WP m148 1 [.inr (.inl l0)] [.inr (.inl l0)] σ Q := w_ld d148_0 rfl
theorem d148_1 : adec m148 1 = some (.getfield 20, 3) := by decide +kernel
theorem s148_1 {l0 : Nat} : WP m148 1 [.inr (.inl l0)] [.inr (.inl 130)] σ Q = WP m148 4 [.inr (.inl l0)] [.inl (σ 130 5)] σ Q := (w_getI (c := 10) (n := 5) d148_1 (by decide +kernel) (by decide +kernel)).trans (g_and (isO_dec (by decide +kernel)))
theorem d148_4 : adec m148 4 = some (.ireturn, 1) := by decide +kernel
theorem s148_4 {l0 : Nat} {x0 : Int} : WP m148 4 [.inr (.inl l0)] [.inl x0] σ Q = Q [.inl x0] σ := w_ri d148_4 rfl
theorem e148 {p0 : Nat} : CA m148 [.inr (.inl p0)] σ Q = WP m148 0 [.inr (.inl p0)] [] σ Q := rfl
-- BinderPressModel.behind(I)I
theorem d149_0 : adec m149 0 = some (.iload_n 1, 1) := by decide +kernel
theorem s149_0 {l0 : Nat} {l1 : Int} {l2 : AV} {l3 : AV} : WP m149 0 [.inr (.inl l0), .inl l1, l2, l3] [] σ Q = WP m149 1 [.inr (.inl l0), .inl l1, l2, l3] [.inl l1] σ Q := w_ld d149_0 rfl
theorem d149_1 : adec m149 1 = some (.istore_n 2, 1) := by decide +kernel
theorem s149_1 {l0 : Nat} {l1 : Int} {l2 : AV} {l3 : AV} {x0 : Int} : WP m149 1 [.inr (.inl l0), .inl l1, l2, l3] [.inl x0] σ Q = WP m149 2 [.inr (.inl l0), .inl l1, .inl x0, l3] [] σ Q := w_st1 (j := 2) d149_1 rfl (Nat.le_of_ble_eq_true rfl) rfl
theorem d149_2 : adec m149 2 = some (.iconst (1), 1) := by decide +kernel
theorem s149_2 {l0 : Nat} {l1 : Int} {l2 : Int} {l3 : AV} : WP m149 2 [.inr (.inl l0), .inl l1, .inl l2, l3] [] σ Q = WP m149 3 [.inr (.inl l0), .inl l1, .inl l2, l3] [.inl (1)] σ Q := w_iconst d149_2 (by decide)
theorem d149_3 : adec m149 3 = some (.istore_n 3, 1) := by decide +kernel
theorem s149_3 {l0 : Nat} {l1 : Int} {l2 : Int} {l3 : AV} {x0 : Int} : WP m149 3 [.inr (.inl l0), .inl l1, .inl l2, l3] [.inl x0] σ Q = WP m149 4 [.inr (.inl l0), .inl l1, .inl l2, .inl x0] [] σ Q := w_st1 (j := 3) d149_3 rfl (Nat.le_of_ble_eq_true rfl) rfl
theorem d149_4 : adec m149 4 = some (.iload_n 3, 1) := by decide +kernel
theorem s149_4 {l0 : Nat} {l1 : Int} {l2 : Int} {l3 : Int} : WP m149 4 [.inr (.inl l0), .inl l1, .inl l2, .inl l3] [] σ Q = WP m149 5 [.inr (.inl l0), .inl l1, .inl l2, .inl l3] [.inl l3] σ Q := w_ld d149_4 rfl
theorem d149_5 : adec m149 5 = some (.ifCond .le (42), 3) := by decide +kernel
theorem s149_5 {l0 : Nat} {l1 : Int} {l2 : Int} {l3 : Int} {x0 : Int} : WP m149 5 [.inr (.inl l0), .inl l1, .inl l2, .inl l3] [.inl x0] σ Q = (if x0 ≤ 0 then WP m149 47 [.inr (.inl l0), .inl l1, .inl l2, .inl l3] [] σ Q else WP m149 8 [.inr (.inl l0), .inl l1, .inl l2, .inl l3] [] σ Q) := w_ifle d149_5 (by decide)
theorem d149_8 : adec m149 8 = some (.iload_n 3, 1) := by decide +kernel
theorem s149_8 {l0 : Nat} {l1 : Int} {l2 : Int} {l3 : Int} : WP m149 8 [.inr (.inl l0), .inl l1, .inl l2, .inl l3] [] σ Q = WP m149 9 [.inr (.inl l0), .inl l1, .inl l2, .inl l3] [.inl l3] σ Q := w_ld d149_8 rfl
theorem d149_9 : adec m149 9 = some (.aload_n 0, 1) := by decide +kernel
theorem s149_9 {l0 : Nat} {l1 : Int} {l2 : Int} {l3 : Int} {x0 : Int} : WP m149 9 [.inr (.inl l0), .inl l1, .inl l2, .inl l3] [.inl x0] σ Q = WP m149 10 [.inr (.inl l0), .inl l1, .inl l2, .inl l3] [.inr (.inl l0), .inl x0] σ Q := w_ld d149_9 rfl
theorem d149_10 : adec m149 10 = some (.getfield 24, 3) := by decide +kernel
theorem s149_10 {l0 : Nat} {l1 : Int} {l2 : Int} {l3 : Int} {x0 : Int} : WP m149 10 [.inr (.inl l0), .inl l1, .inl l2, .inl l3] [.inr (.inl 130), .inl x0] σ Q = WP m149 13 [.inr (.inl l0), .inl l1, .inl l2, .inl l3] [.inr (.inl 134), .inl x0] σ Q := (w_getR (c := 10) (n := 6) d149_10 (by decide +kernel) (by decide +kernel)).trans (g_and ⟨isO_dec (by decide +kernel), by decide +kernel⟩)
theorem d149_13 : adec m149 13 = some (.iload_n 2, 1) := by decide +kernel
theorem s149_13 {l0 : Nat} {l1 : Int} {l2 : Int} {l3 : Int} {x0 : Int} {x1 : Nat} : WP m149 13 [.inr (.inl l0), .inl l1, .inl l2, .inl l3] [.inr (.inl x1), .inl x0] σ Q = WP m149 14 [.inr (.inl l0), .inl l1, .inl l2, .inl l3] [.inl l2, .inr (.inl x1), .inl x0] σ Q := w_ld d149_13 rfl
theorem d149_14 : adec m149 14 = some (.iaload, 1) := by decide +kernel
theorem s149_14 {l0 : Nat} {l1 : Int} {l2 : Int} {l3 : Int} {x0 : Int} {x1 : Nat} {x2 : Int} : WP m149 14 [.inr (.inl l0), .inl l1, .inl l2, .inl l3] [.inl x2, .inr (.inl x1), .inl x0] σ Q = ((kdS x1 = 20 ∧ 0 ≤ x2 ∧ x2 < ln x1) ∧ WP m149 15 [.inr (.inl l0), .inl l1, .inl l2, .inl l3] [.inl (σ x1 x2.toNat), .inl x0] σ Q) := w_iald d149_14
theorem d149_15 : adec m149 15 = some (.ifCond .ne (7), 3) := by decide +kernel
theorem s149_15 {l0 : Nat} {l1 : Int} {l2 : Int} {l3 : Int} {x0 : Int} {x1 : Int} : WP m149 15 [.inr (.inl l0), .inl l1, .inl l2, .inl l3] [.inl x1, .inl x0] σ Q = (if x1 = 0 then WP m149 18 [.inr (.inl l0), .inl l1, .inl l2, .inl l3] [.inl x0] σ Q else WP m149 22 [.inr (.inl l0), .inl l1, .inl l2, .inl l3] [.inl x0] σ Q) := w_ifne d149_15 (by decide)
theorem d149_18 : adec m149 18 = some (.iconst (1), 1) := by decide +kernel
theorem s149_18 {l0 : Nat} {l1 : Int} {l2 : Int} {l3 : Int} {x0 : Int} : WP m149 18 [.inr (.inl l0), .inl l1, .inl l2, .inl l3] [.inl x0] σ Q = WP m149 19 [.inr (.inl l0), .inl l1, .inl l2, .inl l3] [.inl (1), .inl x0] σ Q := w_iconst d149_18 (by decide)
theorem d149_19 : adec m149 19 = some (.goto (20), 3) := by decide +kernel
theorem s149_19 {l0 : Nat} {l1 : Int} {l2 : Int} {l3 : Int} {x0 : Int} {x1 : Int} : WP m149 19 [.inr (.inl l0), .inl l1, .inl l2, .inl l3] [.inl x1, .inl x0] σ Q = WP m149 39 [.inr (.inl l0), .inl l1, .inl l2, .inl l3] [.inl x1, .inl x0] σ Q := w_goto d149_19 (by decide)
theorem d149_22 : adec m149 22 = some (.aload_n 0, 1) := by decide +kernel
theorem s149_22 {l0 : Nat} {l1 : Int} {l2 : Int} {l3 : Int} {x0 : Int} : WP m149 22 [.inr (.inl l0), .inl l1, .inl l2, .inl l3] [.inl x0] σ Q = WP m149 23 [.inr (.inl l0), .inl l1, .inl l2, .inl l3] [.inr (.inl l0), .inl x0] σ Q := w_ld d149_22 rfl
theorem d149_23 : adec m149 23 = some (.getfield 24, 3) := by decide +kernel
theorem s149_23 {l0 : Nat} {l1 : Int} {l2 : Int} {l3 : Int} {x0 : Int} : WP m149 23 [.inr (.inl l0), .inl l1, .inl l2, .inl l3] [.inr (.inl 130), .inl x0] σ Q = WP m149 26 [.inr (.inl l0), .inl l1, .inl l2, .inl l3] [.inr (.inl 134), .inl x0] σ Q := (w_getR (c := 10) (n := 6) d149_23 (by decide +kernel) (by decide +kernel)).trans (g_and ⟨isO_dec (by decide +kernel), by decide +kernel⟩)
theorem d149_26 : adec m149 26 = some (.iload_n 2, 1) := by decide +kernel
theorem s149_26 {l0 : Nat} {l1 : Int} {l2 : Int} {l3 : Int} {x0 : Int} {x1 : Nat} : WP m149 26 [.inr (.inl l0), .inl l1, .inl l2, .inl l3] [.inr (.inl x1), .inl x0] σ Q = WP m149 27 [.inr (.inl l0), .inl l1, .inl l2, .inl l3] [.inl l2, .inr (.inl x1), .inl x0] σ Q := w_ld d149_26 rfl
theorem d149_27 : adec m149 27 = some (.iaload, 1) := by decide +kernel
theorem s149_27 {l0 : Nat} {l1 : Int} {l2 : Int} {l3 : Int} {x0 : Int} {x1 : Nat} {x2 : Int} : WP m149 27 [.inr (.inl l0), .inl l1, .inl l2, .inl l3] [.inl x2, .inr (.inl x1), .inl x0] σ Q = ((kdS x1 = 20 ∧ 0 ≤ x2 ∧ x2 < ln x1) ∧ WP m149 28 [.inr (.inl l0), .inl l1, .inl l2, .inl l3] [.inl (σ x1 x2.toNat), .inl x0] σ Q) := w_iald d149_27
theorem d149_28 : adec m149 28 = some (.invokestatic 162, 3) := by decide +kernel
theorem s149_28 {l0 : Nat} {l1 : Int} {l2 : Int} {l3 : Int} {x0 : Int} {x1 : Int} : WP m149 28 [.inr (.inl l0), .inl l1, .inl l2, .inl l3] [.inl x1, .inl x0] σ Q = CA m129 [.inl x1] σ (fun v σ2 => WP m149 31 [.inr (.inl l0), .inl l1, .inl l2, .inl l3] (v ++ [.inl x0]) σ2 Q) := w_cS (k := 129) d149_28 (by decide +kernel) (md := 1) (by decide +kernel) m129_at rfl rfl ⟨Nat.le_of_ble_eq_true rfl, Nat.le_of_ble_eq_true rfl, Nat.le_of_ble_eq_true rfl⟩ (by decide)
theorem d149_31 : adec m149 31 = some (.ifCond .eq (7), 3) := by decide +kernel
theorem s149_31 {l0 : Nat} {l1 : Int} {l2 : Int} {l3 : Int} {x0 : Int} {x1 : Int} : WP m149 31 [.inr (.inl l0), .inl l1, .inl l2, .inl l3] [.inl x1, .inl x0] σ Q = (if x1 = 0 then WP m149 38 [.inr (.inl l0), .inl l1, .inl l2, .inl l3] [.inl x0] σ Q else WP m149 34 [.inr (.inl l0), .inl l1, .inl l2, .inl l3] [.inl x0] σ Q) := w_ifeq d149_31 (by decide)
theorem d149_34 : adec m149 34 = some (.iconst (0), 1) := by decide +kernel
theorem s149_34 {l0 : Nat} {l1 : Int} {l2 : Int} {l3 : Int} {x0 : Int} : WP m149 34 [.inr (.inl l0), .inl l1, .inl l2, .inl l3] [.inl x0] σ Q = WP m149 35 [.inr (.inl l0), .inl l1, .inl l2, .inl l3] [.inl (0), .inl x0] σ Q := w_iconst d149_34 (by decide)
theorem d149_35 : adec m149 35 = some (.goto (4), 3) := by decide +kernel
theorem s149_35 {l0 : Nat} {l1 : Int} {l2 : Int} {l3 : Int} {x0 : Int} {x1 : Int} : WP m149 35 [.inr (.inl l0), .inl l1, .inl l2, .inl l3] [.inl x1, .inl x0] σ Q = WP m149 39 [.inr (.inl l0), .inl l1, .inl l2, .inl l3] [.inl x1, .inl x0] σ Q := w_goto d149_35 (by decide)
theorem d149_38 : adec m149 38 = some (.iconst (-1), 1) := by decide +kernel
theorem s149_38 {l0 : Nat} {l1 : Int} {l2 : Int} {l3 : Int} {x0 : Int} : WP m149 38 [.inr (.inl l0), .inl l1, .inl l2, .inl l3] [.inl x0] σ Q = WP m149 39 [.inr (.inl l0), .inl l1, .inl l2, .inl l3] [.inl (-1), .inl x0] σ Q := w_iconst d149_38 (by decide)
theorem d149_39 : adec m149 39 = some (.iadd, 1) := by decide +kernel
theorem s149_39 {l0 : Nat} {l1 : Int} {l2 : Int} {l3 : Int} {x0 : Int} {x1 : Int} : WP m149 39 [.inr (.inl l0), .inl l1, .inl l2, .inl l3] [.inl x1, .inl x0] σ Q = (inI (x0 + x1) ∧ WP m149 40 [.inr (.inl l0), .inl l1, .inl l2, .inl l3] [.inl (x0 + x1)] σ Q) := w_iadd d149_39
theorem d149_40 : adec m149 40 = some (.istore_n 3, 1) := by decide +kernel
theorem s149_40 {l0 : Nat} {l1 : Int} {l2 : Int} {l3 : Int} {x0 : Int} : WP m149 40 [.inr (.inl l0), .inl l1, .inl l2, .inl l3] [.inl x0] σ Q = WP m149 41 [.inr (.inl l0), .inl l1, .inl l2, .inl x0] [] σ Q := w_st1 (j := 3) d149_40 rfl (Nat.le_of_ble_eq_true rfl) rfl
theorem d149_41 : adec m149 41 = some (.iinc 2 (1), 3) := by decide +kernel
theorem s149_41 {l0 : Nat} {l1 : Int} {l2 : Int} {l3 : Int} : WP m149 41 [.inr (.inl l0), .inl l1, .inl l2, .inl l3] [] σ Q = (inI (l2 + (1)) ∧ WP m149 44 [.inr (.inl l0), .inl l1, .inl (l2 + (1)), .inl l3] [] σ Q) := w_iinc d149_41 rfl rfl
theorem d149_44 : adec m149 44 = some (.goto (-40), 3) := by decide +kernel
theorem s149_44 {l0 : Nat} {l1 : Int} {l2 : Int} {l3 : Int} : WP m149 44 [.inr (.inl l0), .inl l1, .inl l2, .inl l3] [] σ Q = WP m149 4 [.inr (.inl l0), .inl l1, .inl l2, .inl l3] [] σ Q := w_goto d149_44 (by decide)
theorem d149_47 : adec m149 47 = some (.iload_n 2, 1) := by decide +kernel
theorem s149_47 {l0 : Nat} {l1 : Int} {l2 : Int} {l3 : Int} : WP m149 47 [.inr (.inl l0), .inl l1, .inl l2, .inl l3] [] σ Q = WP m149 48 [.inr (.inl l0), .inl l1, .inl l2, .inl l3] [.inl l2] σ Q := w_ld d149_47 rfl
theorem d149_48 : adec m149 48 = some (.ireturn, 1) := by decide +kernel
theorem s149_48 {l0 : Nat} {l1 : Int} {l2 : Int} {l3 : Int} {x0 : Int} : WP m149 48 [.inr (.inl l0), .inl l1, .inl l2, .inl l3] [.inl x0] σ Q = Q [.inl x0] σ := w_ri d149_48 rfl
theorem e149 {p0 : Nat} {p1 : Int} : CA m149 [.inr (.inl p0), .inl p1] σ Q = WP m149 0 [.inr (.inl p0), .inl p1, vU, vU] [] σ Q := rfl
-- BinderPressModel.isFree(II)Z
theorem d150_0 : adec m150 0 = some (.aload_n 0, 1) := by decide +kernel
theorem s150_0 {l0 : Nat} {l1 : Int} {l2 : Int} {l3 : AV} {l4 : AV} : WP m150 0 [.inr (.inl l0), .inl l1, .inl l2, l3, l4] [] σ Q = WP m150 1 [.inr (.inl l0), .inl l1, .inl l2, l3, l4] [.inr (.inl l0)] σ Q := w_ld d150_0 rfl
theorem d150_1 : adec m150 1 = some (.iload_n 1, 1) := by decide +kernel
theorem s150_1 {l0 : Nat} {l1 : Int} {l2 : Int} {l3 : AV} {l4 : AV} {x0 : Nat} : WP m150 1 [.inr (.inl l0), .inl l1, .inl l2, l3, l4] [.inr (.inl x0)] σ Q = WP m150 2 [.inr (.inl l0), .inl l1, .inl l2, l3, l4] [.inl l1, .inr (.inl x0)] σ Q := w_ld d150_1 rfl
theorem d150_2 : adec m150 2 = some (.invokevirtual 165, 3) := by decide +kernel
theorem s150_2 {l0 : Nat} {l1 : Int} {l2 : Int} {l3 : AV} {l4 : AV} {x1 : Int} : WP m150 2 [.inr (.inl l0), .inl l1, .inl l2, l3, l4] [.inl x1, .inr (.inl 130)] σ Q = CA m149 [.inr (.inl 130), .inl x1] σ (fun v σ2 => WP m150 5 [.inr (.inl l0), .inl l1, .inl l2, l3, l4] (v ++ []) σ2 Q) := (w_cV (k := 149) d150_2 (by decide +kernel) m149_at rfl rfl ⟨Nat.le_of_ble_eq_true rfl, Nat.le_of_ble_eq_true rfl, Nat.le_of_ble_eq_true rfl⟩ (by decide)).trans (g_and (isO_dec (by decide +kernel)))
theorem d150_5 : adec m150 5 = some (.istore_n 3, 1) := by decide +kernel
theorem s150_5 {l0 : Nat} {l1 : Int} {l2 : Int} {l3 : AV} {l4 : AV} {x0 : Int} : WP m150 5 [.inr (.inl l0), .inl l1, .inl l2, l3, l4] [.inl x0] σ Q = WP m150 6 [.inr (.inl l0), .inl l1, .inl l2, .inl x0, l4] [] σ Q := w_st1 (j := 3) d150_5 rfl (Nat.le_of_ble_eq_true rfl) rfl
theorem d150_6 : adec m150 6 = some (.iload_n 1, 1) := by decide +kernel
theorem s150_6 {l0 : Nat} {l1 : Int} {l2 : Int} {l3 : Int} {l4 : AV} : WP m150 6 [.inr (.inl l0), .inl l1, .inl l2, .inl l3, l4] [] σ Q = WP m150 7 [.inr (.inl l0), .inl l1, .inl l2, .inl l3, l4] [.inl l1] σ Q := w_ld d150_6 rfl
theorem d150_7 : adec m150 7 = some (.istore 4, 2) := by decide +kernel
theorem s150_7 {l0 : Nat} {l1 : Int} {l2 : Int} {l3 : Int} {l4 : AV} {x0 : Int} : WP m150 7 [.inr (.inl l0), .inl l1, .inl l2, .inl l3, l4] [.inl x0] σ Q = WP m150 9 [.inr (.inl l0), .inl l1, .inl l2, .inl l3, .inl x0] [] σ Q := w_st1 (j := 4) d150_7 rfl (Nat.le_of_ble_eq_true rfl) rfl
theorem d150_9 : adec m150 9 = some (.iload 4, 2) := by decide +kernel
theorem s150_9 {l0 : Nat} {l1 : Int} {l2 : Int} {l3 : Int} {l4 : Int} : WP m150 9 [.inr (.inl l0), .inl l1, .inl l2, .inl l3, .inl l4] [] σ Q = WP m150 11 [.inr (.inl l0), .inl l1, .inl l2, .inl l3, .inl l4] [.inl l4] σ Q := w_ld d150_9 rfl
theorem d150_11 : adec m150 11 = some (.iload_n 3, 1) := by decide +kernel
theorem s150_11 {l0 : Nat} {l1 : Int} {l2 : Int} {l3 : Int} {l4 : Int} {x0 : Int} : WP m150 11 [.inr (.inl l0), .inl l1, .inl l2, .inl l3, .inl l4] [.inl x0] σ Q = WP m150 12 [.inr (.inl l0), .inl l1, .inl l2, .inl l3, .inl l4] [.inl l3, .inl x0] σ Q := w_ld d150_11 rfl
theorem d150_12 : adec m150 12 = some (.if_icmp .ge (49), 3) := by decide +kernel
theorem s150_12 {l0 : Nat} {l1 : Int} {l2 : Int} {l3 : Int} {l4 : Int} {x0 : Int} {x1 : Int} : WP m150 12 [.inr (.inl l0), .inl l1, .inl l2, .inl l3, .inl l4] [.inl x1, .inl x0] σ Q = (if x1 ≤ x0 then WP m150 61 [.inr (.inl l0), .inl l1, .inl l2, .inl l3, .inl l4] [] σ Q else WP m150 15 [.inr (.inl l0), .inl l1, .inl l2, .inl l3, .inl l4] [] σ Q) := w_icge d150_12 (by decide)
theorem d150_15 : adec m150 15 = some (.aload_n 0, 1) := by decide +kernel
theorem s150_15 {l0 : Nat} {l1 : Int} {l2 : Int} {l3 : Int} {l4 : Int} : WP m150 15 [.inr (.inl l0), .inl l1, .inl l2, .inl l3, .inl l4] [] σ Q = WP m150 16 [.inr (.inl l0), .inl l1, .inl l2, .inl l3, .inl l4] [.inr (.inl l0)] σ Q := w_ld d150_15 rfl
theorem d150_16 : adec m150 16 = some (.getfield 24, 3) := by decide +kernel
theorem s150_16 {l0 : Nat} {l1 : Int} {l2 : Int} {l3 : Int} {l4 : Int} : WP m150 16 [.inr (.inl l0), .inl l1, .inl l2, .inl l3, .inl l4] [.inr (.inl 130)] σ Q = WP m150 19 [.inr (.inl l0), .inl l1, .inl l2, .inl l3, .inl l4] [.inr (.inl 134)] σ Q := (w_getR (c := 10) (n := 6) d150_16 (by decide +kernel) (by decide +kernel)).trans (g_and ⟨isO_dec (by decide +kernel), by decide +kernel⟩)
theorem d150_19 : adec m150 19 = some (.iload 4, 2) := by decide +kernel
theorem s150_19 {l0 : Nat} {l1 : Int} {l2 : Int} {l3 : Int} {l4 : Int} {x0 : Nat} : WP m150 19 [.inr (.inl l0), .inl l1, .inl l2, .inl l3, .inl l4] [.inr (.inl x0)] σ Q = WP m150 21 [.inr (.inl l0), .inl l1, .inl l2, .inl l3, .inl l4] [.inl l4, .inr (.inl x0)] σ Q := w_ld d150_19 rfl
theorem d150_21 : adec m150 21 = some (.iaload, 1) := by decide +kernel
theorem s150_21 {l0 : Nat} {l1 : Int} {l2 : Int} {l3 : Int} {l4 : Int} {x0 : Nat} {x1 : Int} : WP m150 21 [.inr (.inl l0), .inl l1, .inl l2, .inl l3, .inl l4] [.inl x1, .inr (.inl x0)] σ Q = ((kdS x0 = 20 ∧ 0 ≤ x1 ∧ x1 < ln x0) ∧ WP m150 22 [.inr (.inl l0), .inl l1, .inl l2, .inl l3, .inl l4] [.inl (σ x0 x1.toNat)] σ Q) := w_iald d150_21
theorem d150_22 : adec m150 22 = some (.iload_n 2, 1) := by decide +kernel
theorem s150_22 {l0 : Nat} {l1 : Int} {l2 : Int} {l3 : Int} {l4 : Int} {x0 : Int} : WP m150 22 [.inr (.inl l0), .inl l1, .inl l2, .inl l3, .inl l4] [.inl x0] σ Q = WP m150 23 [.inr (.inl l0), .inl l1, .inl l2, .inl l3, .inl l4] [.inl l2, .inl x0] σ Q := w_ld d150_22 rfl
theorem d150_23 : adec m150 23 = some (.if_icmp .ne (5), 3) := by decide +kernel
theorem s150_23 {l0 : Nat} {l1 : Int} {l2 : Int} {l3 : Int} {l4 : Int} {x0 : Int} {x1 : Int} : WP m150 23 [.inr (.inl l0), .inl l1, .inl l2, .inl l3, .inl l4] [.inl x1, .inl x0] σ Q = (if x0 = x1 then WP m150 26 [.inr (.inl l0), .inl l1, .inl l2, .inl l3, .inl l4] [] σ Q else WP m150 28 [.inr (.inl l0), .inl l1, .inl l2, .inl l3, .inl l4] [] σ Q) := w_icne d150_23 (by decide)
theorem d150_26 : adec m150 26 = some (.iconst (1), 1) := by decide +kernel
theorem s150_26 {l0 : Nat} {l1 : Int} {l2 : Int} {l3 : Int} {l4 : Int} : WP m150 26 [.inr (.inl l0), .inl l1, .inl l2, .inl l3, .inl l4] [] σ Q = WP m150 27 [.inr (.inl l0), .inl l1, .inl l2, .inl l3, .inl l4] [.inl (1)] σ Q := w_iconst d150_26 (by decide)
theorem d150_27 : adec m150 27 = some (.ireturn, 1) := by decide +kernel
theorem s150_27 {l0 : Nat} {l1 : Int} {l2 : Int} {l3 : Int} {l4 : Int} {x0 : Int} : WP m150 27 [.inr (.inl l0), .inl l1, .inl l2, .inl l3, .inl l4] [.inl x0] σ Q = ((x0 = 0 ∨ x0 = 1) ∧ Q [.inl x0] σ) := w_rz d150_27 rfl
theorem d150_28 : adec m150 28 = some (.aload_n 0, 1) := by decide +kernel
theorem s150_28 {l0 : Nat} {l1 : Int} {l2 : Int} {l3 : Int} {l4 : Int} : WP m150 28 [.inr (.inl l0), .inl l1, .inl l2, .inl l3, .inl l4] [] σ Q = WP m150 29 [.inr (.inl l0), .inl l1, .inl l2, .inl l3, .inl l4] [.inr (.inl l0)] σ Q := w_ld d150_28 rfl
theorem d150_29 : adec m150 29 = some (.getfield 24, 3) := by decide +kernel
theorem s150_29 {l0 : Nat} {l1 : Int} {l2 : Int} {l3 : Int} {l4 : Int} : WP m150 29 [.inr (.inl l0), .inl l1, .inl l2, .inl l3, .inl l4] [.inr (.inl 130)] σ Q = WP m150 32 [.inr (.inl l0), .inl l1, .inl l2, .inl l3, .inl l4] [.inr (.inl 134)] σ Q := (w_getR (c := 10) (n := 6) d150_29 (by decide +kernel) (by decide +kernel)).trans (g_and ⟨isO_dec (by decide +kernel), by decide +kernel⟩)
theorem d150_32 : adec m150 32 = some (.iload 4, 2) := by decide +kernel
theorem s150_32 {l0 : Nat} {l1 : Int} {l2 : Int} {l3 : Int} {l4 : Int} {x0 : Nat} : WP m150 32 [.inr (.inl l0), .inl l1, .inl l2, .inl l3, .inl l4] [.inr (.inl x0)] σ Q = WP m150 34 [.inr (.inl l0), .inl l1, .inl l2, .inl l3, .inl l4] [.inl l4, .inr (.inl x0)] σ Q := w_ld d150_32 rfl
theorem d150_34 : adec m150 34 = some (.iaload, 1) := by decide +kernel
theorem s150_34 {l0 : Nat} {l1 : Int} {l2 : Int} {l3 : Int} {l4 : Int} {x0 : Nat} {x1 : Int} : WP m150 34 [.inr (.inl l0), .inl l1, .inl l2, .inl l3, .inl l4] [.inl x1, .inr (.inl x0)] σ Q = ((kdS x0 = 20 ∧ 0 ≤ x1 ∧ x1 < ln x0) ∧ WP m150 35 [.inr (.inl l0), .inl l1, .inl l2, .inl l3, .inl l4] [.inl (σ x0 x1.toNat)] σ Q) := w_iald d150_34
theorem d150_35 : adec m150 35 = some (.sipush (1000), 3) := by decide +kernel
theorem s150_35 {l0 : Nat} {l1 : Int} {l2 : Int} {l3 : Int} {l4 : Int} {x0 : Int} : WP m150 35 [.inr (.inl l0), .inl l1, .inl l2, .inl l3, .inl l4] [.inl x0] σ Q = WP m150 38 [.inr (.inl l0), .inl l1, .inl l2, .inl l3, .inl l4] [.inl (1000), .inl x0] σ Q := w_sipush d150_35 (by decide)
theorem d150_38 : adec m150 38 = some (.iload_n 2, 1) := by decide +kernel
theorem s150_38 {l0 : Nat} {l1 : Int} {l2 : Int} {l3 : Int} {l4 : Int} {x0 : Int} {x1 : Int} : WP m150 38 [.inr (.inl l0), .inl l1, .inl l2, .inl l3, .inl l4] [.inl x1, .inl x0] σ Q = WP m150 39 [.inr (.inl l0), .inl l1, .inl l2, .inl l3, .inl l4] [.inl l2, .inl x1, .inl x0] σ Q := w_ld d150_38 rfl
theorem d150_39 : adec m150 39 = some (.iadd, 1) := by decide +kernel
theorem s150_39 {l0 : Nat} {l1 : Int} {l2 : Int} {l3 : Int} {l4 : Int} {x0 : Int} {x1 : Int} {x2 : Int} : WP m150 39 [.inr (.inl l0), .inl l1, .inl l2, .inl l3, .inl l4] [.inl x2, .inl x1, .inl x0] σ Q = (inI (x1 + x2) ∧ WP m150 40 [.inr (.inl l0), .inl l1, .inl l2, .inl l3, .inl l4] [.inl (x1 + x2), .inl x0] σ Q) := w_iadd d150_39
theorem d150_40 : adec m150 40 = some (.if_icmp .ne (12), 3) := by decide +kernel
theorem s150_40 {l0 : Nat} {l1 : Int} {l2 : Int} {l3 : Int} {l4 : Int} {x0 : Int} {x1 : Int} : WP m150 40 [.inr (.inl l0), .inl l1, .inl l2, .inl l3, .inl l4] [.inl x1, .inl x0] σ Q = (if x0 = x1 then WP m150 43 [.inr (.inl l0), .inl l1, .inl l2, .inl l3, .inl l4] [] σ Q else WP m150 52 [.inr (.inl l0), .inl l1, .inl l2, .inl l3, .inl l4] [] σ Q) := w_icne d150_40 (by decide)
theorem d150_43 : adec m150 43 = some (.aload_n 0, 1) := by decide +kernel
theorem s150_43 {l0 : Nat} {l1 : Int} {l2 : Int} {l3 : Int} {l4 : Int} : WP m150 43 [.inr (.inl l0), .inl l1, .inl l2, .inl l3, .inl l4] [] σ Q = WP m150 44 [.inr (.inl l0), .inl l1, .inl l2, .inl l3, .inl l4] [.inr (.inl l0)] σ Q := w_ld d150_43 rfl
theorem d150_44 : adec m150 44 = some (.iload 4, 2) := by decide +kernel
theorem s150_44 {l0 : Nat} {l1 : Int} {l2 : Int} {l3 : Int} {l4 : Int} {x0 : Nat} : WP m150 44 [.inr (.inl l0), .inl l1, .inl l2, .inl l3, .inl l4] [.inr (.inl x0)] σ Q = WP m150 46 [.inr (.inl l0), .inl l1, .inl l2, .inl l3, .inl l4] [.inl l4, .inr (.inl x0)] σ Q := w_ld d150_44 rfl
theorem d150_46 : adec m150 46 = some (.invokevirtual 165, 3) := by decide +kernel
theorem s150_46 {l0 : Nat} {l1 : Int} {l2 : Int} {l3 : Int} {l4 : Int} {x1 : Int} : WP m150 46 [.inr (.inl l0), .inl l1, .inl l2, .inl l3, .inl l4] [.inl x1, .inr (.inl 130)] σ Q = CA m149 [.inr (.inl 130), .inl x1] σ (fun v σ2 => WP m150 49 [.inr (.inl l0), .inl l1, .inl l2, .inl l3, .inl l4] (v ++ []) σ2 Q) := (w_cV (k := 149) d150_46 (by decide +kernel) m149_at rfl rfl ⟨Nat.le_of_ble_eq_true rfl, Nat.le_of_ble_eq_true rfl, Nat.le_of_ble_eq_true rfl⟩ (by decide)).trans (g_and (isO_dec (by decide +kernel)))
theorem d150_49 : adec m150 49 = some (.goto (7), 3) := by decide +kernel
theorem s150_49 {l0 : Nat} {l1 : Int} {l2 : Int} {l3 : Int} {l4 : Int} {x0 : Int} : WP m150 49 [.inr (.inl l0), .inl l1, .inl l2, .inl l3, .inl l4] [.inl x0] σ Q = WP m150 56 [.inr (.inl l0), .inl l1, .inl l2, .inl l3, .inl l4] [.inl x0] σ Q := w_goto d150_49 (by decide)
theorem d150_52 : adec m150 52 = some (.iload 4, 2) := by decide +kernel
theorem s150_52 {l0 : Nat} {l1 : Int} {l2 : Int} {l3 : Int} {l4 : Int} : WP m150 52 [.inr (.inl l0), .inl l1, .inl l2, .inl l3, .inl l4] [] σ Q = WP m150 54 [.inr (.inl l0), .inl l1, .inl l2, .inl l3, .inl l4] [.inl l4] σ Q := w_ld d150_52 rfl
theorem d150_54 : adec m150 54 = some (.iconst (1), 1) := by decide +kernel
theorem s150_54 {l0 : Nat} {l1 : Int} {l2 : Int} {l3 : Int} {l4 : Int} {x0 : Int} : WP m150 54 [.inr (.inl l0), .inl l1, .inl l2, .inl l3, .inl l4] [.inl x0] σ Q = WP m150 55 [.inr (.inl l0), .inl l1, .inl l2, .inl l3, .inl l4] [.inl (1), .inl x0] σ Q := w_iconst d150_54 (by decide)
theorem d150_55 : adec m150 55 = some (.iadd, 1) := by decide +kernel
theorem s150_55 {l0 : Nat} {l1 : Int} {l2 : Int} {l3 : Int} {l4 : Int} {x0 : Int} {x1 : Int} : WP m150 55 [.inr (.inl l0), .inl l1, .inl l2, .inl l3, .inl l4] [.inl x1, .inl x0] σ Q = (inI (x0 + x1) ∧ WP m150 56 [.inr (.inl l0), .inl l1, .inl l2, .inl l3, .inl l4] [.inl (x0 + x1)] σ Q) := w_iadd d150_55
theorem d150_56 : adec m150 56 = some (.istore 4, 2) := by decide +kernel
theorem s150_56 {l0 : Nat} {l1 : Int} {l2 : Int} {l3 : Int} {l4 : Int} {x0 : Int} : WP m150 56 [.inr (.inl l0), .inl l1, .inl l2, .inl l3, .inl l4] [.inl x0] σ Q = WP m150 58 [.inr (.inl l0), .inl l1, .inl l2, .inl l3, .inl x0] [] σ Q := w_st1 (j := 4) d150_56 rfl (Nat.le_of_ble_eq_true rfl) rfl
theorem d150_58 : adec m150 58 = some (.goto (-49), 3) := by decide +kernel
theorem s150_58 {l0 : Nat} {l1 : Int} {l2 : Int} {l3 : Int} {l4 : Int} : WP m150 58 [.inr (.inl l0), .inl l1, .inl l2, .inl l3, .inl l4] [] σ Q = WP m150 9 [.inr (.inl l0), .inl l1, .inl l2, .inl l3, .inl l4] [] σ Q := w_goto d150_58 (by decide)
theorem d150_61 : adec m150 61 = some (.iconst (0), 1) := by decide +kernel
theorem s150_61 {l0 : Nat} {l1 : Int} {l2 : Int} {l3 : Int} {l4 : Int} : WP m150 61 [.inr (.inl l0), .inl l1, .inl l2, .inl l3, .inl l4] [] σ Q = WP m150 62 [.inr (.inl l0), .inl l1, .inl l2, .inl l3, .inl l4] [.inl (0)] σ Q := w_iconst d150_61 (by decide)
theorem d150_62 : adec m150 62 = some (.ireturn, 1) := by decide +kernel
theorem s150_62 {l0 : Nat} {l1 : Int} {l2 : Int} {l3 : Int} {l4 : Int} {x0 : Int} : WP m150 62 [.inr (.inl l0), .inl l1, .inl l2, .inl l3, .inl l4] [.inl x0] σ Q = ((x0 = 0 ∨ x0 = 1) ∧ Q [.inl x0] σ) := w_rz d150_62 rfl
theorem e150 {p0 : Nat} {p1 : Int} {p2 : Int} : CA m150 [.inr (.inl p0), .inl p1, .inl p2] σ Q = WP m150 0 [.inr (.inl p0), .inl p1, .inl p2, vU, vU] [] σ Q := rfl
-- BinderPressModel.copyTerm(I)V
theorem d151_0 : adec m151 0 = some (.aload_n 0, 1) := by decide +kernel
theorem s151_0 {l0 : Nat} {l1 : Int} {l2 : AV} {l3 : AV} : WP m151 0 [.inr (.inl l0), .inl l1, l2, l3] [] σ Q = WP m151 1 [.inr (.inl l0), .inl l1, l2, l3] [.inr (.inl l0)] σ Q := w_ld d151_0 rfl
theorem d151_1 : adec m151 1 = some (.iload_n 1, 1) := by decide +kernel
theorem s151_1 {l0 : Nat} {l1 : Int} {l2 : AV} {l3 : AV} {x0 : Nat} : WP m151 1 [.inr (.inl l0), .inl l1, l2, l3] [.inr (.inl x0)] σ Q = WP m151 2 [.inr (.inl l0), .inl l1, l2, l3] [.inl l1, .inr (.inl x0)] σ Q := w_ld d151_1 rfl
theorem d151_2 : adec m151 2 = some (.invokevirtual 165, 3) := by decide +kernel
theorem s151_2 {l0 : Nat} {l1 : Int} {l2 : AV} {l3 : AV} {x1 : Int} : WP m151 2 [.inr (.inl l0), .inl l1, l2, l3] [.inl x1, .inr (.inl 130)] σ Q = CA m149 [.inr (.inl 130), .inl x1] σ (fun v σ2 => WP m151 5 [.inr (.inl l0), .inl l1, l2, l3] (v ++ []) σ2 Q) := (w_cV (k := 149) d151_2 (by decide +kernel) m149_at rfl rfl ⟨Nat.le_of_ble_eq_true rfl, Nat.le_of_ble_eq_true rfl, Nat.le_of_ble_eq_true rfl⟩ (by decide)).trans (g_and (isO_dec (by decide +kernel)))
theorem d151_5 : adec m151 5 = some (.istore_n 2, 1) := by decide +kernel
theorem s151_5 {l0 : Nat} {l1 : Int} {l2 : AV} {l3 : AV} {x0 : Int} : WP m151 5 [.inr (.inl l0), .inl l1, l2, l3] [.inl x0] σ Q = WP m151 6 [.inr (.inl l0), .inl l1, .inl x0, l3] [] σ Q := w_st1 (j := 2) d151_5 rfl (Nat.le_of_ble_eq_true rfl) rfl
theorem d151_6 : adec m151 6 = some (.iload_n 1, 1) := by decide +kernel
theorem s151_6 {l0 : Nat} {l1 : Int} {l2 : Int} {l3 : AV} : WP m151 6 [.inr (.inl l0), .inl l1, .inl l2, l3] [] σ Q = WP m151 7 [.inr (.inl l0), .inl l1, .inl l2, l3] [.inl l1] σ Q := w_ld d151_6 rfl
theorem d151_7 : adec m151 7 = some (.istore_n 3, 1) := by decide +kernel
theorem s151_7 {l0 : Nat} {l1 : Int} {l2 : Int} {l3 : AV} {x0 : Int} : WP m151 7 [.inr (.inl l0), .inl l1, .inl l2, l3] [.inl x0] σ Q = WP m151 8 [.inr (.inl l0), .inl l1, .inl l2, .inl x0] [] σ Q := w_st1 (j := 3) d151_7 rfl (Nat.le_of_ble_eq_true rfl) rfl
theorem d151_8 : adec m151 8 = some (.iload_n 3, 1) := by decide +kernel
theorem s151_8 {l0 : Nat} {l1 : Int} {l2 : Int} {l3 : Int} : WP m151 8 [.inr (.inl l0), .inl l1, .inl l2, .inl l3] [] σ Q = WP m151 9 [.inr (.inl l0), .inl l1, .inl l2, .inl l3] [.inl l3] σ Q := w_ld d151_8 rfl
theorem d151_9 : adec m151 9 = some (.iload_n 2, 1) := by decide +kernel
theorem s151_9 {l0 : Nat} {l1 : Int} {l2 : Int} {l3 : Int} {x0 : Int} : WP m151 9 [.inr (.inl l0), .inl l1, .inl l2, .inl l3] [.inl x0] σ Q = WP m151 10 [.inr (.inl l0), .inl l1, .inl l2, .inl l3] [.inl l2, .inl x0] σ Q := w_ld d151_9 rfl
theorem d151_10 : adec m151 10 = some (.if_icmp .ge (19), 3) := by decide +kernel
theorem s151_10 {l0 : Nat} {l1 : Int} {l2 : Int} {l3 : Int} {x0 : Int} {x1 : Int} : WP m151 10 [.inr (.inl l0), .inl l1, .inl l2, .inl l3] [.inl x1, .inl x0] σ Q = (if x1 ≤ x0 then WP m151 29 [.inr (.inl l0), .inl l1, .inl l2, .inl l3] [] σ Q else WP m151 13 [.inr (.inl l0), .inl l1, .inl l2, .inl l3] [] σ Q) := w_icge d151_10 (by decide)
theorem d151_13 : adec m151 13 = some (.aload_n 0, 1) := by decide +kernel
theorem s151_13 {l0 : Nat} {l1 : Int} {l2 : Int} {l3 : Int} : WP m151 13 [.inr (.inl l0), .inl l1, .inl l2, .inl l3] [] σ Q = WP m151 14 [.inr (.inl l0), .inl l1, .inl l2, .inl l3] [.inr (.inl l0)] σ Q := w_ld d151_13 rfl
theorem d151_14 : adec m151 14 = some (.aload_n 0, 1) := by decide +kernel
theorem s151_14 {l0 : Nat} {l1 : Int} {l2 : Int} {l3 : Int} {x0 : Nat} : WP m151 14 [.inr (.inl l0), .inl l1, .inl l2, .inl l3] [.inr (.inl x0)] σ Q = WP m151 15 [.inr (.inl l0), .inl l1, .inl l2, .inl l3] [.inr (.inl l0), .inr (.inl x0)] σ Q := w_ld d151_14 rfl
theorem d151_15 : adec m151 15 = some (.getfield 24, 3) := by decide +kernel
theorem s151_15 {l0 : Nat} {l1 : Int} {l2 : Int} {l3 : Int} {x0 : Nat} : WP m151 15 [.inr (.inl l0), .inl l1, .inl l2, .inl l3] [.inr (.inl 130), .inr (.inl x0)] σ Q = WP m151 18 [.inr (.inl l0), .inl l1, .inl l2, .inl l3] [.inr (.inl 134), .inr (.inl x0)] σ Q := (w_getR (c := 10) (n := 6) d151_15 (by decide +kernel) (by decide +kernel)).trans (g_and ⟨isO_dec (by decide +kernel), by decide +kernel⟩)
theorem d151_18 : adec m151 18 = some (.iload_n 3, 1) := by decide +kernel
theorem s151_18 {l0 : Nat} {l1 : Int} {l2 : Int} {l3 : Int} {x0 : Nat} {x1 : Nat} : WP m151 18 [.inr (.inl l0), .inl l1, .inl l2, .inl l3] [.inr (.inl x1), .inr (.inl x0)] σ Q = WP m151 19 [.inr (.inl l0), .inl l1, .inl l2, .inl l3] [.inl l3, .inr (.inl x1), .inr (.inl x0)] σ Q := w_ld d151_18 rfl
theorem d151_19 : adec m151 19 = some (.iaload, 1) := by decide +kernel
theorem s151_19 {l0 : Nat} {l1 : Int} {l2 : Int} {l3 : Int} {x0 : Nat} {x1 : Nat} {x2 : Int} : WP m151 19 [.inr (.inl l0), .inl l1, .inl l2, .inl l3] [.inl x2, .inr (.inl x1), .inr (.inl x0)] σ Q = ((kdS x1 = 20 ∧ 0 ≤ x2 ∧ x2 < ln x1) ∧ WP m151 20 [.inr (.inl l0), .inl l1, .inl l2, .inl l3] [.inl (σ x1 x2.toNat), .inr (.inl x0)] σ Q) := w_iald d151_19
theorem d151_20 : adec m151 20 = some (.invokevirtual 168, 3) := by decide +kernel
theorem s151_20 {l0 : Nat} {l1 : Int} {l2 : Int} {l3 : Int} {x1 : Int} : WP m151 20 [.inr (.inl l0), .inl l1, .inl l2, .inl l3] [.inl x1, .inr (.inl 130)] σ Q = CA m134 [.inr (.inl 130), .inl x1] σ (fun v σ2 => WP m151 23 [.inr (.inl l0), .inl l1, .inl l2, .inl l3] (v ++ []) σ2 Q) := (w_cV (k := 134) d151_20 (by decide +kernel) m134_at rfl rfl ⟨Nat.le_of_ble_eq_true rfl, Nat.le_of_ble_eq_true rfl, Nat.le_of_ble_eq_true rfl⟩ (by decide)).trans (g_and (isO_dec (by decide +kernel)))
theorem d151_23 : adec m151 23 = some (.iinc 3 (1), 3) := by decide +kernel
theorem s151_23 {l0 : Nat} {l1 : Int} {l2 : Int} {l3 : Int} : WP m151 23 [.inr (.inl l0), .inl l1, .inl l2, .inl l3] [] σ Q = (inI (l3 + (1)) ∧ WP m151 26 [.inr (.inl l0), .inl l1, .inl l2, .inl (l3 + (1))] [] σ Q) := w_iinc d151_23 rfl rfl
theorem d151_26 : adec m151 26 = some (.goto (-18), 3) := by decide +kernel
theorem s151_26 {l0 : Nat} {l1 : Int} {l2 : Int} {l3 : Int} : WP m151 26 [.inr (.inl l0), .inl l1, .inl l2, .inl l3] [] σ Q = WP m151 8 [.inr (.inl l0), .inl l1, .inl l2, .inl l3] [] σ Q := w_goto d151_26 (by decide)
theorem d151_29 : adec m151 29 = some (.return_, 1) := by decide +kernel
theorem s151_29 {l0 : Nat} {l1 : Int} {l2 : Int} {l3 : Int} : WP m151 29 [.inr (.inl l0), .inl l1, .inl l2, .inl l3] [] σ Q = Q [] σ := w_rv d151_29 rfl
theorem e151 {p0 : Nat} {p1 : Int} : CA m151 [.inr (.inl p0), .inl p1] σ Q = WP m151 0 [.inr (.inl p0), .inl p1, vU, vU] [] σ Q := rfl
-- BinderPressModel.takesOut(II)V
theorem d152_0 : adec m152 0 = some (.aload_n 0, 1) := by decide +kernel
theorem s152_0 {l0 : Nat} {l1 : Int} {l2 : Int} {l3 : AV} {l4 : AV} {l5 : AV} {l6 : AV} {l7 : AV} {l8 : AV} : WP m152 0 [.inr (.inl l0), .inl l1, .inl l2, l3, l4, l5, l6, l7, l8] [] σ Q = WP m152 1 [.inr (.inl l0), .inl l1, .inl l2, l3, l4, l5, l6, l7, l8] [.inr (.inl l0)] σ Q := w_ld d152_0 rfl
theorem d152_1 : adec m152 1 = some (.iconst (0), 1) := by decide +kernel
theorem s152_1 {l0 : Nat} {l1 : Int} {l2 : Int} {l3 : AV} {l4 : AV} {l5 : AV} {l6 : AV} {l7 : AV} {l8 : AV} {x0 : Nat} : WP m152 1 [.inr (.inl l0), .inl l1, .inl l2, l3, l4, l5, l6, l7, l8] [.inr (.inl x0)] σ Q = WP m152 2 [.inr (.inl l0), .inl l1, .inl l2, l3, l4, l5, l6, l7, l8] [.inl (0), .inr (.inl x0)] σ Q := w_iconst d152_1 (by decide)
theorem d152_2 : adec m152 2 = some (.putfield 94, 3) := by decide +kernel
theorem s152_2 {l0 : Nat} {l1 : Int} {l2 : Int} {l3 : AV} {l4 : AV} {l5 : AV} {l6 : AV} {l7 : AV} {l8 : AV} {x1 : Int} : WP m152 2 [.inr (.inl l0), .inl l1, .inl l2, l3, l4, l5, l6, l7, l8] [.inl x1, .inr (.inl 130)] σ Q = WP m152 5 [.inr (.inl l0), .inl l1, .inl l2, l3, l4, l5, l6, l7, l8] [] (aup σ 130 11 x1) Q := (w_putI (c := 10) (n := 11) d152_2 (by decide +kernel) (by decide +kernel) (by decide +kernel)).trans (g_and (isO_dec (by decide +kernel)))
theorem d152_5 : adec m152 5 = some (.aload_n 0, 1) := by decide +kernel
theorem s152_5 {l0 : Nat} {l1 : Int} {l2 : Int} {l3 : AV} {l4 : AV} {l5 : AV} {l6 : AV} {l7 : AV} {l8 : AV} : WP m152 5 [.inr (.inl l0), .inl l1, .inl l2, l3, l4, l5, l6, l7, l8] [] σ Q = WP m152 6 [.inr (.inl l0), .inl l1, .inl l2, l3, l4, l5, l6, l7, l8] [.inr (.inl l0)] σ Q := w_ld d152_5 rfl
theorem d152_6 : adec m152 6 = some (.iconst (2), 1) := by decide +kernel
theorem s152_6 {l0 : Nat} {l1 : Int} {l2 : Int} {l3 : AV} {l4 : AV} {l5 : AV} {l6 : AV} {l7 : AV} {l8 : AV} {x0 : Nat} : WP m152 6 [.inr (.inl l0), .inl l1, .inl l2, l3, l4, l5, l6, l7, l8] [.inr (.inl x0)] σ Q = WP m152 7 [.inr (.inl l0), .inl l1, .inl l2, l3, l4, l5, l6, l7, l8] [.inl (2), .inr (.inl x0)] σ Q := w_iconst d152_6 (by decide)
theorem d152_7 : adec m152 7 = some (.iload_n 1, 1) := by decide +kernel
theorem s152_7 {l0 : Nat} {l1 : Int} {l2 : Int} {l3 : AV} {l4 : AV} {l5 : AV} {l6 : AV} {l7 : AV} {l8 : AV} {x0 : Nat} {x1 : Int} : WP m152 7 [.inr (.inl l0), .inl l1, .inl l2, l3, l4, l5, l6, l7, l8] [.inl x1, .inr (.inl x0)] σ Q = WP m152 8 [.inr (.inl l0), .inl l1, .inl l2, l3, l4, l5, l6, l7, l8] [.inl l1, .inl x1, .inr (.inl x0)] σ Q := w_ld d152_7 rfl
theorem d152_8 : adec m152 8 = some (.imul, 1) := by decide +kernel
theorem s152_8 {l0 : Nat} {l1 : Int} {l2 : Int} {l3 : AV} {l4 : AV} {l5 : AV} {l6 : AV} {l7 : AV} {l8 : AV} {x0 : Nat} {x1 : Int} {x2 : Int} : WP m152 8 [.inr (.inl l0), .inl l1, .inl l2, l3, l4, l5, l6, l7, l8] [.inl x2, .inl x1, .inr (.inl x0)] σ Q = (inI (x1 * x2) ∧ WP m152 9 [.inr (.inl l0), .inl l1, .inl l2, l3, l4, l5, l6, l7, l8] [.inl (x1 * x2), .inr (.inl x0)] σ Q) := w_imul d152_8
theorem d152_9 : adec m152 9 = some (.invokevirtual 172, 3) := by decide +kernel
theorem s152_9 {l0 : Nat} {l1 : Int} {l2 : Int} {l3 : AV} {l4 : AV} {l5 : AV} {l6 : AV} {l7 : AV} {l8 : AV} {x1 : Int} : WP m152 9 [.inr (.inl l0), .inl l1, .inl l2, l3, l4, l5, l6, l7, l8] [.inl x1, .inr (.inl 130)] σ Q = CA m132 [.inr (.inl 130), .inl x1] σ (fun v σ2 => WP m152 12 [.inr (.inl l0), .inl l1, .inl l2, l3, l4, l5, l6, l7, l8] (v ++ []) σ2 Q) := (w_cV (k := 132) d152_9 (by decide +kernel) m132_at rfl rfl ⟨Nat.le_of_ble_eq_true rfl, Nat.le_of_ble_eq_true rfl, Nat.le_of_ble_eq_true rfl⟩ (by decide)).trans (g_and (isO_dec (by decide +kernel)))
theorem d152_12 : adec m152 12 = some (.aload_n 0, 1) := by decide +kernel
theorem s152_12 {l0 : Nat} {l1 : Int} {l2 : Int} {l3 : AV} {l4 : AV} {l5 : AV} {l6 : AV} {l7 : AV} {l8 : AV} : WP m152 12 [.inr (.inl l0), .inl l1, .inl l2, l3, l4, l5, l6, l7, l8] [] σ Q = WP m152 13 [.inr (.inl l0), .inl l1, .inl l2, l3, l4, l5, l6, l7, l8] [.inr (.inl l0)] σ Q := w_ld d152_12 rfl
theorem d152_13 : adec m152 13 = some (.getfield 94, 3) := by decide +kernel
theorem s152_13 {l0 : Nat} {l1 : Int} {l2 : Int} {l3 : AV} {l4 : AV} {l5 : AV} {l6 : AV} {l7 : AV} {l8 : AV} : WP m152 13 [.inr (.inl l0), .inl l1, .inl l2, l3, l4, l5, l6, l7, l8] [.inr (.inl 130)] σ Q = WP m152 16 [.inr (.inl l0), .inl l1, .inl l2, l3, l4, l5, l6, l7, l8] [.inl (σ 130 11)] σ Q := (w_getI (c := 10) (n := 11) d152_13 (by decide +kernel) (by decide +kernel)).trans (g_and (isO_dec (by decide +kernel)))
theorem d152_16 : adec m152 16 = some (.ifCond .le (232), 3) := by decide +kernel
theorem s152_16 {l0 : Nat} {l1 : Int} {l2 : Int} {l3 : AV} {l4 : AV} {l5 : AV} {l6 : AV} {l7 : AV} {l8 : AV} {x0 : Int} : WP m152 16 [.inr (.inl l0), .inl l1, .inl l2, l3, l4, l5, l6, l7, l8] [.inl x0] σ Q = (if x0 ≤ 0 then WP m152 248 [.inr (.inl l0), .inl l1, .inl l2, l3, l4, l5, l6, l7, l8] [] σ Q else WP m152 19 [.inr (.inl l0), .inl l1, .inl l2, l3, l4, l5, l6, l7, l8] [] σ Q) := w_ifle d152_16 (by decide)
theorem d152_19 : adec m152 19 = some (.aload_n 0, 1) := by decide +kernel
theorem s152_19 {l0 : Nat} {l1 : Int} {l2 : Int} {l3 : AV} {l4 : AV} {l5 : AV} {l6 : AV} {l7 : AV} {l8 : AV} : WP m152 19 [.inr (.inl l0), .inl l1, .inl l2, l3, l4, l5, l6, l7, l8] [] σ Q = WP m152 20 [.inr (.inl l0), .inl l1, .inl l2, l3, l4, l5, l6, l7, l8] [.inr (.inl l0)] σ Q := w_ld d152_19 rfl
theorem d152_20 : adec m152 20 = some (.invokevirtual 175, 3) := by decide +kernel
theorem s152_20 {l0 : Nat} {l1 : Int} {l2 : Int} {l3 : AV} {l4 : AV} {l5 : AV} {l6 : AV} {l7 : AV} {l8 : AV} : WP m152 20 [.inr (.inl l0), .inl l1, .inl l2, l3, l4, l5, l6, l7, l8] [.inr (.inl 130)] σ Q = CA m133 [.inr (.inl 130)] σ (fun v σ2 => WP m152 23 [.inr (.inl l0), .inl l1, .inl l2, l3, l4, l5, l6, l7, l8] (v ++ []) σ2 Q) := (w_cV (k := 133) d152_20 (by decide +kernel) m133_at rfl rfl ⟨Nat.le_of_ble_eq_true rfl, Nat.le_of_ble_eq_true rfl, Nat.le_of_ble_eq_true rfl⟩ (by decide)).trans (g_and (isO_dec (by decide +kernel)))
theorem d152_23 : adec m152 23 = some (.istore_n 3, 1) := by decide +kernel
theorem s152_23 {l0 : Nat} {l1 : Int} {l2 : Int} {l3 : AV} {l4 : AV} {l5 : AV} {l6 : AV} {l7 : AV} {l8 : AV} {x0 : Int} : WP m152 23 [.inr (.inl l0), .inl l1, .inl l2, l3, l4, l5, l6, l7, l8] [.inl x0] σ Q = WP m152 24 [.inr (.inl l0), .inl l1, .inl l2, .inl x0, l4, l5, l6, l7, l8] [] σ Q := w_st1 (j := 3) d152_23 rfl (Nat.le_of_ble_eq_true rfl) rfl
theorem d152_24 : adec m152 24 = some (.iload_n 3, 1) := by decide +kernel
theorem s152_24 {l0 : Nat} {l1 : Int} {l2 : Int} {l3 : Int} {l4 : AV} {l5 : AV} {l6 : AV} {l7 : AV} {l8 : AV} : WP m152 24 [.inr (.inl l0), .inl l1, .inl l2, .inl l3, l4, l5, l6, l7, l8] [] σ Q = WP m152 25 [.inr (.inl l0), .inl l1, .inl l2, .inl l3, l4, l5, l6, l7, l8] [.inl l3] σ Q := w_ld d152_24 rfl
theorem d152_25 : adec m152 25 = some (.iconst (2), 1) := by decide +kernel
theorem s152_25 {l0 : Nat} {l1 : Int} {l2 : Int} {l3 : Int} {l4 : AV} {l5 : AV} {l6 : AV} {l7 : AV} {l8 : AV} {x0 : Int} : WP m152 25 [.inr (.inl l0), .inl l1, .inl l2, .inl l3, l4, l5, l6, l7, l8] [.inl x0] σ Q = WP m152 26 [.inr (.inl l0), .inl l1, .inl l2, .inl l3, l4, l5, l6, l7, l8] [.inl (2), .inl x0] σ Q := w_iconst d152_25 (by decide)
theorem d152_26 : adec m152 26 = some (.idiv, 1) := by decide +kernel
theorem s152_26 {l0 : Nat} {l1 : Int} {l2 : Int} {l3 : Int} {l4 : AV} {l5 : AV} {l6 : AV} {l7 : AV} {l8 : AV} {x0 : Int} {x1 : Int} : WP m152 26 [.inr (.inl l0), .inl l1, .inl l2, .inl l3, l4, l5, l6, l7, l8] [.inl x1, .inl x0] σ Q = ((0 ≤ x0 ∧ 0 < x1 ∧ inI (x0 / x1)) ∧ WP m152 27 [.inr (.inl l0), .inl l1, .inl l2, .inl l3, l4, l5, l6, l7, l8] [.inl (x0 / x1)] σ Q) := w_idiv d152_26
theorem d152_27 : adec m152 27 = some (.istore 4, 2) := by decide +kernel
theorem s152_27 {l0 : Nat} {l1 : Int} {l2 : Int} {l3 : Int} {l4 : AV} {l5 : AV} {l6 : AV} {l7 : AV} {l8 : AV} {x0 : Int} : WP m152 27 [.inr (.inl l0), .inl l1, .inl l2, .inl l3, l4, l5, l6, l7, l8] [.inl x0] σ Q = WP m152 29 [.inr (.inl l0), .inl l1, .inl l2, .inl l3, .inl x0, l5, l6, l7, l8] [] σ Q := w_st1 (j := 4) d152_27 rfl (Nat.le_of_ble_eq_true rfl) rfl
theorem d152_29 : adec m152 29 = some (.iload 4, 2) := by decide +kernel
theorem s152_29 {l0 : Nat} {l1 : Int} {l2 : Int} {l3 : Int} {l4 : Int} {l5 : AV} {l6 : AV} {l7 : AV} {l8 : AV} : WP m152 29 [.inr (.inl l0), .inl l1, .inl l2, .inl l3, .inl l4, l5, l6, l7, l8] [] σ Q = WP m152 31 [.inr (.inl l0), .inl l1, .inl l2, .inl l3, .inl l4, l5, l6, l7, l8] [.inl l4] σ Q := w_ld d152_29 rfl
theorem d152_31 : adec m152 31 = some (.iconst (1), 1) := by decide +kernel
theorem s152_31 {l0 : Nat} {l1 : Int} {l2 : Int} {l3 : Int} {l4 : Int} {l5 : AV} {l6 : AV} {l7 : AV} {l8 : AV} {x0 : Int} : WP m152 31 [.inr (.inl l0), .inl l1, .inl l2, .inl l3, .inl l4, l5, l6, l7, l8] [.inl x0] σ Q = WP m152 32 [.inr (.inl l0), .inl l1, .inl l2, .inl l3, .inl l4, l5, l6, l7, l8] [.inl (1), .inl x0] σ Q := w_iconst d152_31 (by decide)
theorem d152_32 : adec m152 32 = some (.iadd, 1) := by decide +kernel
theorem s152_32 {l0 : Nat} {l1 : Int} {l2 : Int} {l3 : Int} {l4 : Int} {l5 : AV} {l6 : AV} {l7 : AV} {l8 : AV} {x0 : Int} {x1 : Int} : WP m152 32 [.inr (.inl l0), .inl l1, .inl l2, .inl l3, .inl l4, l5, l6, l7, l8] [.inl x1, .inl x0] σ Q = (inI (x0 + x1) ∧ WP m152 33 [.inr (.inl l0), .inl l1, .inl l2, .inl l3, .inl l4, l5, l6, l7, l8] [.inl (x0 + x1)] σ Q) := w_iadd d152_32
theorem d152_33 : adec m152 33 = some (.istore 5, 2) := by decide +kernel
theorem s152_33 {l0 : Nat} {l1 : Int} {l2 : Int} {l3 : Int} {l4 : Int} {l5 : AV} {l6 : AV} {l7 : AV} {l8 : AV} {x0 : Int} : WP m152 33 [.inr (.inl l0), .inl l1, .inl l2, .inl l3, .inl l4, l5, l6, l7, l8] [.inl x0] σ Q = WP m152 35 [.inr (.inl l0), .inl l1, .inl l2, .inl l3, .inl l4, .inl x0, l6, l7, l8] [] σ Q := w_st1 (j := 5) d152_33 rfl (Nat.le_of_ble_eq_true rfl) rfl
theorem d152_35 : adec m152 35 = some (.aload_n 0, 1) := by decide +kernel
theorem s152_35 {l0 : Nat} {l1 : Int} {l2 : Int} {l3 : Int} {l4 : Int} {l5 : Int} {l6 : AV} {l7 : AV} {l8 : AV} : WP m152 35 [.inr (.inl l0), .inl l1, .inl l2, .inl l3, .inl l4, .inl l5, l6, l7, l8] [] σ Q = WP m152 36 [.inr (.inl l0), .inl l1, .inl l2, .inl l3, .inl l4, .inl l5, l6, l7, l8] [.inr (.inl l0)] σ Q := w_ld d152_35 rfl
theorem d152_36 : adec m152 36 = some (.getfield 24, 3) := by decide +kernel
theorem s152_36 {l0 : Nat} {l1 : Int} {l2 : Int} {l3 : Int} {l4 : Int} {l5 : Int} {l6 : AV} {l7 : AV} {l8 : AV} : WP m152 36 [.inr (.inl l0), .inl l1, .inl l2, .inl l3, .inl l4, .inl l5, l6, l7, l8] [.inr (.inl 130)] σ Q = WP m152 39 [.inr (.inl l0), .inl l1, .inl l2, .inl l3, .inl l4, .inl l5, l6, l7, l8] [.inr (.inl 134)] σ Q := (w_getR (c := 10) (n := 6) d152_36 (by decide +kernel) (by decide +kernel)).trans (g_and ⟨isO_dec (by decide +kernel), by decide +kernel⟩)
theorem d152_39 : adec m152 39 = some (.iload 4, 2) := by decide +kernel
theorem s152_39 {l0 : Nat} {l1 : Int} {l2 : Int} {l3 : Int} {l4 : Int} {l5 : Int} {l6 : AV} {l7 : AV} {l8 : AV} {x0 : Nat} : WP m152 39 [.inr (.inl l0), .inl l1, .inl l2, .inl l3, .inl l4, .inl l5, l6, l7, l8] [.inr (.inl x0)] σ Q = WP m152 41 [.inr (.inl l0), .inl l1, .inl l2, .inl l3, .inl l4, .inl l5, l6, l7, l8] [.inl l4, .inr (.inl x0)] σ Q := w_ld d152_39 rfl
theorem d152_41 : adec m152 41 = some (.iaload, 1) := by decide +kernel
theorem s152_41 {l0 : Nat} {l1 : Int} {l2 : Int} {l3 : Int} {l4 : Int} {l5 : Int} {l6 : AV} {l7 : AV} {l8 : AV} {x0 : Nat} {x1 : Int} : WP m152 41 [.inr (.inl l0), .inl l1, .inl l2, .inl l3, .inl l4, .inl l5, l6, l7, l8] [.inl x1, .inr (.inl x0)] σ Q = ((kdS x0 = 20 ∧ 0 ≤ x1 ∧ x1 < ln x0) ∧ WP m152 42 [.inr (.inl l0), .inl l1, .inl l2, .inl l3, .inl l4, .inl l5, l6, l7, l8] [.inl (σ x0 x1.toNat)] σ Q) := w_iald d152_41
theorem d152_42 : adec m152 42 = some (.ifCond .ne (12), 3) := by decide +kernel
theorem s152_42 {l0 : Nat} {l1 : Int} {l2 : Int} {l3 : Int} {l4 : Int} {l5 : Int} {l6 : AV} {l7 : AV} {l8 : AV} {x0 : Int} : WP m152 42 [.inr (.inl l0), .inl l1, .inl l2, .inl l3, .inl l4, .inl l5, l6, l7, l8] [.inl x0] σ Q = (if x0 = 0 then WP m152 45 [.inr (.inl l0), .inl l1, .inl l2, .inl l3, .inl l4, .inl l5, l6, l7, l8] [] σ Q else WP m152 54 [.inr (.inl l0), .inl l1, .inl l2, .inl l3, .inl l4, .inl l5, l6, l7, l8] [] σ Q) := w_ifne d152_42 (by decide)
theorem d152_45 : adec m152 45 = some (.aload_n 0, 1) := by decide +kernel
theorem s152_45 {l0 : Nat} {l1 : Int} {l2 : Int} {l3 : Int} {l4 : Int} {l5 : Int} {l6 : AV} {l7 : AV} {l8 : AV} : WP m152 45 [.inr (.inl l0), .inl l1, .inl l2, .inl l3, .inl l4, .inl l5, l6, l7, l8] [] σ Q = WP m152 46 [.inr (.inl l0), .inl l1, .inl l2, .inl l3, .inl l4, .inl l5, l6, l7, l8] [.inr (.inl l0)] σ Q := w_ld d152_45 rfl
theorem d152_46 : adec m152 46 = some (.iload 5, 2) := by decide +kernel
theorem s152_46 {l0 : Nat} {l1 : Int} {l2 : Int} {l3 : Int} {l4 : Int} {l5 : Int} {l6 : AV} {l7 : AV} {l8 : AV} {x0 : Nat} : WP m152 46 [.inr (.inl l0), .inl l1, .inl l2, .inl l3, .inl l4, .inl l5, l6, l7, l8] [.inr (.inl x0)] σ Q = WP m152 48 [.inr (.inl l0), .inl l1, .inl l2, .inl l3, .inl l4, .inl l5, l6, l7, l8] [.inl l5, .inr (.inl x0)] σ Q := w_ld d152_46 rfl
theorem d152_48 : adec m152 48 = some (.invokevirtual 165, 3) := by decide +kernel
theorem s152_48 {l0 : Nat} {l1 : Int} {l2 : Int} {l3 : Int} {l4 : Int} {l5 : Int} {l6 : AV} {l7 : AV} {l8 : AV} {x1 : Int} : WP m152 48 [.inr (.inl l0), .inl l1, .inl l2, .inl l3, .inl l4, .inl l5, l6, l7, l8] [.inl x1, .inr (.inl 130)] σ Q = CA m149 [.inr (.inl 130), .inl x1] σ (fun v σ2 => WP m152 51 [.inr (.inl l0), .inl l1, .inl l2, .inl l3, .inl l4, .inl l5, l6, l7, l8] (v ++ []) σ2 Q) := (w_cV (k := 149) d152_48 (by decide +kernel) m149_at rfl rfl ⟨Nat.le_of_ble_eq_true rfl, Nat.le_of_ble_eq_true rfl, Nat.le_of_ble_eq_true rfl⟩ (by decide)).trans (g_and (isO_dec (by decide +kernel)))
theorem d152_51 : adec m152 51 = some (.goto (4), 3) := by decide +kernel
theorem s152_51 {l0 : Nat} {l1 : Int} {l2 : Int} {l3 : Int} {l4 : Int} {l5 : Int} {l6 : AV} {l7 : AV} {l8 : AV} {x0 : Int} : WP m152 51 [.inr (.inl l0), .inl l1, .inl l2, .inl l3, .inl l4, .inl l5, l6, l7, l8] [.inl x0] σ Q = WP m152 55 [.inr (.inl l0), .inl l1, .inl l2, .inl l3, .inl l4, .inl l5, l6, l7, l8] [.inl x0] σ Q := w_goto d152_51 (by decide)
theorem d152_54 : adec m152 54 = some (.iconst (0), 1) := by decide +kernel
theorem s152_54 {l0 : Nat} {l1 : Int} {l2 : Int} {l3 : Int} {l4 : Int} {l5 : Int} {l6 : AV} {l7 : AV} {l8 : AV} : WP m152 54 [.inr (.inl l0), .inl l1, .inl l2, .inl l3, .inl l4, .inl l5, l6, l7, l8] [] σ Q = WP m152 55 [.inr (.inl l0), .inl l1, .inl l2, .inl l3, .inl l4, .inl l5, l6, l7, l8] [.inl (0)] σ Q := w_iconst d152_54 (by decide)
theorem d152_55 : adec m152 55 = some (.istore 6, 2) := by decide +kernel
theorem s152_55 {l0 : Nat} {l1 : Int} {l2 : Int} {l3 : Int} {l4 : Int} {l5 : Int} {l6 : AV} {l7 : AV} {l8 : AV} {x0 : Int} : WP m152 55 [.inr (.inl l0), .inl l1, .inl l2, .inl l3, .inl l4, .inl l5, l6, l7, l8] [.inl x0] σ Q = WP m152 57 [.inr (.inl l0), .inl l1, .inl l2, .inl l3, .inl l4, .inl l5, .inl x0, l7, l8] [] σ Q := w_st1 (j := 6) d152_55 rfl (Nat.le_of_ble_eq_true rfl) rfl
theorem d152_57 : adec m152 57 = some (.iload_n 3, 1) := by decide +kernel
theorem s152_57 {l0 : Nat} {l1 : Int} {l2 : Int} {l3 : Int} {l4 : Int} {l5 : Int} {l6 : Int} {l7 : AV} {l8 : AV} : WP m152 57 [.inr (.inl l0), .inl l1, .inl l2, .inl l3, .inl l4, .inl l5, .inl l6, l7, l8] [] σ Q = WP m152 58 [.inr (.inl l0), .inl l1, .inl l2, .inl l3, .inl l4, .inl l5, .inl l6, l7, l8] [.inl l3] σ Q := w_ld d152_57 rfl
theorem d152_58 : adec m152 58 = some (.iconst (2), 1) := by decide +kernel
theorem s152_58 {l0 : Nat} {l1 : Int} {l2 : Int} {l3 : Int} {l4 : Int} {l5 : Int} {l6 : Int} {l7 : AV} {l8 : AV} {x0 : Int} : WP m152 58 [.inr (.inl l0), .inl l1, .inl l2, .inl l3, .inl l4, .inl l5, .inl l6, l7, l8] [.inl x0] σ Q = WP m152 59 [.inr (.inl l0), .inl l1, .inl l2, .inl l3, .inl l4, .inl l5, .inl l6, l7, l8] [.inl (2), .inl x0] σ Q := w_iconst d152_58 (by decide)
theorem d152_59 : adec m152 59 = some (.irem, 1) := by decide +kernel
theorem s152_59 {l0 : Nat} {l1 : Int} {l2 : Int} {l3 : Int} {l4 : Int} {l5 : Int} {l6 : Int} {l7 : AV} {l8 : AV} {x0 : Int} {x1 : Int} : WP m152 59 [.inr (.inl l0), .inl l1, .inl l2, .inl l3, .inl l4, .inl l5, .inl l6, l7, l8] [.inl x1, .inl x0] σ Q = ((0 ≤ x0 ∧ 0 < x1 ∧ inI (x0 % x1)) ∧ WP m152 60 [.inr (.inl l0), .inl l1, .inl l2, .inl l3, .inl l4, .inl l5, .inl l6, l7, l8] [.inl (x0 % x1)] σ Q) := w_irem d152_59
theorem d152_60 : adec m152 60 = some (.iconst (1), 1) := by decide +kernel
theorem s152_60 {l0 : Nat} {l1 : Int} {l2 : Int} {l3 : Int} {l4 : Int} {l5 : Int} {l6 : Int} {l7 : AV} {l8 : AV} {x0 : Int} : WP m152 60 [.inr (.inl l0), .inl l1, .inl l2, .inl l3, .inl l4, .inl l5, .inl l6, l7, l8] [.inl x0] σ Q = WP m152 61 [.inr (.inl l0), .inl l1, .inl l2, .inl l3, .inl l4, .inl l5, .inl l6, l7, l8] [.inl (1), .inl x0] σ Q := w_iconst d152_60 (by decide)
theorem d152_61 : adec m152 61 = some (.if_icmp .ne (12), 3) := by decide +kernel
theorem s152_61 {l0 : Nat} {l1 : Int} {l2 : Int} {l3 : Int} {l4 : Int} {l5 : Int} {l6 : Int} {l7 : AV} {l8 : AV} {x0 : Int} {x1 : Int} : WP m152 61 [.inr (.inl l0), .inl l1, .inl l2, .inl l3, .inl l4, .inl l5, .inl l6, l7, l8] [.inl x1, .inl x0] σ Q = (if x0 = x1 then WP m152 64 [.inr (.inl l0), .inl l1, .inl l2, .inl l3, .inl l4, .inl l5, .inl l6, l7, l8] [] σ Q else WP m152 73 [.inr (.inl l0), .inl l1, .inl l2, .inl l3, .inl l4, .inl l5, .inl l6, l7, l8] [] σ Q) := w_icne d152_61 (by decide)
theorem d152_64 : adec m152 64 = some (.aload_n 0, 1) := by decide +kernel
theorem s152_64 {l0 : Nat} {l1 : Int} {l2 : Int} {l3 : Int} {l4 : Int} {l5 : Int} {l6 : Int} {l7 : AV} {l8 : AV} : WP m152 64 [.inr (.inl l0), .inl l1, .inl l2, .inl l3, .inl l4, .inl l5, .inl l6, l7, l8] [] σ Q = WP m152 65 [.inr (.inl l0), .inl l1, .inl l2, .inl l3, .inl l4, .inl l5, .inl l6, l7, l8] [.inr (.inl l0)] σ Q := w_ld d152_64 rfl
theorem d152_65 : adec m152 65 = some (.iload 4, 2) := by decide +kernel
theorem s152_65 {l0 : Nat} {l1 : Int} {l2 : Int} {l3 : Int} {l4 : Int} {l5 : Int} {l6 : Int} {l7 : AV} {l8 : AV} {x0 : Nat} : WP m152 65 [.inr (.inl l0), .inl l1, .inl l2, .inl l3, .inl l4, .inl l5, .inl l6, l7, l8] [.inr (.inl x0)] σ Q = WP m152 67 [.inr (.inl l0), .inl l1, .inl l2, .inl l3, .inl l4, .inl l5, .inl l6, l7, l8] [.inl l4, .inr (.inl x0)] σ Q := w_ld d152_65 rfl
theorem d152_67 : adec m152 67 = some (.invokevirtual 179, 3) := by decide +kernel
theorem s152_67 {l0 : Nat} {l1 : Int} {l2 : Int} {l3 : Int} {l4 : Int} {l5 : Int} {l6 : Int} {l7 : AV} {l8 : AV} {x1 : Int} : WP m152 67 [.inr (.inl l0), .inl l1, .inl l2, .inl l3, .inl l4, .inl l5, .inl l6, l7, l8] [.inl x1, .inr (.inl 130)] σ Q = CA m151 [.inr (.inl 130), .inl x1] σ (fun v σ2 => WP m152 70 [.inr (.inl l0), .inl l1, .inl l2, .inl l3, .inl l4, .inl l5, .inl l6, l7, l8] (v ++ []) σ2 Q) := (w_cV (k := 151) d152_67 (by decide +kernel) m151_at rfl rfl ⟨Nat.le_of_ble_eq_true rfl, Nat.le_of_ble_eq_true rfl, Nat.le_of_ble_eq_true rfl⟩ (by decide)).trans (g_and (isO_dec (by decide +kernel)))
theorem d152_70 : adec m152 70 = some (.goto (175), 3) := by decide +kernel
theorem s152_70 {l0 : Nat} {l1 : Int} {l2 : Int} {l3 : Int} {l4 : Int} {l5 : Int} {l6 : Int} {l7 : AV} {l8 : AV} : WP m152 70 [.inr (.inl l0), .inl l1, .inl l2, .inl l3, .inl l4, .inl l5, .inl l6, l7, l8] [] σ Q = WP m152 245 [.inr (.inl l0), .inl l1, .inl l2, .inl l3, .inl l4, .inl l5, .inl l6, l7, l8] [] σ Q := w_goto d152_70 (by decide)
theorem d152_73 : adec m152 73 = some (.aload_n 0, 1) := by decide +kernel
theorem s152_73 {l0 : Nat} {l1 : Int} {l2 : Int} {l3 : Int} {l4 : Int} {l5 : Int} {l6 : Int} {l7 : AV} {l8 : AV} : WP m152 73 [.inr (.inl l0), .inl l1, .inl l2, .inl l3, .inl l4, .inl l5, .inl l6, l7, l8] [] σ Q = WP m152 74 [.inr (.inl l0), .inl l1, .inl l2, .inl l3, .inl l4, .inl l5, .inl l6, l7, l8] [.inr (.inl l0)] σ Q := w_ld d152_73 rfl
theorem d152_74 : adec m152 74 = some (.getfield 24, 3) := by decide +kernel
theorem s152_74 {l0 : Nat} {l1 : Int} {l2 : Int} {l3 : Int} {l4 : Int} {l5 : Int} {l6 : Int} {l7 : AV} {l8 : AV} : WP m152 74 [.inr (.inl l0), .inl l1, .inl l2, .inl l3, .inl l4, .inl l5, .inl l6, l7, l8] [.inr (.inl 130)] σ Q = WP m152 77 [.inr (.inl l0), .inl l1, .inl l2, .inl l3, .inl l4, .inl l5, .inl l6, l7, l8] [.inr (.inl 134)] σ Q := (w_getR (c := 10) (n := 6) d152_74 (by decide +kernel) (by decide +kernel)).trans (g_and ⟨isO_dec (by decide +kernel), by decide +kernel⟩)
theorem d152_77 : adec m152 77 = some (.iload 4, 2) := by decide +kernel
theorem s152_77 {l0 : Nat} {l1 : Int} {l2 : Int} {l3 : Int} {l4 : Int} {l5 : Int} {l6 : Int} {l7 : AV} {l8 : AV} {x0 : Nat} : WP m152 77 [.inr (.inl l0), .inl l1, .inl l2, .inl l3, .inl l4, .inl l5, .inl l6, l7, l8] [.inr (.inl x0)] σ Q = WP m152 79 [.inr (.inl l0), .inl l1, .inl l2, .inl l3, .inl l4, .inl l5, .inl l6, l7, l8] [.inl l4, .inr (.inl x0)] σ Q := w_ld d152_77 rfl
theorem d152_79 : adec m152 79 = some (.iaload, 1) := by decide +kernel
theorem s152_79 {l0 : Nat} {l1 : Int} {l2 : Int} {l3 : Int} {l4 : Int} {l5 : Int} {l6 : Int} {l7 : AV} {l8 : AV} {x0 : Nat} {x1 : Int} : WP m152 79 [.inr (.inl l0), .inl l1, .inl l2, .inl l3, .inl l4, .inl l5, .inl l6, l7, l8] [.inl x1, .inr (.inl x0)] σ Q = ((kdS x0 = 20 ∧ 0 ≤ x1 ∧ x1 < ln x0) ∧ WP m152 80 [.inr (.inl l0), .inl l1, .inl l2, .inl l3, .inl l4, .inl l5, .inl l6, l7, l8] [.inl (σ x0 x1.toNat)] σ Q) := w_iald d152_79
theorem d152_80 : adec m152 80 = some (.iload_n 2, 1) := by decide +kernel
theorem s152_80 {l0 : Nat} {l1 : Int} {l2 : Int} {l3 : Int} {l4 : Int} {l5 : Int} {l6 : Int} {l7 : AV} {l8 : AV} {x0 : Int} : WP m152 80 [.inr (.inl l0), .inl l1, .inl l2, .inl l3, .inl l4, .inl l5, .inl l6, l7, l8] [.inl x0] σ Q = WP m152 81 [.inr (.inl l0), .inl l1, .inl l2, .inl l3, .inl l4, .inl l5, .inl l6, l7, l8] [.inl l2, .inl x0] σ Q := w_ld d152_80 rfl
theorem d152_81 : adec m152 81 = some (.if_icmp .ne (11), 3) := by decide +kernel
theorem s152_81 {l0 : Nat} {l1 : Int} {l2 : Int} {l3 : Int} {l4 : Int} {l5 : Int} {l6 : Int} {l7 : AV} {l8 : AV} {x0 : Int} {x1 : Int} : WP m152 81 [.inr (.inl l0), .inl l1, .inl l2, .inl l3, .inl l4, .inl l5, .inl l6, l7, l8] [.inl x1, .inl x0] σ Q = (if x0 = x1 then WP m152 84 [.inr (.inl l0), .inl l1, .inl l2, .inl l3, .inl l4, .inl l5, .inl l6, l7, l8] [] σ Q else WP m152 92 [.inr (.inl l0), .inl l1, .inl l2, .inl l3, .inl l4, .inl l5, .inl l6, l7, l8] [] σ Q) := w_icne d152_81 (by decide)
theorem d152_84 : adec m152 84 = some (.aload_n 0, 1) := by decide +kernel
theorem s152_84 {l0 : Nat} {l1 : Int} {l2 : Int} {l3 : Int} {l4 : Int} {l5 : Int} {l6 : Int} {l7 : AV} {l8 : AV} : WP m152 84 [.inr (.inl l0), .inl l1, .inl l2, .inl l3, .inl l4, .inl l5, .inl l6, l7, l8] [] σ Q = WP m152 85 [.inr (.inl l0), .inl l1, .inl l2, .inl l3, .inl l4, .inl l5, .inl l6, l7, l8] [.inr (.inl l0)] σ Q := w_ld d152_84 rfl
theorem d152_85 : adec m152 85 = some (.iconst (1), 1) := by decide +kernel
theorem s152_85 {l0 : Nat} {l1 : Int} {l2 : Int} {l3 : Int} {l4 : Int} {l5 : Int} {l6 : Int} {l7 : AV} {l8 : AV} {x0 : Nat} : WP m152 85 [.inr (.inl l0), .inl l1, .inl l2, .inl l3, .inl l4, .inl l5, .inl l6, l7, l8] [.inr (.inl x0)] σ Q = WP m152 86 [.inr (.inl l0), .inl l1, .inl l2, .inl l3, .inl l4, .inl l5, .inl l6, l7, l8] [.inl (1), .inr (.inl x0)] σ Q := w_iconst d152_85 (by decide)
theorem d152_86 : adec m152 86 = some (.invokevirtual 168, 3) := by decide +kernel
theorem s152_86 {l0 : Nat} {l1 : Int} {l2 : Int} {l3 : Int} {l4 : Int} {l5 : Int} {l6 : Int} {l7 : AV} {l8 : AV} {x1 : Int} : WP m152 86 [.inr (.inl l0), .inl l1, .inl l2, .inl l3, .inl l4, .inl l5, .inl l6, l7, l8] [.inl x1, .inr (.inl 130)] σ Q = CA m134 [.inr (.inl 130), .inl x1] σ (fun v σ2 => WP m152 89 [.inr (.inl l0), .inl l1, .inl l2, .inl l3, .inl l4, .inl l5, .inl l6, l7, l8] (v ++ []) σ2 Q) := (w_cV (k := 134) d152_86 (by decide +kernel) m134_at rfl rfl ⟨Nat.le_of_ble_eq_true rfl, Nat.le_of_ble_eq_true rfl, Nat.le_of_ble_eq_true rfl⟩ (by decide)).trans (g_and (isO_dec (by decide +kernel)))
theorem d152_89 : adec m152 89 = some (.goto (156), 3) := by decide +kernel
theorem s152_89 {l0 : Nat} {l1 : Int} {l2 : Int} {l3 : Int} {l4 : Int} {l5 : Int} {l6 : Int} {l7 : AV} {l8 : AV} : WP m152 89 [.inr (.inl l0), .inl l1, .inl l2, .inl l3, .inl l4, .inl l5, .inl l6, l7, l8] [] σ Q = WP m152 245 [.inr (.inl l0), .inl l1, .inl l2, .inl l3, .inl l4, .inl l5, .inl l6, l7, l8] [] σ Q := w_goto d152_89 (by decide)
theorem d152_92 : adec m152 92 = some (.aload_n 0, 1) := by decide +kernel
theorem s152_92 {l0 : Nat} {l1 : Int} {l2 : Int} {l3 : Int} {l4 : Int} {l5 : Int} {l6 : Int} {l7 : AV} {l8 : AV} : WP m152 92 [.inr (.inl l0), .inl l1, .inl l2, .inl l3, .inl l4, .inl l5, .inl l6, l7, l8] [] σ Q = WP m152 93 [.inr (.inl l0), .inl l1, .inl l2, .inl l3, .inl l4, .inl l5, .inl l6, l7, l8] [.inr (.inl l0)] σ Q := w_ld d152_92 rfl
theorem d152_93 : adec m152 93 = some (.iload 4, 2) := by decide +kernel
theorem s152_93 {l0 : Nat} {l1 : Int} {l2 : Int} {l3 : Int} {l4 : Int} {l5 : Int} {l6 : Int} {l7 : AV} {l8 : AV} {x0 : Nat} : WP m152 93 [.inr (.inl l0), .inl l1, .inl l2, .inl l3, .inl l4, .inl l5, .inl l6, l7, l8] [.inr (.inl x0)] σ Q = WP m152 95 [.inr (.inl l0), .inl l1, .inl l2, .inl l3, .inl l4, .inl l5, .inl l6, l7, l8] [.inl l4, .inr (.inl x0)] σ Q := w_ld d152_93 rfl
theorem d152_95 : adec m152 95 = some (.iload_n 2, 1) := by decide +kernel
theorem s152_95 {l0 : Nat} {l1 : Int} {l2 : Int} {l3 : Int} {l4 : Int} {l5 : Int} {l6 : Int} {l7 : AV} {l8 : AV} {x0 : Nat} {x1 : Int} : WP m152 95 [.inr (.inl l0), .inl l1, .inl l2, .inl l3, .inl l4, .inl l5, .inl l6, l7, l8] [.inl x1, .inr (.inl x0)] σ Q = WP m152 96 [.inr (.inl l0), .inl l1, .inl l2, .inl l3, .inl l4, .inl l5, .inl l6, l7, l8] [.inl l2, .inl x1, .inr (.inl x0)] σ Q := w_ld d152_95 rfl
theorem d152_96 : adec m152 96 = some (.invokevirtual 182, 3) := by decide +kernel
theorem s152_96 {l0 : Nat} {l1 : Int} {l2 : Int} {l3 : Int} {l4 : Int} {l5 : Int} {l6 : Int} {l7 : AV} {l8 : AV} {x1 : Int} {x2 : Int} : WP m152 96 [.inr (.inl l0), .inl l1, .inl l2, .inl l3, .inl l4, .inl l5, .inl l6, l7, l8] [.inl x2, .inl x1, .inr (.inl 130)] σ Q = CA m150 [.inr (.inl 130), .inl x1, .inl x2] σ (fun v σ2 => WP m152 99 [.inr (.inl l0), .inl l1, .inl l2, .inl l3, .inl l4, .inl l5, .inl l6, l7, l8] (v ++ []) σ2 Q) := (w_cV (k := 150) d152_96 (by decide +kernel) m150_at rfl rfl ⟨Nat.le_of_ble_eq_true rfl, Nat.le_of_ble_eq_true rfl, Nat.le_of_ble_eq_true rfl⟩ (by decide)).trans (g_and (isO_dec (by decide +kernel)))
theorem d152_99 : adec m152 99 = some (.ifCond .ne (22), 3) := by decide +kernel
theorem s152_99 {l0 : Nat} {l1 : Int} {l2 : Int} {l3 : Int} {l4 : Int} {l5 : Int} {l6 : Int} {l7 : AV} {l8 : AV} {x0 : Int} : WP m152 99 [.inr (.inl l0), .inl l1, .inl l2, .inl l3, .inl l4, .inl l5, .inl l6, l7, l8] [.inl x0] σ Q = (if x0 = 0 then WP m152 102 [.inr (.inl l0), .inl l1, .inl l2, .inl l3, .inl l4, .inl l5, .inl l6, l7, l8] [] σ Q else WP m152 121 [.inr (.inl l0), .inl l1, .inl l2, .inl l3, .inl l4, .inl l5, .inl l6, l7, l8] [] σ Q) := w_ifne d152_99 (by decide)
theorem d152_102 : adec m152 102 = some (.aload_n 0, 1) := by decide +kernel
theorem s152_102 {l0 : Nat} {l1 : Int} {l2 : Int} {l3 : Int} {l4 : Int} {l5 : Int} {l6 : Int} {l7 : AV} {l8 : AV} : WP m152 102 [.inr (.inl l0), .inl l1, .inl l2, .inl l3, .inl l4, .inl l5, .inl l6, l7, l8] [] σ Q = WP m152 103 [.inr (.inl l0), .inl l1, .inl l2, .inl l3, .inl l4, .inl l5, .inl l6, l7, l8] [.inr (.inl l0)] σ Q := w_ld d152_102 rfl
theorem d152_103 : adec m152 103 = some (.iconst (0), 1) := by decide +kernel
theorem s152_103 {l0 : Nat} {l1 : Int} {l2 : Int} {l3 : Int} {l4 : Int} {l5 : Int} {l6 : Int} {l7 : AV} {l8 : AV} {x0 : Nat} : WP m152 103 [.inr (.inl l0), .inl l1, .inl l2, .inl l3, .inl l4, .inl l5, .inl l6, l7, l8] [.inr (.inl x0)] σ Q = WP m152 104 [.inr (.inl l0), .inl l1, .inl l2, .inl l3, .inl l4, .inl l5, .inl l6, l7, l8] [.inl (0), .inr (.inl x0)] σ Q := w_iconst d152_103 (by decide)
theorem d152_104 : adec m152 104 = some (.invokevirtual 168, 3) := by decide +kernel
theorem s152_104 {l0 : Nat} {l1 : Int} {l2 : Int} {l3 : Int} {l4 : Int} {l5 : Int} {l6 : Int} {l7 : AV} {l8 : AV} {x1 : Int} : WP m152 104 [.inr (.inl l0), .inl l1, .inl l2, .inl l3, .inl l4, .inl l5, .inl l6, l7, l8] [.inl x1, .inr (.inl 130)] σ Q = CA m134 [.inr (.inl 130), .inl x1] σ (fun v σ2 => WP m152 107 [.inr (.inl l0), .inl l1, .inl l2, .inl l3, .inl l4, .inl l5, .inl l6, l7, l8] (v ++ []) σ2 Q) := (w_cV (k := 134) d152_104 (by decide +kernel) m134_at rfl rfl ⟨Nat.le_of_ble_eq_true rfl, Nat.le_of_ble_eq_true rfl, Nat.le_of_ble_eq_true rfl⟩ (by decide)).trans (g_and (isO_dec (by decide +kernel)))
theorem d152_107 : adec m152 107 = some (.aload_n 0, 1) := by decide +kernel
theorem s152_107 {l0 : Nat} {l1 : Int} {l2 : Int} {l3 : Int} {l4 : Int} {l5 : Int} {l6 : Int} {l7 : AV} {l8 : AV} : WP m152 107 [.inr (.inl l0), .inl l1, .inl l2, .inl l3, .inl l4, .inl l5, .inl l6, l7, l8] [] σ Q = WP m152 108 [.inr (.inl l0), .inl l1, .inl l2, .inl l3, .inl l4, .inl l5, .inl l6, l7, l8] [.inr (.inl l0)] σ Q := w_ld d152_107 rfl
theorem d152_108 : adec m152 108 = some (.iconst (2), 1) := by decide +kernel
theorem s152_108 {l0 : Nat} {l1 : Int} {l2 : Int} {l3 : Int} {l4 : Int} {l5 : Int} {l6 : Int} {l7 : AV} {l8 : AV} {x0 : Nat} : WP m152 108 [.inr (.inl l0), .inl l1, .inl l2, .inl l3, .inl l4, .inl l5, .inl l6, l7, l8] [.inr (.inl x0)] σ Q = WP m152 109 [.inr (.inl l0), .inl l1, .inl l2, .inl l3, .inl l4, .inl l5, .inl l6, l7, l8] [.inl (2), .inr (.inl x0)] σ Q := w_iconst d152_108 (by decide)
theorem d152_109 : adec m152 109 = some (.invokevirtual 168, 3) := by decide +kernel
theorem s152_109 {l0 : Nat} {l1 : Int} {l2 : Int} {l3 : Int} {l4 : Int} {l5 : Int} {l6 : Int} {l7 : AV} {l8 : AV} {x1 : Int} : WP m152 109 [.inr (.inl l0), .inl l1, .inl l2, .inl l3, .inl l4, .inl l5, .inl l6, l7, l8] [.inl x1, .inr (.inl 130)] σ Q = CA m134 [.inr (.inl 130), .inl x1] σ (fun v σ2 => WP m152 112 [.inr (.inl l0), .inl l1, .inl l2, .inl l3, .inl l4, .inl l5, .inl l6, l7, l8] (v ++ []) σ2 Q) := (w_cV (k := 134) d152_109 (by decide +kernel) m134_at rfl rfl ⟨Nat.le_of_ble_eq_true rfl, Nat.le_of_ble_eq_true rfl, Nat.le_of_ble_eq_true rfl⟩ (by decide)).trans (g_and (isO_dec (by decide +kernel)))
theorem d152_112 : adec m152 112 = some (.aload_n 0, 1) := by decide +kernel
theorem s152_112 {l0 : Nat} {l1 : Int} {l2 : Int} {l3 : Int} {l4 : Int} {l5 : Int} {l6 : Int} {l7 : AV} {l8 : AV} : WP m152 112 [.inr (.inl l0), .inl l1, .inl l2, .inl l3, .inl l4, .inl l5, .inl l6, l7, l8] [] σ Q = WP m152 113 [.inr (.inl l0), .inl l1, .inl l2, .inl l3, .inl l4, .inl l5, .inl l6, l7, l8] [.inr (.inl l0)] σ Q := w_ld d152_112 rfl
theorem d152_113 : adec m152 113 = some (.iload 4, 2) := by decide +kernel
theorem s152_113 {l0 : Nat} {l1 : Int} {l2 : Int} {l3 : Int} {l4 : Int} {l5 : Int} {l6 : Int} {l7 : AV} {l8 : AV} {x0 : Nat} : WP m152 113 [.inr (.inl l0), .inl l1, .inl l2, .inl l3, .inl l4, .inl l5, .inl l6, l7, l8] [.inr (.inl x0)] σ Q = WP m152 115 [.inr (.inl l0), .inl l1, .inl l2, .inl l3, .inl l4, .inl l5, .inl l6, l7, l8] [.inl l4, .inr (.inl x0)] σ Q := w_ld d152_113 rfl
theorem d152_115 : adec m152 115 = some (.invokevirtual 179, 3) := by decide +kernel
theorem s152_115 {l0 : Nat} {l1 : Int} {l2 : Int} {l3 : Int} {l4 : Int} {l5 : Int} {l6 : Int} {l7 : AV} {l8 : AV} {x1 : Int} : WP m152 115 [.inr (.inl l0), .inl l1, .inl l2, .inl l3, .inl l4, .inl l5, .inl l6, l7, l8] [.inl x1, .inr (.inl 130)] σ Q = CA m151 [.inr (.inl 130), .inl x1] σ (fun v σ2 => WP m152 118 [.inr (.inl l0), .inl l1, .inl l2, .inl l3, .inl l4, .inl l5, .inl l6, l7, l8] (v ++ []) σ2 Q) := (w_cV (k := 151) d152_115 (by decide +kernel) m151_at rfl rfl ⟨Nat.le_of_ble_eq_true rfl, Nat.le_of_ble_eq_true rfl, Nat.le_of_ble_eq_true rfl⟩ (by decide)).trans (g_and (isO_dec (by decide +kernel)))
theorem d152_118 : adec m152 118 = some (.goto (127), 3) := by decide +kernel
theorem s152_118 {l0 : Nat} {l1 : Int} {l2 : Int} {l3 : Int} {l4 : Int} {l5 : Int} {l6 : Int} {l7 : AV} {l8 : AV} : WP m152 118 [.inr (.inl l0), .inl l1, .inl l2, .inl l3, .inl l4, .inl l5, .inl l6, l7, l8] [] σ Q = WP m152 245 [.inr (.inl l0), .inl l1, .inl l2, .inl l3, .inl l4, .inl l5, .inl l6, l7, l8] [] σ Q := w_goto d152_118 (by decide)
theorem d152_121 : adec m152 121 = some (.aload_n 0, 1) := by decide +kernel
theorem s152_121 {l0 : Nat} {l1 : Int} {l2 : Int} {l3 : Int} {l4 : Int} {l5 : Int} {l6 : Int} {l7 : AV} {l8 : AV} : WP m152 121 [.inr (.inl l0), .inl l1, .inl l2, .inl l3, .inl l4, .inl l5, .inl l6, l7, l8] [] σ Q = WP m152 122 [.inr (.inl l0), .inl l1, .inl l2, .inl l3, .inl l4, .inl l5, .inl l6, l7, l8] [.inr (.inl l0)] σ Q := w_ld d152_121 rfl
theorem d152_122 : adec m152 122 = some (.iload 5, 2) := by decide +kernel
theorem s152_122 {l0 : Nat} {l1 : Int} {l2 : Int} {l3 : Int} {l4 : Int} {l5 : Int} {l6 : Int} {l7 : AV} {l8 : AV} {x0 : Nat} : WP m152 122 [.inr (.inl l0), .inl l1, .inl l2, .inl l3, .inl l4, .inl l5, .inl l6, l7, l8] [.inr (.inl x0)] σ Q = WP m152 124 [.inr (.inl l0), .inl l1, .inl l2, .inl l3, .inl l4, .inl l5, .inl l6, l7, l8] [.inl l5, .inr (.inl x0)] σ Q := w_ld d152_122 rfl
theorem d152_124 : adec m152 124 = some (.iload_n 2, 1) := by decide +kernel
theorem s152_124 {l0 : Nat} {l1 : Int} {l2 : Int} {l3 : Int} {l4 : Int} {l5 : Int} {l6 : Int} {l7 : AV} {l8 : AV} {x0 : Nat} {x1 : Int} : WP m152 124 [.inr (.inl l0), .inl l1, .inl l2, .inl l3, .inl l4, .inl l5, .inl l6, l7, l8] [.inl x1, .inr (.inl x0)] σ Q = WP m152 125 [.inr (.inl l0), .inl l1, .inl l2, .inl l3, .inl l4, .inl l5, .inl l6, l7, l8] [.inl l2, .inl x1, .inr (.inl x0)] σ Q := w_ld d152_124 rfl
theorem d152_125 : adec m152 125 = some (.invokevirtual 182, 3) := by decide +kernel
theorem s152_125 {l0 : Nat} {l1 : Int} {l2 : Int} {l3 : Int} {l4 : Int} {l5 : Int} {l6 : Int} {l7 : AV} {l8 : AV} {x1 : Int} {x2 : Int} : WP m152 125 [.inr (.inl l0), .inl l1, .inl l2, .inl l3, .inl l4, .inl l5, .inl l6, l7, l8] [.inl x2, .inl x1, .inr (.inl 130)] σ Q = CA m150 [.inr (.inl 130), .inl x1, .inl x2] σ (fun v σ2 => WP m152 128 [.inr (.inl l0), .inl l1, .inl l2, .inl l3, .inl l4, .inl l5, .inl l6, l7, l8] (v ++ []) σ2 Q) := (w_cV (k := 150) d152_125 (by decide +kernel) m150_at rfl rfl ⟨Nat.le_of_ble_eq_true rfl, Nat.le_of_ble_eq_true rfl, Nat.le_of_ble_eq_true rfl⟩ (by decide)).trans (g_and (isO_dec (by decide +kernel)))
theorem d152_128 : adec m152 128 = some (.ifCond .ne (23), 3) := by decide +kernel
theorem s152_128 {l0 : Nat} {l1 : Int} {l2 : Int} {l3 : Int} {l4 : Int} {l5 : Int} {l6 : Int} {l7 : AV} {l8 : AV} {x0 : Int} : WP m152 128 [.inr (.inl l0), .inl l1, .inl l2, .inl l3, .inl l4, .inl l5, .inl l6, l7, l8] [.inl x0] σ Q = (if x0 = 0 then WP m152 131 [.inr (.inl l0), .inl l1, .inl l2, .inl l3, .inl l4, .inl l5, .inl l6, l7, l8] [] σ Q else WP m152 151 [.inr (.inl l0), .inl l1, .inl l2, .inl l3, .inl l4, .inl l5, .inl l6, l7, l8] [] σ Q) := w_ifne d152_128 (by decide)
theorem d152_131 : adec m152 131 = some (.aload_n 0, 1) := by decide +kernel
theorem s152_131 {l0 : Nat} {l1 : Int} {l2 : Int} {l3 : Int} {l4 : Int} {l5 : Int} {l6 : Int} {l7 : AV} {l8 : AV} : WP m152 131 [.inr (.inl l0), .inl l1, .inl l2, .inl l3, .inl l4, .inl l5, .inl l6, l7, l8] [] σ Q = WP m152 132 [.inr (.inl l0), .inl l1, .inl l2, .inl l3, .inl l4, .inl l5, .inl l6, l7, l8] [.inr (.inl l0)] σ Q := w_ld d152_131 rfl
theorem d152_132 : adec m152 132 = some (.getfield 24, 3) := by decide +kernel
theorem s152_132 {l0 : Nat} {l1 : Int} {l2 : Int} {l3 : Int} {l4 : Int} {l5 : Int} {l6 : Int} {l7 : AV} {l8 : AV} : WP m152 132 [.inr (.inl l0), .inl l1, .inl l2, .inl l3, .inl l4, .inl l5, .inl l6, l7, l8] [.inr (.inl 130)] σ Q = WP m152 135 [.inr (.inl l0), .inl l1, .inl l2, .inl l3, .inl l4, .inl l5, .inl l6, l7, l8] [.inr (.inl 134)] σ Q := (w_getR (c := 10) (n := 6) d152_132 (by decide +kernel) (by decide +kernel)).trans (g_and ⟨isO_dec (by decide +kernel), by decide +kernel⟩)
theorem d152_135 : adec m152 135 = some (.iload 6, 2) := by decide +kernel
theorem s152_135 {l0 : Nat} {l1 : Int} {l2 : Int} {l3 : Int} {l4 : Int} {l5 : Int} {l6 : Int} {l7 : AV} {l8 : AV} {x0 : Nat} : WP m152 135 [.inr (.inl l0), .inl l1, .inl l2, .inl l3, .inl l4, .inl l5, .inl l6, l7, l8] [.inr (.inl x0)] σ Q = WP m152 137 [.inr (.inl l0), .inl l1, .inl l2, .inl l3, .inl l4, .inl l5, .inl l6, l7, l8] [.inl l6, .inr (.inl x0)] σ Q := w_ld d152_135 rfl
theorem d152_137 : adec m152 137 = some (.iaload, 1) := by decide +kernel
theorem s152_137 {l0 : Nat} {l1 : Int} {l2 : Int} {l3 : Int} {l4 : Int} {l5 : Int} {l6 : Int} {l7 : AV} {l8 : AV} {x0 : Nat} {x1 : Int} : WP m152 137 [.inr (.inl l0), .inl l1, .inl l2, .inl l3, .inl l4, .inl l5, .inl l6, l7, l8] [.inl x1, .inr (.inl x0)] σ Q = ((kdS x0 = 20 ∧ 0 ≤ x1 ∧ x1 < ln x0) ∧ WP m152 138 [.inr (.inl l0), .inl l1, .inl l2, .inl l3, .inl l4, .inl l5, .inl l6, l7, l8] [.inl (σ x0 x1.toNat)] σ Q) := w_iald d152_137
theorem d152_138 : adec m152 138 = some (.iload_n 2, 1) := by decide +kernel
theorem s152_138 {l0 : Nat} {l1 : Int} {l2 : Int} {l3 : Int} {l4 : Int} {l5 : Int} {l6 : Int} {l7 : AV} {l8 : AV} {x0 : Int} : WP m152 138 [.inr (.inl l0), .inl l1, .inl l2, .inl l3, .inl l4, .inl l5, .inl l6, l7, l8] [.inl x0] σ Q = WP m152 139 [.inr (.inl l0), .inl l1, .inl l2, .inl l3, .inl l4, .inl l5, .inl l6, l7, l8] [.inl l2, .inl x0] σ Q := w_ld d152_138 rfl
theorem d152_139 : adec m152 139 = some (.if_icmp .ne (12), 3) := by decide +kernel
theorem s152_139 {l0 : Nat} {l1 : Int} {l2 : Int} {l3 : Int} {l4 : Int} {l5 : Int} {l6 : Int} {l7 : AV} {l8 : AV} {x0 : Int} {x1 : Int} : WP m152 139 [.inr (.inl l0), .inl l1, .inl l2, .inl l3, .inl l4, .inl l5, .inl l6, l7, l8] [.inl x1, .inl x0] σ Q = (if x0 = x1 then WP m152 142 [.inr (.inl l0), .inl l1, .inl l2, .inl l3, .inl l4, .inl l5, .inl l6, l7, l8] [] σ Q else WP m152 151 [.inr (.inl l0), .inl l1, .inl l2, .inl l3, .inl l4, .inl l5, .inl l6, l7, l8] [] σ Q) := w_icne d152_139 (by decide)
theorem d152_142 : adec m152 142 = some (.aload_n 0, 1) := by decide +kernel
theorem s152_142 {l0 : Nat} {l1 : Int} {l2 : Int} {l3 : Int} {l4 : Int} {l5 : Int} {l6 : Int} {l7 : AV} {l8 : AV} : WP m152 142 [.inr (.inl l0), .inl l1, .inl l2, .inl l3, .inl l4, .inl l5, .inl l6, l7, l8] [] σ Q = WP m152 143 [.inr (.inl l0), .inl l1, .inl l2, .inl l3, .inl l4, .inl l5, .inl l6, l7, l8] [.inr (.inl l0)] σ Q := w_ld d152_142 rfl
theorem d152_143 : adec m152 143 = some (.iload 5, 2) := by decide +kernel
theorem s152_143 {l0 : Nat} {l1 : Int} {l2 : Int} {l3 : Int} {l4 : Int} {l5 : Int} {l6 : Int} {l7 : AV} {l8 : AV} {x0 : Nat} : WP m152 143 [.inr (.inl l0), .inl l1, .inl l2, .inl l3, .inl l4, .inl l5, .inl l6, l7, l8] [.inr (.inl x0)] σ Q = WP m152 145 [.inr (.inl l0), .inl l1, .inl l2, .inl l3, .inl l4, .inl l5, .inl l6, l7, l8] [.inl l5, .inr (.inl x0)] σ Q := w_ld d152_143 rfl
theorem d152_145 : adec m152 145 = some (.invokevirtual 179, 3) := by decide +kernel
theorem s152_145 {l0 : Nat} {l1 : Int} {l2 : Int} {l3 : Int} {l4 : Int} {l5 : Int} {l6 : Int} {l7 : AV} {l8 : AV} {x1 : Int} : WP m152 145 [.inr (.inl l0), .inl l1, .inl l2, .inl l3, .inl l4, .inl l5, .inl l6, l7, l8] [.inl x1, .inr (.inl 130)] σ Q = CA m151 [.inr (.inl 130), .inl x1] σ (fun v σ2 => WP m152 148 [.inr (.inl l0), .inl l1, .inl l2, .inl l3, .inl l4, .inl l5, .inl l6, l7, l8] (v ++ []) σ2 Q) := (w_cV (k := 151) d152_145 (by decide +kernel) m151_at rfl rfl ⟨Nat.le_of_ble_eq_true rfl, Nat.le_of_ble_eq_true rfl, Nat.le_of_ble_eq_true rfl⟩ (by decide)).trans (g_and (isO_dec (by decide +kernel)))
theorem d152_148 : adec m152 148 = some (.goto (97), 3) := by decide +kernel
theorem s152_148 {l0 : Nat} {l1 : Int} {l2 : Int} {l3 : Int} {l4 : Int} {l5 : Int} {l6 : Int} {l7 : AV} {l8 : AV} : WP m152 148 [.inr (.inl l0), .inl l1, .inl l2, .inl l3, .inl l4, .inl l5, .inl l6, l7, l8] [] σ Q = WP m152 245 [.inr (.inl l0), .inl l1, .inl l2, .inl l3, .inl l4, .inl l5, .inl l6, l7, l8] [] σ Q := w_goto d152_148 (by decide)
theorem d152_151 : adec m152 151 = some (.aload_n 0, 1) := by decide +kernel
theorem s152_151 {l0 : Nat} {l1 : Int} {l2 : Int} {l3 : Int} {l4 : Int} {l5 : Int} {l6 : Int} {l7 : AV} {l8 : AV} : WP m152 151 [.inr (.inl l0), .inl l1, .inl l2, .inl l3, .inl l4, .inl l5, .inl l6, l7, l8] [] σ Q = WP m152 152 [.inr (.inl l0), .inl l1, .inl l2, .inl l3, .inl l4, .inl l5, .inl l6, l7, l8] [.inr (.inl l0)] σ Q := w_ld d152_151 rfl
theorem d152_152 : adec m152 152 = some (.iload 5, 2) := by decide +kernel
theorem s152_152 {l0 : Nat} {l1 : Int} {l2 : Int} {l3 : Int} {l4 : Int} {l5 : Int} {l6 : Int} {l7 : AV} {l8 : AV} {x0 : Nat} : WP m152 152 [.inr (.inl l0), .inl l1, .inl l2, .inl l3, .inl l4, .inl l5, .inl l6, l7, l8] [.inr (.inl x0)] σ Q = WP m152 154 [.inr (.inl l0), .inl l1, .inl l2, .inl l3, .inl l4, .inl l5, .inl l6, l7, l8] [.inl l5, .inr (.inl x0)] σ Q := w_ld d152_152 rfl
theorem d152_154 : adec m152 154 = some (.iload_n 2, 1) := by decide +kernel
theorem s152_154 {l0 : Nat} {l1 : Int} {l2 : Int} {l3 : Int} {l4 : Int} {l5 : Int} {l6 : Int} {l7 : AV} {l8 : AV} {x0 : Nat} {x1 : Int} : WP m152 154 [.inr (.inl l0), .inl l1, .inl l2, .inl l3, .inl l4, .inl l5, .inl l6, l7, l8] [.inl x1, .inr (.inl x0)] σ Q = WP m152 155 [.inr (.inl l0), .inl l1, .inl l2, .inl l3, .inl l4, .inl l5, .inl l6, l7, l8] [.inl l2, .inl x1, .inr (.inl x0)] σ Q := w_ld d152_154 rfl
theorem d152_155 : adec m152 155 = some (.invokevirtual 182, 3) := by decide +kernel
theorem s152_155 {l0 : Nat} {l1 : Int} {l2 : Int} {l3 : Int} {l4 : Int} {l5 : Int} {l6 : Int} {l7 : AV} {l8 : AV} {x1 : Int} {x2 : Int} : WP m152 155 [.inr (.inl l0), .inl l1, .inl l2, .inl l3, .inl l4, .inl l5, .inl l6, l7, l8] [.inl x2, .inl x1, .inr (.inl 130)] σ Q = CA m150 [.inr (.inl 130), .inl x1, .inl x2] σ (fun v σ2 => WP m152 158 [.inr (.inl l0), .inl l1, .inl l2, .inl l3, .inl l4, .inl l5, .inl l6, l7, l8] (v ++ []) σ2 Q) := (w_cV (k := 150) d152_155 (by decide +kernel) m150_at rfl rfl ⟨Nat.le_of_ble_eq_true rfl, Nat.le_of_ble_eq_true rfl, Nat.le_of_ble_eq_true rfl⟩ (by decide)).trans (g_and (isO_dec (by decide +kernel)))
theorem d152_158 : adec m152 158 = some (.istore 7, 2) := by decide +kernel
theorem s152_158 {l0 : Nat} {l1 : Int} {l2 : Int} {l3 : Int} {l4 : Int} {l5 : Int} {l6 : Int} {l7 : AV} {l8 : AV} {x0 : Int} : WP m152 158 [.inr (.inl l0), .inl l1, .inl l2, .inl l3, .inl l4, .inl l5, .inl l6, l7, l8] [.inl x0] σ Q = WP m152 160 [.inr (.inl l0), .inl l1, .inl l2, .inl l3, .inl l4, .inl l5, .inl l6, .inl x0, l8] [] σ Q := w_st1 (j := 7) d152_158 rfl (Nat.le_of_ble_eq_true rfl) rfl
theorem d152_160 : adec m152 160 = some (.aload_n 0, 1) := by decide +kernel
theorem s152_160 {l0 : Nat} {l1 : Int} {l2 : Int} {l3 : Int} {l4 : Int} {l5 : Int} {l6 : Int} {l7 : Int} {l8 : AV} : WP m152 160 [.inr (.inl l0), .inl l1, .inl l2, .inl l3, .inl l4, .inl l5, .inl l6, .inl l7, l8] [] σ Q = WP m152 161 [.inr (.inl l0), .inl l1, .inl l2, .inl l3, .inl l4, .inl l5, .inl l6, .inl l7, l8] [.inr (.inl l0)] σ Q := w_ld d152_160 rfl
theorem d152_161 : adec m152 161 = some (.iload 6, 2) := by decide +kernel
theorem s152_161 {l0 : Nat} {l1 : Int} {l2 : Int} {l3 : Int} {l4 : Int} {l5 : Int} {l6 : Int} {l7 : Int} {l8 : AV} {x0 : Nat} : WP m152 161 [.inr (.inl l0), .inl l1, .inl l2, .inl l3, .inl l4, .inl l5, .inl l6, .inl l7, l8] [.inr (.inl x0)] σ Q = WP m152 163 [.inr (.inl l0), .inl l1, .inl l2, .inl l3, .inl l4, .inl l5, .inl l6, .inl l7, l8] [.inl l6, .inr (.inl x0)] σ Q := w_ld d152_161 rfl
theorem d152_163 : adec m152 163 = some (.iload_n 2, 1) := by decide +kernel
theorem s152_163 {l0 : Nat} {l1 : Int} {l2 : Int} {l3 : Int} {l4 : Int} {l5 : Int} {l6 : Int} {l7 : Int} {l8 : AV} {x0 : Nat} {x1 : Int} : WP m152 163 [.inr (.inl l0), .inl l1, .inl l2, .inl l3, .inl l4, .inl l5, .inl l6, .inl l7, l8] [.inl x1, .inr (.inl x0)] σ Q = WP m152 164 [.inr (.inl l0), .inl l1, .inl l2, .inl l3, .inl l4, .inl l5, .inl l6, .inl l7, l8] [.inl l2, .inl x1, .inr (.inl x0)] σ Q := w_ld d152_163 rfl
theorem d152_164 : adec m152 164 = some (.invokevirtual 182, 3) := by decide +kernel
theorem s152_164 {l0 : Nat} {l1 : Int} {l2 : Int} {l3 : Int} {l4 : Int} {l5 : Int} {l6 : Int} {l7 : Int} {l8 : AV} {x1 : Int} {x2 : Int} : WP m152 164 [.inr (.inl l0), .inl l1, .inl l2, .inl l3, .inl l4, .inl l5, .inl l6, .inl l7, l8] [.inl x2, .inl x1, .inr (.inl 130)] σ Q = CA m150 [.inr (.inl 130), .inl x1, .inl x2] σ (fun v σ2 => WP m152 167 [.inr (.inl l0), .inl l1, .inl l2, .inl l3, .inl l4, .inl l5, .inl l6, .inl l7, l8] (v ++ []) σ2 Q) := (w_cV (k := 150) d152_164 (by decide +kernel) m150_at rfl rfl ⟨Nat.le_of_ble_eq_true rfl, Nat.le_of_ble_eq_true rfl, Nat.le_of_ble_eq_true rfl⟩ (by decide)).trans (g_and (isO_dec (by decide +kernel)))
theorem d152_167 : adec m152 167 = some (.istore 8, 2) := by decide +kernel
theorem s152_167 {l0 : Nat} {l1 : Int} {l2 : Int} {l3 : Int} {l4 : Int} {l5 : Int} {l6 : Int} {l7 : Int} {l8 : AV} {x0 : Int} : WP m152 167 [.inr (.inl l0), .inl l1, .inl l2, .inl l3, .inl l4, .inl l5, .inl l6, .inl l7, l8] [.inl x0] σ Q = WP m152 169 [.inr (.inl l0), .inl l1, .inl l2, .inl l3, .inl l4, .inl l5, .inl l6, .inl l7, .inl x0] [] σ Q := w_st1 (j := 8) d152_167 rfl (Nat.le_of_ble_eq_true rfl) rfl
theorem d152_169 : adec m152 169 = some (.aload_n 0, 1) := by decide +kernel
theorem s152_169 {l0 : Nat} {l1 : Int} {l2 : Int} {l3 : Int} {l4 : Int} {l5 : Int} {l6 : Int} {l7 : Int} {l8 : Int} : WP m152 169 [.inr (.inl l0), .inl l1, .inl l2, .inl l3, .inl l4, .inl l5, .inl l6, .inl l7, .inl l8] [] σ Q = WP m152 170 [.inr (.inl l0), .inl l1, .inl l2, .inl l3, .inl l4, .inl l5, .inl l6, .inl l7, .inl l8] [.inr (.inl l0)] σ Q := w_ld d152_169 rfl
theorem d152_170 : adec m152 170 = some (.iconst (0), 1) := by decide +kernel
theorem s152_170 {l0 : Nat} {l1 : Int} {l2 : Int} {l3 : Int} {l4 : Int} {l5 : Int} {l6 : Int} {l7 : Int} {l8 : Int} {x0 : Nat} : WP m152 170 [.inr (.inl l0), .inl l1, .inl l2, .inl l3, .inl l4, .inl l5, .inl l6, .inl l7, .inl l8] [.inr (.inl x0)] σ Q = WP m152 171 [.inr (.inl l0), .inl l1, .inl l2, .inl l3, .inl l4, .inl l5, .inl l6, .inl l7, .inl l8] [.inl (0), .inr (.inl x0)] σ Q := w_iconst d152_170 (by decide)
theorem d152_171 : adec m152 171 = some (.invokevirtual 168, 3) := by decide +kernel
theorem s152_171 {l0 : Nat} {l1 : Int} {l2 : Int} {l3 : Int} {l4 : Int} {l5 : Int} {l6 : Int} {l7 : Int} {l8 : Int} {x1 : Int} : WP m152 171 [.inr (.inl l0), .inl l1, .inl l2, .inl l3, .inl l4, .inl l5, .inl l6, .inl l7, .inl l8] [.inl x1, .inr (.inl 130)] σ Q = CA m134 [.inr (.inl 130), .inl x1] σ (fun v σ2 => WP m152 174 [.inr (.inl l0), .inl l1, .inl l2, .inl l3, .inl l4, .inl l5, .inl l6, .inl l7, .inl l8] (v ++ []) σ2 Q) := (w_cV (k := 134) d152_171 (by decide +kernel) m134_at rfl rfl ⟨Nat.le_of_ble_eq_true rfl, Nat.le_of_ble_eq_true rfl, Nat.le_of_ble_eq_true rfl⟩ (by decide)).trans (g_and (isO_dec (by decide +kernel)))
theorem d152_174 : adec m152 174 = some (.aload_n 0, 1) := by decide +kernel
theorem s152_174 {l0 : Nat} {l1 : Int} {l2 : Int} {l3 : Int} {l4 : Int} {l5 : Int} {l6 : Int} {l7 : Int} {l8 : Int} : WP m152 174 [.inr (.inl l0), .inl l1, .inl l2, .inl l3, .inl l4, .inl l5, .inl l6, .inl l7, .inl l8] [] σ Q = WP m152 175 [.inr (.inl l0), .inl l1, .inl l2, .inl l3, .inl l4, .inl l5, .inl l6, .inl l7, .inl l8] [.inr (.inl l0)] σ Q := w_ld d152_174 rfl
theorem d152_175 : adec m152 175 = some (.iconst (0), 1) := by decide +kernel
theorem s152_175 {l0 : Nat} {l1 : Int} {l2 : Int} {l3 : Int} {l4 : Int} {l5 : Int} {l6 : Int} {l7 : Int} {l8 : Int} {x0 : Nat} : WP m152 175 [.inr (.inl l0), .inl l1, .inl l2, .inl l3, .inl l4, .inl l5, .inl l6, .inl l7, .inl l8] [.inr (.inl x0)] σ Q = WP m152 176 [.inr (.inl l0), .inl l1, .inl l2, .inl l3, .inl l4, .inl l5, .inl l6, .inl l7, .inl l8] [.inl (0), .inr (.inl x0)] σ Q := w_iconst d152_175 (by decide)
theorem d152_176 : adec m152 176 = some (.invokevirtual 168, 3) := by decide +kernel
theorem s152_176 {l0 : Nat} {l1 : Int} {l2 : Int} {l3 : Int} {l4 : Int} {l5 : Int} {l6 : Int} {l7 : Int} {l8 : Int} {x1 : Int} : WP m152 176 [.inr (.inl l0), .inl l1, .inl l2, .inl l3, .inl l4, .inl l5, .inl l6, .inl l7, .inl l8] [.inl x1, .inr (.inl 130)] σ Q = CA m134 [.inr (.inl 130), .inl x1] σ (fun v σ2 => WP m152 179 [.inr (.inl l0), .inl l1, .inl l2, .inl l3, .inl l4, .inl l5, .inl l6, .inl l7, .inl l8] (v ++ []) σ2 Q) := (w_cV (k := 134) d152_176 (by decide +kernel) m134_at rfl rfl ⟨Nat.le_of_ble_eq_true rfl, Nat.le_of_ble_eq_true rfl, Nat.le_of_ble_eq_true rfl⟩ (by decide)).trans (g_and (isO_dec (by decide +kernel)))
theorem d152_179 : adec m152 179 = some (.aload_n 0, 1) := by decide +kernel
theorem s152_179 {l0 : Nat} {l1 : Int} {l2 : Int} {l3 : Int} {l4 : Int} {l5 : Int} {l6 : Int} {l7 : Int} {l8 : Int} : WP m152 179 [.inr (.inl l0), .inl l1, .inl l2, .inl l3, .inl l4, .inl l5, .inl l6, .inl l7, .inl l8] [] σ Q = WP m152 180 [.inr (.inl l0), .inl l1, .inl l2, .inl l3, .inl l4, .inl l5, .inl l6, .inl l7, .inl l8] [.inr (.inl l0)] σ Q := w_ld d152_179 rfl
theorem d152_180 : adec m152 180 = some (.iload 7, 2) := by decide +kernel
theorem s152_180 {l0 : Nat} {l1 : Int} {l2 : Int} {l3 : Int} {l4 : Int} {l5 : Int} {l6 : Int} {l7 : Int} {l8 : Int} {x0 : Nat} : WP m152 180 [.inr (.inl l0), .inl l1, .inl l2, .inl l3, .inl l4, .inl l5, .inl l6, .inl l7, .inl l8] [.inr (.inl x0)] σ Q = WP m152 182 [.inr (.inl l0), .inl l1, .inl l2, .inl l3, .inl l4, .inl l5, .inl l6, .inl l7, .inl l8] [.inl l7, .inr (.inl x0)] σ Q := w_ld d152_180 rfl
theorem d152_182 : adec m152 182 = some (.ifCond .eq (12), 3) := by decide +kernel
theorem s152_182 {l0 : Nat} {l1 : Int} {l2 : Int} {l3 : Int} {l4 : Int} {l5 : Int} {l6 : Int} {l7 : Int} {l8 : Int} {x0 : Nat} {x1 : Int} : WP m152 182 [.inr (.inl l0), .inl l1, .inl l2, .inl l3, .inl l4, .inl l5, .inl l6, .inl l7, .inl l8] [.inl x1, .inr (.inl x0)] σ Q = (if x1 = 0 then WP m152 194 [.inr (.inl l0), .inl l1, .inl l2, .inl l3, .inl l4, .inl l5, .inl l6, .inl l7, .inl l8] [.inr (.inl x0)] σ Q else WP m152 185 [.inr (.inl l0), .inl l1, .inl l2, .inl l3, .inl l4, .inl l5, .inl l6, .inl l7, .inl l8] [.inr (.inl x0)] σ Q) := w_ifeq d152_182 (by decide)
theorem d152_185 : adec m152 185 = some (.iload 8, 2) := by decide +kernel
theorem s152_185 {l0 : Nat} {l1 : Int} {l2 : Int} {l3 : Int} {l4 : Int} {l5 : Int} {l6 : Int} {l7 : Int} {l8 : Int} {x0 : Nat} : WP m152 185 [.inr (.inl l0), .inl l1, .inl l2, .inl l3, .inl l4, .inl l5, .inl l6, .inl l7, .inl l8] [.inr (.inl x0)] σ Q = WP m152 187 [.inr (.inl l0), .inl l1, .inl l2, .inl l3, .inl l4, .inl l5, .inl l6, .inl l7, .inl l8] [.inl l8, .inr (.inl x0)] σ Q := w_ld d152_185 rfl
theorem d152_187 : adec m152 187 = some (.ifCond .eq (7), 3) := by decide +kernel
theorem s152_187 {l0 : Nat} {l1 : Int} {l2 : Int} {l3 : Int} {l4 : Int} {l5 : Int} {l6 : Int} {l7 : Int} {l8 : Int} {x0 : Nat} {x1 : Int} : WP m152 187 [.inr (.inl l0), .inl l1, .inl l2, .inl l3, .inl l4, .inl l5, .inl l6, .inl l7, .inl l8] [.inl x1, .inr (.inl x0)] σ Q = (if x1 = 0 then WP m152 194 [.inr (.inl l0), .inl l1, .inl l2, .inl l3, .inl l4, .inl l5, .inl l6, .inl l7, .inl l8] [.inr (.inl x0)] σ Q else WP m152 190 [.inr (.inl l0), .inl l1, .inl l2, .inl l3, .inl l4, .inl l5, .inl l6, .inl l7, .inl l8] [.inr (.inl x0)] σ Q) := w_ifeq d152_187 (by decide)
theorem d152_190 : adec m152 190 = some (.iconst (3), 1) := by decide +kernel
theorem s152_190 {l0 : Nat} {l1 : Int} {l2 : Int} {l3 : Int} {l4 : Int} {l5 : Int} {l6 : Int} {l7 : Int} {l8 : Int} {x0 : Nat} : WP m152 190 [.inr (.inl l0), .inl l1, .inl l2, .inl l3, .inl l4, .inl l5, .inl l6, .inl l7, .inl l8] [.inr (.inl x0)] σ Q = WP m152 191 [.inr (.inl l0), .inl l1, .inl l2, .inl l3, .inl l4, .inl l5, .inl l6, .inl l7, .inl l8] [.inl (3), .inr (.inl x0)] σ Q := w_iconst d152_190 (by decide)
theorem d152_191 : adec m152 191 = some (.goto (13), 3) := by decide +kernel
theorem s152_191 {l0 : Nat} {l1 : Int} {l2 : Int} {l3 : Int} {l4 : Int} {l5 : Int} {l6 : Int} {l7 : Int} {l8 : Int} {x0 : Nat} {x1 : Int} : WP m152 191 [.inr (.inl l0), .inl l1, .inl l2, .inl l3, .inl l4, .inl l5, .inl l6, .inl l7, .inl l8] [.inl x1, .inr (.inl x0)] σ Q = WP m152 204 [.inr (.inl l0), .inl l1, .inl l2, .inl l3, .inl l4, .inl l5, .inl l6, .inl l7, .inl l8] [.inl x1, .inr (.inl x0)] σ Q := w_goto d152_191 (by decide)
theorem d152_194 : adec m152 194 = some (.iload 7, 2) := by decide +kernel
theorem s152_194 {l0 : Nat} {l1 : Int} {l2 : Int} {l3 : Int} {l4 : Int} {l5 : Int} {l6 : Int} {l7 : Int} {l8 : Int} {x0 : Nat} : WP m152 194 [.inr (.inl l0), .inl l1, .inl l2, .inl l3, .inl l4, .inl l5, .inl l6, .inl l7, .inl l8] [.inr (.inl x0)] σ Q = WP m152 196 [.inr (.inl l0), .inl l1, .inl l2, .inl l3, .inl l4, .inl l5, .inl l6, .inl l7, .inl l8] [.inl l7, .inr (.inl x0)] σ Q := w_ld d152_194 rfl
theorem d152_196 : adec m152 196 = some (.ifCond .eq (7), 3) := by decide +kernel
theorem s152_196 {l0 : Nat} {l1 : Int} {l2 : Int} {l3 : Int} {l4 : Int} {l5 : Int} {l6 : Int} {l7 : Int} {l8 : Int} {x0 : Nat} {x1 : Int} : WP m152 196 [.inr (.inl l0), .inl l1, .inl l2, .inl l3, .inl l4, .inl l5, .inl l6, .inl l7, .inl l8] [.inl x1, .inr (.inl x0)] σ Q = (if x1 = 0 then WP m152 203 [.inr (.inl l0), .inl l1, .inl l2, .inl l3, .inl l4, .inl l5, .inl l6, .inl l7, .inl l8] [.inr (.inl x0)] σ Q else WP m152 199 [.inr (.inl l0), .inl l1, .inl l2, .inl l3, .inl l4, .inl l5, .inl l6, .inl l7, .inl l8] [.inr (.inl x0)] σ Q) := w_ifeq d152_196 (by decide)
theorem d152_199 : adec m152 199 = some (.iconst (5), 1) := by decide +kernel
theorem s152_199 {l0 : Nat} {l1 : Int} {l2 : Int} {l3 : Int} {l4 : Int} {l5 : Int} {l6 : Int} {l7 : Int} {l8 : Int} {x0 : Nat} : WP m152 199 [.inr (.inl l0), .inl l1, .inl l2, .inl l3, .inl l4, .inl l5, .inl l6, .inl l7, .inl l8] [.inr (.inl x0)] σ Q = WP m152 200 [.inr (.inl l0), .inl l1, .inl l2, .inl l3, .inl l4, .inl l5, .inl l6, .inl l7, .inl l8] [.inl (5), .inr (.inl x0)] σ Q := w_iconst d152_199 (by decide)
theorem d152_200 : adec m152 200 = some (.goto (4), 3) := by decide +kernel
theorem s152_200 {l0 : Nat} {l1 : Int} {l2 : Int} {l3 : Int} {l4 : Int} {l5 : Int} {l6 : Int} {l7 : Int} {l8 : Int} {x0 : Nat} {x1 : Int} : WP m152 200 [.inr (.inl l0), .inl l1, .inl l2, .inl l3, .inl l4, .inl l5, .inl l6, .inl l7, .inl l8] [.inl x1, .inr (.inl x0)] σ Q = WP m152 204 [.inr (.inl l0), .inl l1, .inl l2, .inl l3, .inl l4, .inl l5, .inl l6, .inl l7, .inl l8] [.inl x1, .inr (.inl x0)] σ Q := w_goto d152_200 (by decide)
theorem d152_203 : adec m152 203 = some (.iconst (4), 1) := by decide +kernel
theorem s152_203 {l0 : Nat} {l1 : Int} {l2 : Int} {l3 : Int} {l4 : Int} {l5 : Int} {l6 : Int} {l7 : Int} {l8 : Int} {x0 : Nat} : WP m152 203 [.inr (.inl l0), .inl l1, .inl l2, .inl l3, .inl l4, .inl l5, .inl l6, .inl l7, .inl l8] [.inr (.inl x0)] σ Q = WP m152 204 [.inr (.inl l0), .inl l1, .inl l2, .inl l3, .inl l4, .inl l5, .inl l6, .inl l7, .inl l8] [.inl (4), .inr (.inl x0)] σ Q := w_iconst d152_203 (by decide)
theorem d152_204 : adec m152 204 = some (.invokevirtual 168, 3) := by decide +kernel
theorem s152_204 {l0 : Nat} {l1 : Int} {l2 : Int} {l3 : Int} {l4 : Int} {l5 : Int} {l6 : Int} {l7 : Int} {l8 : Int} {x1 : Int} : WP m152 204 [.inr (.inl l0), .inl l1, .inl l2, .inl l3, .inl l4, .inl l5, .inl l6, .inl l7, .inl l8] [.inl x1, .inr (.inl 130)] σ Q = CA m134 [.inr (.inl 130), .inl x1] σ (fun v σ2 => WP m152 207 [.inr (.inl l0), .inl l1, .inl l2, .inl l3, .inl l4, .inl l5, .inl l6, .inl l7, .inl l8] (v ++ []) σ2 Q) := (w_cV (k := 134) d152_204 (by decide +kernel) m134_at rfl rfl ⟨Nat.le_of_ble_eq_true rfl, Nat.le_of_ble_eq_true rfl, Nat.le_of_ble_eq_true rfl⟩ (by decide)).trans (g_and (isO_dec (by decide +kernel)))
theorem d152_207 : adec m152 207 = some (.aload_n 0, 1) := by decide +kernel
theorem s152_207 {l0 : Nat} {l1 : Int} {l2 : Int} {l3 : Int} {l4 : Int} {l5 : Int} {l6 : Int} {l7 : Int} {l8 : Int} : WP m152 207 [.inr (.inl l0), .inl l1, .inl l2, .inl l3, .inl l4, .inl l5, .inl l6, .inl l7, .inl l8] [] σ Q = WP m152 208 [.inr (.inl l0), .inl l1, .inl l2, .inl l3, .inl l4, .inl l5, .inl l6, .inl l7, .inl l8] [.inr (.inl l0)] σ Q := w_ld d152_207 rfl
theorem d152_208 : adec m152 208 = some (.iconst (2), 1) := by decide +kernel
theorem s152_208 {l0 : Nat} {l1 : Int} {l2 : Int} {l3 : Int} {l4 : Int} {l5 : Int} {l6 : Int} {l7 : Int} {l8 : Int} {x0 : Nat} : WP m152 208 [.inr (.inl l0), .inl l1, .inl l2, .inl l3, .inl l4, .inl l5, .inl l6, .inl l7, .inl l8] [.inr (.inl x0)] σ Q = WP m152 209 [.inr (.inl l0), .inl l1, .inl l2, .inl l3, .inl l4, .inl l5, .inl l6, .inl l7, .inl l8] [.inl (2), .inr (.inl x0)] σ Q := w_iconst d152_208 (by decide)
theorem d152_209 : adec m152 209 = some (.iload 6, 2) := by decide +kernel
theorem s152_209 {l0 : Nat} {l1 : Int} {l2 : Int} {l3 : Int} {l4 : Int} {l5 : Int} {l6 : Int} {l7 : Int} {l8 : Int} {x0 : Nat} {x1 : Int} : WP m152 209 [.inr (.inl l0), .inl l1, .inl l2, .inl l3, .inl l4, .inl l5, .inl l6, .inl l7, .inl l8] [.inl x1, .inr (.inl x0)] σ Q = WP m152 211 [.inr (.inl l0), .inl l1, .inl l2, .inl l3, .inl l4, .inl l5, .inl l6, .inl l7, .inl l8] [.inl l6, .inl x1, .inr (.inl x0)] σ Q := w_ld d152_209 rfl
theorem d152_211 : adec m152 211 = some (.imul, 1) := by decide +kernel
theorem s152_211 {l0 : Nat} {l1 : Int} {l2 : Int} {l3 : Int} {l4 : Int} {l5 : Int} {l6 : Int} {l7 : Int} {l8 : Int} {x0 : Nat} {x1 : Int} {x2 : Int} : WP m152 211 [.inr (.inl l0), .inl l1, .inl l2, .inl l3, .inl l4, .inl l5, .inl l6, .inl l7, .inl l8] [.inl x2, .inl x1, .inr (.inl x0)] σ Q = (inI (x1 * x2) ∧ WP m152 212 [.inr (.inl l0), .inl l1, .inl l2, .inl l3, .inl l4, .inl l5, .inl l6, .inl l7, .inl l8] [.inl (x1 * x2), .inr (.inl x0)] σ Q) := w_imul d152_211
theorem d152_212 : adec m152 212 = some (.iload 8, 2) := by decide +kernel
theorem s152_212 {l0 : Nat} {l1 : Int} {l2 : Int} {l3 : Int} {l4 : Int} {l5 : Int} {l6 : Int} {l7 : Int} {l8 : Int} {x0 : Nat} {x1 : Int} : WP m152 212 [.inr (.inl l0), .inl l1, .inl l2, .inl l3, .inl l4, .inl l5, .inl l6, .inl l7, .inl l8] [.inl x1, .inr (.inl x0)] σ Q = WP m152 214 [.inr (.inl l0), .inl l1, .inl l2, .inl l3, .inl l4, .inl l5, .inl l6, .inl l7, .inl l8] [.inl l8, .inl x1, .inr (.inl x0)] σ Q := w_ld d152_212 rfl
theorem d152_214 : adec m152 214 = some (.ifCond .eq (7), 3) := by decide +kernel
theorem s152_214 {l0 : Nat} {l1 : Int} {l2 : Int} {l3 : Int} {l4 : Int} {l5 : Int} {l6 : Int} {l7 : Int} {l8 : Int} {x0 : Nat} {x1 : Int} {x2 : Int} : WP m152 214 [.inr (.inl l0), .inl l1, .inl l2, .inl l3, .inl l4, .inl l5, .inl l6, .inl l7, .inl l8] [.inl x2, .inl x1, .inr (.inl x0)] σ Q = (if x2 = 0 then WP m152 221 [.inr (.inl l0), .inl l1, .inl l2, .inl l3, .inl l4, .inl l5, .inl l6, .inl l7, .inl l8] [.inl x1, .inr (.inl x0)] σ Q else WP m152 217 [.inr (.inl l0), .inl l1, .inl l2, .inl l3, .inl l4, .inl l5, .inl l6, .inl l7, .inl l8] [.inl x1, .inr (.inl x0)] σ Q) := w_ifeq d152_214 (by decide)
theorem d152_217 : adec m152 217 = some (.iconst (0), 1) := by decide +kernel
theorem s152_217 {l0 : Nat} {l1 : Int} {l2 : Int} {l3 : Int} {l4 : Int} {l5 : Int} {l6 : Int} {l7 : Int} {l8 : Int} {x0 : Nat} {x1 : Int} : WP m152 217 [.inr (.inl l0), .inl l1, .inl l2, .inl l3, .inl l4, .inl l5, .inl l6, .inl l7, .inl l8] [.inl x1, .inr (.inl x0)] σ Q = WP m152 218 [.inr (.inl l0), .inl l1, .inl l2, .inl l3, .inl l4, .inl l5, .inl l6, .inl l7, .inl l8] [.inl (0), .inl x1, .inr (.inl x0)] σ Q := w_iconst d152_217 (by decide)
theorem d152_218 : adec m152 218 = some (.goto (4), 3) := by decide +kernel
theorem s152_218 {l0 : Nat} {l1 : Int} {l2 : Int} {l3 : Int} {l4 : Int} {l5 : Int} {l6 : Int} {l7 : Int} {l8 : Int} {x0 : Nat} {x1 : Int} {x2 : Int} : WP m152 218 [.inr (.inl l0), .inl l1, .inl l2, .inl l3, .inl l4, .inl l5, .inl l6, .inl l7, .inl l8] [.inl x2, .inl x1, .inr (.inl x0)] σ Q = WP m152 222 [.inr (.inl l0), .inl l1, .inl l2, .inl l3, .inl l4, .inl l5, .inl l6, .inl l7, .inl l8] [.inl x2, .inl x1, .inr (.inl x0)] σ Q := w_goto d152_218 (by decide)
theorem d152_221 : adec m152 221 = some (.iconst (1), 1) := by decide +kernel
theorem s152_221 {l0 : Nat} {l1 : Int} {l2 : Int} {l3 : Int} {l4 : Int} {l5 : Int} {l6 : Int} {l7 : Int} {l8 : Int} {x0 : Nat} {x1 : Int} : WP m152 221 [.inr (.inl l0), .inl l1, .inl l2, .inl l3, .inl l4, .inl l5, .inl l6, .inl l7, .inl l8] [.inl x1, .inr (.inl x0)] σ Q = WP m152 222 [.inr (.inl l0), .inl l1, .inl l2, .inl l3, .inl l4, .inl l5, .inl l6, .inl l7, .inl l8] [.inl (1), .inl x1, .inr (.inl x0)] σ Q := w_iconst d152_221 (by decide)
theorem d152_222 : adec m152 222 = some (.iadd, 1) := by decide +kernel
theorem s152_222 {l0 : Nat} {l1 : Int} {l2 : Int} {l3 : Int} {l4 : Int} {l5 : Int} {l6 : Int} {l7 : Int} {l8 : Int} {x0 : Nat} {x1 : Int} {x2 : Int} : WP m152 222 [.inr (.inl l0), .inl l1, .inl l2, .inl l3, .inl l4, .inl l5, .inl l6, .inl l7, .inl l8] [.inl x2, .inl x1, .inr (.inl x0)] σ Q = (inI (x1 + x2) ∧ WP m152 223 [.inr (.inl l0), .inl l1, .inl l2, .inl l3, .inl l4, .inl l5, .inl l6, .inl l7, .inl l8] [.inl (x1 + x2), .inr (.inl x0)] σ Q) := w_iadd d152_222
theorem d152_223 : adec m152 223 = some (.invokevirtual 172, 3) := by decide +kernel
theorem s152_223 {l0 : Nat} {l1 : Int} {l2 : Int} {l3 : Int} {l4 : Int} {l5 : Int} {l6 : Int} {l7 : Int} {l8 : Int} {x1 : Int} : WP m152 223 [.inr (.inl l0), .inl l1, .inl l2, .inl l3, .inl l4, .inl l5, .inl l6, .inl l7, .inl l8] [.inl x1, .inr (.inl 130)] σ Q = CA m132 [.inr (.inl 130), .inl x1] σ (fun v σ2 => WP m152 226 [.inr (.inl l0), .inl l1, .inl l2, .inl l3, .inl l4, .inl l5, .inl l6, .inl l7, .inl l8] (v ++ []) σ2 Q) := (w_cV (k := 132) d152_223 (by decide +kernel) m132_at rfl rfl ⟨Nat.le_of_ble_eq_true rfl, Nat.le_of_ble_eq_true rfl, Nat.le_of_ble_eq_true rfl⟩ (by decide)).trans (g_and (isO_dec (by decide +kernel)))
theorem d152_226 : adec m152 226 = some (.aload_n 0, 1) := by decide +kernel
theorem s152_226 {l0 : Nat} {l1 : Int} {l2 : Int} {l3 : Int} {l4 : Int} {l5 : Int} {l6 : Int} {l7 : Int} {l8 : Int} : WP m152 226 [.inr (.inl l0), .inl l1, .inl l2, .inl l3, .inl l4, .inl l5, .inl l6, .inl l7, .inl l8] [] σ Q = WP m152 227 [.inr (.inl l0), .inl l1, .inl l2, .inl l3, .inl l4, .inl l5, .inl l6, .inl l7, .inl l8] [.inr (.inl l0)] σ Q := w_ld d152_226 rfl
theorem d152_227 : adec m152 227 = some (.iconst (2), 1) := by decide +kernel
theorem s152_227 {l0 : Nat} {l1 : Int} {l2 : Int} {l3 : Int} {l4 : Int} {l5 : Int} {l6 : Int} {l7 : Int} {l8 : Int} {x0 : Nat} : WP m152 227 [.inr (.inl l0), .inl l1, .inl l2, .inl l3, .inl l4, .inl l5, .inl l6, .inl l7, .inl l8] [.inr (.inl x0)] σ Q = WP m152 228 [.inr (.inl l0), .inl l1, .inl l2, .inl l3, .inl l4, .inl l5, .inl l6, .inl l7, .inl l8] [.inl (2), .inr (.inl x0)] σ Q := w_iconst d152_227 (by decide)
theorem d152_228 : adec m152 228 = some (.iload 5, 2) := by decide +kernel
theorem s152_228 {l0 : Nat} {l1 : Int} {l2 : Int} {l3 : Int} {l4 : Int} {l5 : Int} {l6 : Int} {l7 : Int} {l8 : Int} {x0 : Nat} {x1 : Int} : WP m152 228 [.inr (.inl l0), .inl l1, .inl l2, .inl l3, .inl l4, .inl l5, .inl l6, .inl l7, .inl l8] [.inl x1, .inr (.inl x0)] σ Q = WP m152 230 [.inr (.inl l0), .inl l1, .inl l2, .inl l3, .inl l4, .inl l5, .inl l6, .inl l7, .inl l8] [.inl l5, .inl x1, .inr (.inl x0)] σ Q := w_ld d152_228 rfl
theorem d152_230 : adec m152 230 = some (.imul, 1) := by decide +kernel
theorem s152_230 {l0 : Nat} {l1 : Int} {l2 : Int} {l3 : Int} {l4 : Int} {l5 : Int} {l6 : Int} {l7 : Int} {l8 : Int} {x0 : Nat} {x1 : Int} {x2 : Int} : WP m152 230 [.inr (.inl l0), .inl l1, .inl l2, .inl l3, .inl l4, .inl l5, .inl l6, .inl l7, .inl l8] [.inl x2, .inl x1, .inr (.inl x0)] σ Q = (inI (x1 * x2) ∧ WP m152 231 [.inr (.inl l0), .inl l1, .inl l2, .inl l3, .inl l4, .inl l5, .inl l6, .inl l7, .inl l8] [.inl (x1 * x2), .inr (.inl x0)] σ Q) := w_imul d152_230
theorem d152_231 : adec m152 231 = some (.iload 7, 2) := by decide +kernel
theorem s152_231 {l0 : Nat} {l1 : Int} {l2 : Int} {l3 : Int} {l4 : Int} {l5 : Int} {l6 : Int} {l7 : Int} {l8 : Int} {x0 : Nat} {x1 : Int} : WP m152 231 [.inr (.inl l0), .inl l1, .inl l2, .inl l3, .inl l4, .inl l5, .inl l6, .inl l7, .inl l8] [.inl x1, .inr (.inl x0)] σ Q = WP m152 233 [.inr (.inl l0), .inl l1, .inl l2, .inl l3, .inl l4, .inl l5, .inl l6, .inl l7, .inl l8] [.inl l7, .inl x1, .inr (.inl x0)] σ Q := w_ld d152_231 rfl
theorem d152_233 : adec m152 233 = some (.ifCond .eq (7), 3) := by decide +kernel
theorem s152_233 {l0 : Nat} {l1 : Int} {l2 : Int} {l3 : Int} {l4 : Int} {l5 : Int} {l6 : Int} {l7 : Int} {l8 : Int} {x0 : Nat} {x1 : Int} {x2 : Int} : WP m152 233 [.inr (.inl l0), .inl l1, .inl l2, .inl l3, .inl l4, .inl l5, .inl l6, .inl l7, .inl l8] [.inl x2, .inl x1, .inr (.inl x0)] σ Q = (if x2 = 0 then WP m152 240 [.inr (.inl l0), .inl l1, .inl l2, .inl l3, .inl l4, .inl l5, .inl l6, .inl l7, .inl l8] [.inl x1, .inr (.inl x0)] σ Q else WP m152 236 [.inr (.inl l0), .inl l1, .inl l2, .inl l3, .inl l4, .inl l5, .inl l6, .inl l7, .inl l8] [.inl x1, .inr (.inl x0)] σ Q) := w_ifeq d152_233 (by decide)
theorem d152_236 : adec m152 236 = some (.iconst (0), 1) := by decide +kernel
theorem s152_236 {l0 : Nat} {l1 : Int} {l2 : Int} {l3 : Int} {l4 : Int} {l5 : Int} {l6 : Int} {l7 : Int} {l8 : Int} {x0 : Nat} {x1 : Int} : WP m152 236 [.inr (.inl l0), .inl l1, .inl l2, .inl l3, .inl l4, .inl l5, .inl l6, .inl l7, .inl l8] [.inl x1, .inr (.inl x0)] σ Q = WP m152 237 [.inr (.inl l0), .inl l1, .inl l2, .inl l3, .inl l4, .inl l5, .inl l6, .inl l7, .inl l8] [.inl (0), .inl x1, .inr (.inl x0)] σ Q := w_iconst d152_236 (by decide)
theorem d152_237 : adec m152 237 = some (.goto (4), 3) := by decide +kernel
theorem s152_237 {l0 : Nat} {l1 : Int} {l2 : Int} {l3 : Int} {l4 : Int} {l5 : Int} {l6 : Int} {l7 : Int} {l8 : Int} {x0 : Nat} {x1 : Int} {x2 : Int} : WP m152 237 [.inr (.inl l0), .inl l1, .inl l2, .inl l3, .inl l4, .inl l5, .inl l6, .inl l7, .inl l8] [.inl x2, .inl x1, .inr (.inl x0)] σ Q = WP m152 241 [.inr (.inl l0), .inl l1, .inl l2, .inl l3, .inl l4, .inl l5, .inl l6, .inl l7, .inl l8] [.inl x2, .inl x1, .inr (.inl x0)] σ Q := w_goto d152_237 (by decide)
theorem d152_240 : adec m152 240 = some (.iconst (1), 1) := by decide +kernel
theorem s152_240 {l0 : Nat} {l1 : Int} {l2 : Int} {l3 : Int} {l4 : Int} {l5 : Int} {l6 : Int} {l7 : Int} {l8 : Int} {x0 : Nat} {x1 : Int} : WP m152 240 [.inr (.inl l0), .inl l1, .inl l2, .inl l3, .inl l4, .inl l5, .inl l6, .inl l7, .inl l8] [.inl x1, .inr (.inl x0)] σ Q = WP m152 241 [.inr (.inl l0), .inl l1, .inl l2, .inl l3, .inl l4, .inl l5, .inl l6, .inl l7, .inl l8] [.inl (1), .inl x1, .inr (.inl x0)] σ Q := w_iconst d152_240 (by decide)
theorem d152_241 : adec m152 241 = some (.iadd, 1) := by decide +kernel
theorem s152_241 {l0 : Nat} {l1 : Int} {l2 : Int} {l3 : Int} {l4 : Int} {l5 : Int} {l6 : Int} {l7 : Int} {l8 : Int} {x0 : Nat} {x1 : Int} {x2 : Int} : WP m152 241 [.inr (.inl l0), .inl l1, .inl l2, .inl l3, .inl l4, .inl l5, .inl l6, .inl l7, .inl l8] [.inl x2, .inl x1, .inr (.inl x0)] σ Q = (inI (x1 + x2) ∧ WP m152 242 [.inr (.inl l0), .inl l1, .inl l2, .inl l3, .inl l4, .inl l5, .inl l6, .inl l7, .inl l8] [.inl (x1 + x2), .inr (.inl x0)] σ Q) := w_iadd d152_241
theorem d152_242 : adec m152 242 = some (.invokevirtual 172, 3) := by decide +kernel
theorem s152_242 {l0 : Nat} {l1 : Int} {l2 : Int} {l3 : Int} {l4 : Int} {l5 : Int} {l6 : Int} {l7 : Int} {l8 : Int} {x1 : Int} : WP m152 242 [.inr (.inl l0), .inl l1, .inl l2, .inl l3, .inl l4, .inl l5, .inl l6, .inl l7, .inl l8] [.inl x1, .inr (.inl 130)] σ Q = CA m132 [.inr (.inl 130), .inl x1] σ (fun v σ2 => WP m152 245 [.inr (.inl l0), .inl l1, .inl l2, .inl l3, .inl l4, .inl l5, .inl l6, .inl l7, .inl l8] (v ++ []) σ2 Q) := (w_cV (k := 132) d152_242 (by decide +kernel) m132_at rfl rfl ⟨Nat.le_of_ble_eq_true rfl, Nat.le_of_ble_eq_true rfl, Nat.le_of_ble_eq_true rfl⟩ (by decide)).trans (g_and (isO_dec (by decide +kernel)))
theorem d152_245 : adec m152 245 = some (.goto (-233), 3) := by decide +kernel
theorem s152_245 {l0 : Nat} {l1 : Int} {l2 : Int} {l3 : Int} {l4 : Int} {l5 : Int} {l6 : Int} {l7 : AV} {l8 : AV} : WP m152 245 [.inr (.inl l0), .inl l1, .inl l2, .inl l3, .inl l4, .inl l5, .inl l6, l7, l8] [] σ Q = WP m152 12 [.inr (.inl l0), .inl l1, .inl l2, .inl l3, .inl l4, .inl l5, .inl l6, l7, l8] [] σ Q := w_goto d152_245 (by decide)
theorem d152_248 : adec m152 248 = some (.return_, 1) := by decide +kernel
theorem s152_248 {l0 : Nat} {l1 : Int} {l2 : Int} {l3 : AV} {l4 : AV} {l5 : AV} {l6 : AV} {l7 : AV} {l8 : AV} : WP m152 248 [.inr (.inl l0), .inl l1, .inl l2, l3, l4, l5, l6, l7, l8] [] σ Q = Q [] σ := w_rv d152_248 rfl
theorem e152 {p0 : Nat} {p1 : Int} {p2 : Int} : CA m152 [.inr (.inl p0), .inl p1, .inl p2] σ Q = WP m152 0 [.inr (.inl p0), .inl p1, .inl p2, vU, vU, vU, vU, vU, vU] [] σ Q := rfl
-- BinderPressModel.lastBinder()I
theorem d153_0 : adec m153 0 = some (.aload_n 0, 1) := by decide +kernel
theorem s153_0 {l0 : Nat} {l1 : AV} : WP m153 0 [.inr (.inl l0), l1] [] σ Q = WP m153 1 [.inr (.inl l0), l1] [.inr (.inl l0)] σ Q := w_ld d153_0 rfl
theorem d153_1 : adec m153 1 = some (.getfield 104, 3) := by decide +kernel
theorem s153_1 {l0 : Nat} {l1 : AV} : WP m153 1 [.inr (.inl l0), l1] [.inr (.inl 130)] σ Q = WP m153 4 [.inr (.inl l0), l1] [.inl (σ 130 7)] σ Q := (w_getI (c := 10) (n := 7) d153_1 (by decide +kernel) (by decide +kernel)).trans (g_and (isO_dec (by decide +kernel)))
theorem d153_4 : adec m153 4 = some (.iconst (1), 1) := by decide +kernel
theorem s153_4 {l0 : Nat} {l1 : AV} {x0 : Int} : WP m153 4 [.inr (.inl l0), l1] [.inl x0] σ Q = WP m153 5 [.inr (.inl l0), l1] [.inl (1), .inl x0] σ Q := w_iconst d153_4 (by decide)
theorem d153_5 : adec m153 5 = some (.isub, 1) := by decide +kernel
theorem s153_5 {l0 : Nat} {l1 : AV} {x0 : Int} {x1 : Int} : WP m153 5 [.inr (.inl l0), l1] [.inl x1, .inl x0] σ Q = (inI (x0 - x1) ∧ WP m153 6 [.inr (.inl l0), l1] [.inl (x0 - x1)] σ Q) := w_isub d153_5
theorem d153_6 : adec m153 6 = some (.istore_n 1, 1) := by decide +kernel
theorem s153_6 {l0 : Nat} {l1 : AV} {x0 : Int} : WP m153 6 [.inr (.inl l0), l1] [.inl x0] σ Q = WP m153 7 [.inr (.inl l0), .inl x0] [] σ Q := w_st1 (j := 1) d153_6 rfl (Nat.le_of_ble_eq_true rfl) rfl
theorem d153_7 : adec m153 7 = some (.iload_n 1, 1) := by decide +kernel
theorem s153_7 {l0 : Nat} {l1 : Int} : WP m153 7 [.inr (.inl l0), .inl l1] [] σ Q = WP m153 8 [.inr (.inl l0), .inl l1] [.inl l1] σ Q := w_ld d153_7 rfl
theorem d153_8 : adec m153 8 = some (.ifCond .lt (21), 3) := by decide +kernel
theorem s153_8 {l0 : Nat} {l1 : Int} {x0 : Int} : WP m153 8 [.inr (.inl l0), .inl l1] [.inl x0] σ Q = (if x0 < 0 then WP m153 29 [.inr (.inl l0), .inl l1] [] σ Q else WP m153 11 [.inr (.inl l0), .inl l1] [] σ Q) := w_iflt d153_8 (by decide)
theorem d153_11 : adec m153 11 = some (.aload_n 0, 1) := by decide +kernel
theorem s153_11 {l0 : Nat} {l1 : Int} : WP m153 11 [.inr (.inl l0), .inl l1] [] σ Q = WP m153 12 [.inr (.inl l0), .inl l1] [.inr (.inl l0)] σ Q := w_ld d153_11 rfl
theorem d153_12 : adec m153 12 = some (.getfield 24, 3) := by decide +kernel
theorem s153_12 {l0 : Nat} {l1 : Int} : WP m153 12 [.inr (.inl l0), .inl l1] [.inr (.inl 130)] σ Q = WP m153 15 [.inr (.inl l0), .inl l1] [.inr (.inl 134)] σ Q := (w_getR (c := 10) (n := 6) d153_12 (by decide +kernel) (by decide +kernel)).trans (g_and ⟨isO_dec (by decide +kernel), by decide +kernel⟩)
theorem d153_15 : adec m153 15 = some (.iload_n 1, 1) := by decide +kernel
theorem s153_15 {l0 : Nat} {l1 : Int} {x0 : Nat} : WP m153 15 [.inr (.inl l0), .inl l1] [.inr (.inl x0)] σ Q = WP m153 16 [.inr (.inl l0), .inl l1] [.inl l1, .inr (.inl x0)] σ Q := w_ld d153_15 rfl
theorem d153_16 : adec m153 16 = some (.iaload, 1) := by decide +kernel
theorem s153_16 {l0 : Nat} {l1 : Int} {x0 : Nat} {x1 : Int} : WP m153 16 [.inr (.inl l0), .inl l1] [.inl x1, .inr (.inl x0)] σ Q = ((kdS x0 = 20 ∧ 0 ≤ x1 ∧ x1 < ln x0) ∧ WP m153 17 [.inr (.inl l0), .inl l1] [.inl (σ x0 x1.toNat)] σ Q) := w_iald d153_16
theorem d153_17 : adec m153 17 = some (.invokestatic 162, 3) := by decide +kernel
theorem s153_17 {l0 : Nat} {l1 : Int} {x0 : Int} : WP m153 17 [.inr (.inl l0), .inl l1] [.inl x0] σ Q = CA m129 [.inl x0] σ (fun v σ2 => WP m153 20 [.inr (.inl l0), .inl l1] (v ++ []) σ2 Q) := w_cS (k := 129) d153_17 (by decide +kernel) (md := 1) (by decide +kernel) m129_at rfl rfl ⟨Nat.le_of_ble_eq_true rfl, Nat.le_of_ble_eq_true rfl, Nat.le_of_ble_eq_true rfl⟩ (by decide)
theorem d153_20 : adec m153 20 = some (.ifCond .ne (9), 3) := by decide +kernel
theorem s153_20 {l0 : Nat} {l1 : Int} {x0 : Int} : WP m153 20 [.inr (.inl l0), .inl l1] [.inl x0] σ Q = (if x0 = 0 then WP m153 23 [.inr (.inl l0), .inl l1] [] σ Q else WP m153 29 [.inr (.inl l0), .inl l1] [] σ Q) := w_ifne d153_20 (by decide)
theorem d153_23 : adec m153 23 = some (.iinc 1 (-1), 3) := by decide +kernel
theorem s153_23 {l0 : Nat} {l1 : Int} : WP m153 23 [.inr (.inl l0), .inl l1] [] σ Q = (inI (l1 + (-1)) ∧ WP m153 26 [.inr (.inl l0), .inl (l1 + (-1))] [] σ Q) := w_iinc d153_23 rfl rfl
theorem d153_26 : adec m153 26 = some (.goto (-19), 3) := by decide +kernel
theorem s153_26 {l0 : Nat} {l1 : Int} : WP m153 26 [.inr (.inl l0), .inl l1] [] σ Q = WP m153 7 [.inr (.inl l0), .inl l1] [] σ Q := w_goto d153_26 (by decide)
theorem d153_29 : adec m153 29 = some (.iload_n 1, 1) := by decide +kernel
theorem s153_29 {l0 : Nat} {l1 : Int} : WP m153 29 [.inr (.inl l0), .inl l1] [] σ Q = WP m153 30 [.inr (.inl l0), .inl l1] [.inl l1] σ Q := w_ld d153_29 rfl
theorem d153_30 : adec m153 30 = some (.ireturn, 1) := by decide +kernel
theorem s153_30 {l0 : Nat} {l1 : Int} {x0 : Int} : WP m153 30 [.inr (.inl l0), .inl l1] [.inl x0] σ Q = Q [.inl x0] σ := w_ri d153_30 rfl
theorem e153 {p0 : Nat} : CA m153 [.inr (.inl p0)] σ Q = WP m153 0 [.inr (.inl p0), vU] [] σ Q := rfl
-- BinderPressModel.compiles()V
theorem d154_0 : adec m154 0 = some (.aload_n 0, 1) := by decide +kernel
theorem s154_0 {l0 : Nat} {l1 : AV} {l2 : AV} {l3 : AV} : WP m154 0 [.inr (.inl l0), l1, l2, l3] [] σ Q = WP m154 1 [.inr (.inl l0), l1, l2, l3] [.inr (.inl l0)] σ Q := w_ld d154_0 rfl
theorem d154_1 : adec m154 1 = some (.invokevirtual 186, 3) := by decide +kernel
theorem s154_1 {l0 : Nat} {l1 : AV} {l2 : AV} {l3 : AV} : WP m154 1 [.inr (.inl l0), l1, l2, l3] [.inr (.inl 130)] σ Q = CA m153 [.inr (.inl 130)] σ (fun v σ2 => WP m154 4 [.inr (.inl l0), l1, l2, l3] (v ++ []) σ2 Q) := (w_cV (k := 153) d154_1 (by decide +kernel) m153_at rfl rfl ⟨Nat.le_of_ble_eq_true rfl, Nat.le_of_ble_eq_true rfl, Nat.le_of_ble_eq_true rfl⟩ (by decide)).trans (g_and (isO_dec (by decide +kernel)))
theorem d154_4 : adec m154 4 = some (.istore_n 1, 1) := by decide +kernel
theorem s154_4 {l0 : Nat} {l1 : AV} {l2 : AV} {l3 : AV} {x0 : Int} : WP m154 4 [.inr (.inl l0), l1, l2, l3] [.inl x0] σ Q = WP m154 5 [.inr (.inl l0), .inl x0, l2, l3] [] σ Q := w_st1 (j := 1) d154_4 rfl (Nat.le_of_ble_eq_true rfl) rfl
theorem d154_5 : adec m154 5 = some (.iload_n 1, 1) := by decide +kernel
theorem s154_5 {l0 : Nat} {l1 : Int} {l2 : AV} {l3 : AV} : WP m154 5 [.inr (.inl l0), .inl l1, l2, l3] [] σ Q = WP m154 6 [.inr (.inl l0), .inl l1, l2, l3] [.inl l1] σ Q := w_ld d154_5 rfl
theorem d154_6 : adec m154 6 = some (.ifCond .lt (102), 3) := by decide +kernel
theorem s154_6 {l0 : Nat} {l1 : Int} {l2 : AV} {l3 : AV} {x0 : Int} : WP m154 6 [.inr (.inl l0), .inl l1, l2, l3] [.inl x0] σ Q = (if x0 < 0 then WP m154 108 [.inr (.inl l0), .inl l1, l2, l3] [] σ Q else WP m154 9 [.inr (.inl l0), .inl l1, l2, l3] [] σ Q) := w_iflt d154_6 (by decide)
theorem d154_9 : adec m154 9 = some (.aload_n 0, 1) := by decide +kernel
theorem s154_9 {l0 : Nat} {l1 : Int} {l2 : AV} {l3 : AV} : WP m154 9 [.inr (.inl l0), .inl l1, l2, l3] [] σ Q = WP m154 10 [.inr (.inl l0), .inl l1, l2, l3] [.inr (.inl l0)] σ Q := w_ld d154_9 rfl
theorem d154_10 : adec m154 10 = some (.getfield 104, 3) := by decide +kernel
theorem s154_10 {l0 : Nat} {l1 : Int} {l2 : AV} {l3 : AV} : WP m154 10 [.inr (.inl l0), .inl l1, l2, l3] [.inr (.inl 130)] σ Q = WP m154 13 [.inr (.inl l0), .inl l1, l2, l3] [.inl (σ 130 7)] σ Q := (w_getI (c := 10) (n := 7) d154_10 (by decide +kernel) (by decide +kernel)).trans (g_and (isO_dec (by decide +kernel)))
theorem d154_13 : adec m154 13 = some (.sipush (480), 3) := by decide +kernel
theorem s154_13 {l0 : Nat} {l1 : Int} {l2 : AV} {l3 : AV} {x0 : Int} : WP m154 13 [.inr (.inl l0), .inl l1, l2, l3] [.inl x0] σ Q = WP m154 16 [.inr (.inl l0), .inl l1, l2, l3] [.inl (480), .inl x0] σ Q := w_sipush d154_13 (by decide)
theorem d154_16 : adec m154 16 = some (.if_icmp .gt (92), 3) := by decide +kernel
theorem s154_16 {l0 : Nat} {l1 : Int} {l2 : AV} {l3 : AV} {x0 : Int} {x1 : Int} : WP m154 16 [.inr (.inl l0), .inl l1, l2, l3] [.inl x1, .inl x0] σ Q = (if x1 < x0 then WP m154 108 [.inr (.inl l0), .inl l1, l2, l3] [] σ Q else WP m154 19 [.inr (.inl l0), .inl l1, l2, l3] [] σ Q) := w_icgt d154_16 (by decide)
theorem d154_19 : adec m154 19 = some (.aload_n 0, 1) := by decide +kernel
theorem s154_19 {l0 : Nat} {l1 : Int} {l2 : AV} {l3 : AV} : WP m154 19 [.inr (.inl l0), .inl l1, l2, l3] [] σ Q = WP m154 20 [.inr (.inl l0), .inl l1, l2, l3] [.inr (.inl l0)] σ Q := w_ld d154_19 rfl
theorem d154_20 : adec m154 20 = some (.iload_n 1, 1) := by decide +kernel
theorem s154_20 {l0 : Nat} {l1 : Int} {l2 : AV} {l3 : AV} {x0 : Nat} : WP m154 20 [.inr (.inl l0), .inl l1, l2, l3] [.inr (.inl x0)] σ Q = WP m154 21 [.inr (.inl l0), .inl l1, l2, l3] [.inl l1, .inr (.inl x0)] σ Q := w_ld d154_20 rfl
theorem d154_21 : adec m154 21 = some (.invokevirtual 165, 3) := by decide +kernel
theorem s154_21 {l0 : Nat} {l1 : Int} {l2 : AV} {l3 : AV} {x1 : Int} : WP m154 21 [.inr (.inl l0), .inl l1, l2, l3] [.inl x1, .inr (.inl 130)] σ Q = CA m149 [.inr (.inl 130), .inl x1] σ (fun v σ2 => WP m154 24 [.inr (.inl l0), .inl l1, l2, l3] (v ++ []) σ2 Q) := (w_cV (k := 149) d154_21 (by decide +kernel) m149_at rfl rfl ⟨Nat.le_of_ble_eq_true rfl, Nat.le_of_ble_eq_true rfl, Nat.le_of_ble_eq_true rfl⟩ (by decide)).trans (g_and (isO_dec (by decide +kernel)))
theorem d154_24 : adec m154 24 = some (.istore_n 2, 1) := by decide +kernel
theorem s154_24 {l0 : Nat} {l1 : Int} {l2 : AV} {l3 : AV} {x0 : Int} : WP m154 24 [.inr (.inl l0), .inl l1, l2, l3] [.inl x0] σ Q = WP m154 25 [.inr (.inl l0), .inl l1, .inl x0, l3] [] σ Q := w_st1 (j := 2) d154_24 rfl (Nat.le_of_ble_eq_true rfl) rfl
theorem d154_25 : adec m154 25 = some (.aload_n 0, 1) := by decide +kernel
theorem s154_25 {l0 : Nat} {l1 : Int} {l2 : Int} {l3 : AV} : WP m154 25 [.inr (.inl l0), .inl l1, .inl l2, l3] [] σ Q = WP m154 26 [.inr (.inl l0), .inl l1, .inl l2, l3] [.inr (.inl l0)] σ Q := w_ld d154_25 rfl
theorem d154_26 : adec m154 26 = some (.iconst (0), 1) := by decide +kernel
theorem s154_26 {l0 : Nat} {l1 : Int} {l2 : Int} {l3 : AV} {x0 : Nat} : WP m154 26 [.inr (.inl l0), .inl l1, .inl l2, l3] [.inr (.inl x0)] σ Q = WP m154 27 [.inr (.inl l0), .inl l1, .inl l2, l3] [.inl (0), .inr (.inl x0)] σ Q := w_iconst d154_26 (by decide)
theorem d154_27 : adec m154 27 = some (.putfield 97, 3) := by decide +kernel
theorem s154_27 {l0 : Nat} {l1 : Int} {l2 : Int} {l3 : AV} {x1 : Int} : WP m154 27 [.inr (.inl l0), .inl l1, .inl l2, l3] [.inl x1, .inr (.inl 130)] σ Q = WP m154 30 [.inr (.inl l0), .inl l1, .inl l2, l3] [] (aup σ 130 9 x1) Q := (w_putI (c := 10) (n := 9) d154_27 (by decide +kernel) (by decide +kernel) (by decide +kernel)).trans (g_and (isO_dec (by decide +kernel)))
theorem d154_30 : adec m154 30 = some (.iconst (0), 1) := by decide +kernel
theorem s154_30 {l0 : Nat} {l1 : Int} {l2 : Int} {l3 : AV} : WP m154 30 [.inr (.inl l0), .inl l1, .inl l2, l3] [] σ Q = WP m154 31 [.inr (.inl l0), .inl l1, .inl l2, l3] [.inl (0)] σ Q := w_iconst d154_30 (by decide)
theorem d154_31 : adec m154 31 = some (.istore_n 3, 1) := by decide +kernel
theorem s154_31 {l0 : Nat} {l1 : Int} {l2 : Int} {l3 : AV} {x0 : Int} : WP m154 31 [.inr (.inl l0), .inl l1, .inl l2, l3] [.inl x0] σ Q = WP m154 32 [.inr (.inl l0), .inl l1, .inl l2, .inl x0] [] σ Q := w_st1 (j := 3) d154_31 rfl (Nat.le_of_ble_eq_true rfl) rfl
theorem d154_32 : adec m154 32 = some (.iload_n 3, 1) := by decide +kernel
theorem s154_32 {l0 : Nat} {l1 : Int} {l2 : Int} {l3 : Int} : WP m154 32 [.inr (.inl l0), .inl l1, .inl l2, .inl l3] [] σ Q = WP m154 33 [.inr (.inl l0), .inl l1, .inl l2, .inl l3] [.inl l3] σ Q := w_ld d154_32 rfl
theorem d154_33 : adec m154 33 = some (.iload_n 1, 1) := by decide +kernel
theorem s154_33 {l0 : Nat} {l1 : Int} {l2 : Int} {l3 : Int} {x0 : Int} : WP m154 33 [.inr (.inl l0), .inl l1, .inl l2, .inl l3] [.inl x0] σ Q = WP m154 34 [.inr (.inl l0), .inl l1, .inl l2, .inl l3] [.inl l1, .inl x0] σ Q := w_ld d154_33 rfl
theorem d154_34 : adec m154 34 = some (.if_icmp .ge (19), 3) := by decide +kernel
theorem s154_34 {l0 : Nat} {l1 : Int} {l2 : Int} {l3 : Int} {x0 : Int} {x1 : Int} : WP m154 34 [.inr (.inl l0), .inl l1, .inl l2, .inl l3] [.inl x1, .inl x0] σ Q = (if x1 ≤ x0 then WP m154 53 [.inr (.inl l0), .inl l1, .inl l2, .inl l3] [] σ Q else WP m154 37 [.inr (.inl l0), .inl l1, .inl l2, .inl l3] [] σ Q) := w_icge d154_34 (by decide)
theorem d154_37 : adec m154 37 = some (.aload_n 0, 1) := by decide +kernel
theorem s154_37 {l0 : Nat} {l1 : Int} {l2 : Int} {l3 : Int} : WP m154 37 [.inr (.inl l0), .inl l1, .inl l2, .inl l3] [] σ Q = WP m154 38 [.inr (.inl l0), .inl l1, .inl l2, .inl l3] [.inr (.inl l0)] σ Q := w_ld d154_37 rfl
theorem d154_38 : adec m154 38 = some (.aload_n 0, 1) := by decide +kernel
theorem s154_38 {l0 : Nat} {l1 : Int} {l2 : Int} {l3 : Int} {x0 : Nat} : WP m154 38 [.inr (.inl l0), .inl l1, .inl l2, .inl l3] [.inr (.inl x0)] σ Q = WP m154 39 [.inr (.inl l0), .inl l1, .inl l2, .inl l3] [.inr (.inl l0), .inr (.inl x0)] σ Q := w_ld d154_38 rfl
theorem d154_39 : adec m154 39 = some (.getfield 24, 3) := by decide +kernel
theorem s154_39 {l0 : Nat} {l1 : Int} {l2 : Int} {l3 : Int} {x0 : Nat} : WP m154 39 [.inr (.inl l0), .inl l1, .inl l2, .inl l3] [.inr (.inl 130), .inr (.inl x0)] σ Q = WP m154 42 [.inr (.inl l0), .inl l1, .inl l2, .inl l3] [.inr (.inl 134), .inr (.inl x0)] σ Q := (w_getR (c := 10) (n := 6) d154_39 (by decide +kernel) (by decide +kernel)).trans (g_and ⟨isO_dec (by decide +kernel), by decide +kernel⟩)
theorem d154_42 : adec m154 42 = some (.iload_n 3, 1) := by decide +kernel
theorem s154_42 {l0 : Nat} {l1 : Int} {l2 : Int} {l3 : Int} {x0 : Nat} {x1 : Nat} : WP m154 42 [.inr (.inl l0), .inl l1, .inl l2, .inl l3] [.inr (.inl x1), .inr (.inl x0)] σ Q = WP m154 43 [.inr (.inl l0), .inl l1, .inl l2, .inl l3] [.inl l3, .inr (.inl x1), .inr (.inl x0)] σ Q := w_ld d154_42 rfl
theorem d154_43 : adec m154 43 = some (.iaload, 1) := by decide +kernel
theorem s154_43 {l0 : Nat} {l1 : Int} {l2 : Int} {l3 : Int} {x0 : Nat} {x1 : Nat} {x2 : Int} : WP m154 43 [.inr (.inl l0), .inl l1, .inl l2, .inl l3] [.inl x2, .inr (.inl x1), .inr (.inl x0)] σ Q = ((kdS x1 = 20 ∧ 0 ≤ x2 ∧ x2 < ln x1) ∧ WP m154 44 [.inr (.inl l0), .inl l1, .inl l2, .inl l3] [.inl (σ x1 x2.toNat), .inr (.inl x0)] σ Q) := w_iald d154_43
theorem d154_44 : adec m154 44 = some (.invokevirtual 168, 3) := by decide +kernel
theorem s154_44 {l0 : Nat} {l1 : Int} {l2 : Int} {l3 : Int} {x1 : Int} : WP m154 44 [.inr (.inl l0), .inl l1, .inl l2, .inl l3] [.inl x1, .inr (.inl 130)] σ Q = CA m134 [.inr (.inl 130), .inl x1] σ (fun v σ2 => WP m154 47 [.inr (.inl l0), .inl l1, .inl l2, .inl l3] (v ++ []) σ2 Q) := (w_cV (k := 134) d154_44 (by decide +kernel) m134_at rfl rfl ⟨Nat.le_of_ble_eq_true rfl, Nat.le_of_ble_eq_true rfl, Nat.le_of_ble_eq_true rfl⟩ (by decide)).trans (g_and (isO_dec (by decide +kernel)))
theorem d154_47 : adec m154 47 = some (.iinc 3 (1), 3) := by decide +kernel
theorem s154_47 {l0 : Nat} {l1 : Int} {l2 : Int} {l3 : Int} : WP m154 47 [.inr (.inl l0), .inl l1, .inl l2, .inl l3] [] σ Q = (inI (l3 + (1)) ∧ WP m154 50 [.inr (.inl l0), .inl l1, .inl l2, .inl (l3 + (1))] [] σ Q) := w_iinc d154_47 rfl rfl
theorem d154_50 : adec m154 50 = some (.goto (-18), 3) := by decide +kernel
theorem s154_50 {l0 : Nat} {l1 : Int} {l2 : Int} {l3 : Int} : WP m154 50 [.inr (.inl l0), .inl l1, .inl l2, .inl l3] [] σ Q = WP m154 32 [.inr (.inl l0), .inl l1, .inl l2, .inl l3] [] σ Q := w_goto d154_50 (by decide)
theorem d154_53 : adec m154 53 = some (.aload_n 0, 1) := by decide +kernel
theorem s154_53 {l0 : Nat} {l1 : Int} {l2 : Int} {l3 : Int} : WP m154 53 [.inr (.inl l0), .inl l1, .inl l2, .inl l3] [] σ Q = WP m154 54 [.inr (.inl l0), .inl l1, .inl l2, .inl l3] [.inr (.inl l0)] σ Q := w_ld d154_53 rfl
theorem d154_54 : adec m154 54 = some (.iload_n 1, 1) := by decide +kernel
theorem s154_54 {l0 : Nat} {l1 : Int} {l2 : Int} {l3 : Int} {x0 : Nat} : WP m154 54 [.inr (.inl l0), .inl l1, .inl l2, .inl l3] [.inr (.inl x0)] σ Q = WP m154 55 [.inr (.inl l0), .inl l1, .inl l2, .inl l3] [.inl l1, .inr (.inl x0)] σ Q := w_ld d154_54 rfl
theorem d154_55 : adec m154 55 = some (.iconst (1), 1) := by decide +kernel
theorem s154_55 {l0 : Nat} {l1 : Int} {l2 : Int} {l3 : Int} {x0 : Nat} {x1 : Int} : WP m154 55 [.inr (.inl l0), .inl l1, .inl l2, .inl l3] [.inl x1, .inr (.inl x0)] σ Q = WP m154 56 [.inr (.inl l0), .inl l1, .inl l2, .inl l3] [.inl (1), .inl x1, .inr (.inl x0)] σ Q := w_iconst d154_55 (by decide)
theorem d154_56 : adec m154 56 = some (.iadd, 1) := by decide +kernel
theorem s154_56 {l0 : Nat} {l1 : Int} {l2 : Int} {l3 : Int} {x0 : Nat} {x1 : Int} {x2 : Int} : WP m154 56 [.inr (.inl l0), .inl l1, .inl l2, .inl l3] [.inl x2, .inl x1, .inr (.inl x0)] σ Q = (inI (x1 + x2) ∧ WP m154 57 [.inr (.inl l0), .inl l1, .inl l2, .inl l3] [.inl (x1 + x2), .inr (.inl x0)] σ Q) := w_iadd d154_56
theorem d154_57 : adec m154 57 = some (.aload_n 0, 1) := by decide +kernel
theorem s154_57 {l0 : Nat} {l1 : Int} {l2 : Int} {l3 : Int} {x0 : Nat} {x1 : Int} : WP m154 57 [.inr (.inl l0), .inl l1, .inl l2, .inl l3] [.inl x1, .inr (.inl x0)] σ Q = WP m154 58 [.inr (.inl l0), .inl l1, .inl l2, .inl l3] [.inr (.inl l0), .inl x1, .inr (.inl x0)] σ Q := w_ld d154_57 rfl
theorem d154_58 : adec m154 58 = some (.getfield 24, 3) := by decide +kernel
theorem s154_58 {l0 : Nat} {l1 : Int} {l2 : Int} {l3 : Int} {x0 : Nat} {x1 : Int} : WP m154 58 [.inr (.inl l0), .inl l1, .inl l2, .inl l3] [.inr (.inl 130), .inl x1, .inr (.inl x0)] σ Q = WP m154 61 [.inr (.inl l0), .inl l1, .inl l2, .inl l3] [.inr (.inl 134), .inl x1, .inr (.inl x0)] σ Q := (w_getR (c := 10) (n := 6) d154_58 (by decide +kernel) (by decide +kernel)).trans (g_and ⟨isO_dec (by decide +kernel), by decide +kernel⟩)
theorem d154_61 : adec m154 61 = some (.iload_n 1, 1) := by decide +kernel
theorem s154_61 {l0 : Nat} {l1 : Int} {l2 : Int} {l3 : Int} {x0 : Nat} {x1 : Int} {x2 : Nat} : WP m154 61 [.inr (.inl l0), .inl l1, .inl l2, .inl l3] [.inr (.inl x2), .inl x1, .inr (.inl x0)] σ Q = WP m154 62 [.inr (.inl l0), .inl l1, .inl l2, .inl l3] [.inl l1, .inr (.inl x2), .inl x1, .inr (.inl x0)] σ Q := w_ld d154_61 rfl
theorem d154_62 : adec m154 62 = some (.iaload, 1) := by decide +kernel
theorem s154_62 {l0 : Nat} {l1 : Int} {l2 : Int} {l3 : Int} {x0 : Nat} {x1 : Int} {x2 : Nat} {x3 : Int} : WP m154 62 [.inr (.inl l0), .inl l1, .inl l2, .inl l3] [.inl x3, .inr (.inl x2), .inl x1, .inr (.inl x0)] σ Q = ((kdS x2 = 20 ∧ 0 ≤ x3 ∧ x3 < ln x2) ∧ WP m154 63 [.inr (.inl l0), .inl l1, .inl l2, .inl l3] [.inl (σ x2 x3.toNat), .inl x1, .inr (.inl x0)] σ Q) := w_iald d154_62
theorem d154_63 : adec m154 63 = some (.sipush (1000), 3) := by decide +kernel
theorem s154_63 {l0 : Nat} {l1 : Int} {l2 : Int} {l3 : Int} {x0 : Nat} {x1 : Int} {x2 : Int} : WP m154 63 [.inr (.inl l0), .inl l1, .inl l2, .inl l3] [.inl x2, .inl x1, .inr (.inl x0)] σ Q = WP m154 66 [.inr (.inl l0), .inl l1, .inl l2, .inl l3] [.inl (1000), .inl x2, .inl x1, .inr (.inl x0)] σ Q := w_sipush d154_63 (by decide)
theorem d154_66 : adec m154 66 = some (.isub, 1) := by decide +kernel
theorem s154_66 {l0 : Nat} {l1 : Int} {l2 : Int} {l3 : Int} {x0 : Nat} {x1 : Int} {x2 : Int} {x3 : Int} : WP m154 66 [.inr (.inl l0), .inl l1, .inl l2, .inl l3] [.inl x3, .inl x2, .inl x1, .inr (.inl x0)] σ Q = (inI (x2 - x3) ∧ WP m154 67 [.inr (.inl l0), .inl l1, .inl l2, .inl l3] [.inl (x2 - x3), .inl x1, .inr (.inl x0)] σ Q) := w_isub d154_66
theorem d154_67 : adec m154 67 = some (.invokevirtual 189, 3) := by decide +kernel
theorem s154_67 {l0 : Nat} {l1 : Int} {l2 : Int} {l3 : Int} {x1 : Int} {x2 : Int} : WP m154 67 [.inr (.inl l0), .inl l1, .inl l2, .inl l3] [.inl x2, .inl x1, .inr (.inl 130)] σ Q = CA m152 [.inr (.inl 130), .inl x1, .inl x2] σ (fun v σ2 => WP m154 70 [.inr (.inl l0), .inl l1, .inl l2, .inl l3] (v ++ []) σ2 Q) := (w_cV (k := 152) d154_67 (by decide +kernel) m152_at rfl rfl ⟨Nat.le_of_ble_eq_true rfl, Nat.le_of_ble_eq_true rfl, Nat.le_of_ble_eq_true rfl⟩ (by decide)).trans (g_and (isO_dec (by decide +kernel)))
theorem d154_70 : adec m154 70 = some (.iload_n 2, 1) := by decide +kernel
theorem s154_70 {l0 : Nat} {l1 : Int} {l2 : Int} {l3 : Int} : WP m154 70 [.inr (.inl l0), .inl l1, .inl l2, .inl l3] [] σ Q = WP m154 71 [.inr (.inl l0), .inl l1, .inl l2, .inl l3] [.inl l2] σ Q := w_ld d154_70 rfl
theorem d154_71 : adec m154 71 = some (.istore_n 3, 1) := by decide +kernel
theorem s154_71 {l0 : Nat} {l1 : Int} {l2 : Int} {l3 : Int} {x0 : Int} : WP m154 71 [.inr (.inl l0), .inl l1, .inl l2, .inl l3] [.inl x0] σ Q = WP m154 72 [.inr (.inl l0), .inl l1, .inl l2, .inl x0] [] σ Q := w_st1 (j := 3) d154_71 rfl (Nat.le_of_ble_eq_true rfl) rfl
theorem d154_72 : adec m154 72 = some (.iload_n 3, 1) := by decide +kernel
theorem s154_72 {l0 : Nat} {l1 : Int} {l2 : Int} {l3 : Int} : WP m154 72 [.inr (.inl l0), .inl l1, .inl l2, .inl l3] [] σ Q = WP m154 73 [.inr (.inl l0), .inl l1, .inl l2, .inl l3] [.inl l3] σ Q := w_ld d154_72 rfl
theorem d154_73 : adec m154 73 = some (.aload_n 0, 1) := by decide +kernel
theorem s154_73 {l0 : Nat} {l1 : Int} {l2 : Int} {l3 : Int} {x0 : Int} : WP m154 73 [.inr (.inl l0), .inl l1, .inl l2, .inl l3] [.inl x0] σ Q = WP m154 74 [.inr (.inl l0), .inl l1, .inl l2, .inl l3] [.inr (.inl l0), .inl x0] σ Q := w_ld d154_73 rfl
theorem d154_74 : adec m154 74 = some (.getfield 104, 3) := by decide +kernel
theorem s154_74 {l0 : Nat} {l1 : Int} {l2 : Int} {l3 : Int} {x0 : Int} : WP m154 74 [.inr (.inl l0), .inl l1, .inl l2, .inl l3] [.inr (.inl 130), .inl x0] σ Q = WP m154 77 [.inr (.inl l0), .inl l1, .inl l2, .inl l3] [.inl (σ 130 7), .inl x0] σ Q := (w_getI (c := 10) (n := 7) d154_74 (by decide +kernel) (by decide +kernel)).trans (g_and (isO_dec (by decide +kernel)))
theorem d154_77 : adec m154 77 = some (.if_icmp .ge (19), 3) := by decide +kernel
theorem s154_77 {l0 : Nat} {l1 : Int} {l2 : Int} {l3 : Int} {x0 : Int} {x1 : Int} : WP m154 77 [.inr (.inl l0), .inl l1, .inl l2, .inl l3] [.inl x1, .inl x0] σ Q = (if x1 ≤ x0 then WP m154 96 [.inr (.inl l0), .inl l1, .inl l2, .inl l3] [] σ Q else WP m154 80 [.inr (.inl l0), .inl l1, .inl l2, .inl l3] [] σ Q) := w_icge d154_77 (by decide)
theorem d154_80 : adec m154 80 = some (.aload_n 0, 1) := by decide +kernel
theorem s154_80 {l0 : Nat} {l1 : Int} {l2 : Int} {l3 : Int} : WP m154 80 [.inr (.inl l0), .inl l1, .inl l2, .inl l3] [] σ Q = WP m154 81 [.inr (.inl l0), .inl l1, .inl l2, .inl l3] [.inr (.inl l0)] σ Q := w_ld d154_80 rfl
theorem d154_81 : adec m154 81 = some (.aload_n 0, 1) := by decide +kernel
theorem s154_81 {l0 : Nat} {l1 : Int} {l2 : Int} {l3 : Int} {x0 : Nat} : WP m154 81 [.inr (.inl l0), .inl l1, .inl l2, .inl l3] [.inr (.inl x0)] σ Q = WP m154 82 [.inr (.inl l0), .inl l1, .inl l2, .inl l3] [.inr (.inl l0), .inr (.inl x0)] σ Q := w_ld d154_81 rfl
theorem d154_82 : adec m154 82 = some (.getfield 24, 3) := by decide +kernel
theorem s154_82 {l0 : Nat} {l1 : Int} {l2 : Int} {l3 : Int} {x0 : Nat} : WP m154 82 [.inr (.inl l0), .inl l1, .inl l2, .inl l3] [.inr (.inl 130), .inr (.inl x0)] σ Q = WP m154 85 [.inr (.inl l0), .inl l1, .inl l2, .inl l3] [.inr (.inl 134), .inr (.inl x0)] σ Q := (w_getR (c := 10) (n := 6) d154_82 (by decide +kernel) (by decide +kernel)).trans (g_and ⟨isO_dec (by decide +kernel), by decide +kernel⟩)
theorem d154_85 : adec m154 85 = some (.iload_n 3, 1) := by decide +kernel
theorem s154_85 {l0 : Nat} {l1 : Int} {l2 : Int} {l3 : Int} {x0 : Nat} {x1 : Nat} : WP m154 85 [.inr (.inl l0), .inl l1, .inl l2, .inl l3] [.inr (.inl x1), .inr (.inl x0)] σ Q = WP m154 86 [.inr (.inl l0), .inl l1, .inl l2, .inl l3] [.inl l3, .inr (.inl x1), .inr (.inl x0)] σ Q := w_ld d154_85 rfl
theorem d154_86 : adec m154 86 = some (.iaload, 1) := by decide +kernel
theorem s154_86 {l0 : Nat} {l1 : Int} {l2 : Int} {l3 : Int} {x0 : Nat} {x1 : Nat} {x2 : Int} : WP m154 86 [.inr (.inl l0), .inl l1, .inl l2, .inl l3] [.inl x2, .inr (.inl x1), .inr (.inl x0)] σ Q = ((kdS x1 = 20 ∧ 0 ≤ x2 ∧ x2 < ln x1) ∧ WP m154 87 [.inr (.inl l0), .inl l1, .inl l2, .inl l3] [.inl (σ x1 x2.toNat), .inr (.inl x0)] σ Q) := w_iald d154_86
theorem d154_87 : adec m154 87 = some (.invokevirtual 168, 3) := by decide +kernel
theorem s154_87 {l0 : Nat} {l1 : Int} {l2 : Int} {l3 : Int} {x1 : Int} : WP m154 87 [.inr (.inl l0), .inl l1, .inl l2, .inl l3] [.inl x1, .inr (.inl 130)] σ Q = CA m134 [.inr (.inl 130), .inl x1] σ (fun v σ2 => WP m154 90 [.inr (.inl l0), .inl l1, .inl l2, .inl l3] (v ++ []) σ2 Q) := (w_cV (k := 134) d154_87 (by decide +kernel) m134_at rfl rfl ⟨Nat.le_of_ble_eq_true rfl, Nat.le_of_ble_eq_true rfl, Nat.le_of_ble_eq_true rfl⟩ (by decide)).trans (g_and (isO_dec (by decide +kernel)))
theorem d154_90 : adec m154 90 = some (.iinc 3 (1), 3) := by decide +kernel
theorem s154_90 {l0 : Nat} {l1 : Int} {l2 : Int} {l3 : Int} : WP m154 90 [.inr (.inl l0), .inl l1, .inl l2, .inl l3] [] σ Q = (inI (l3 + (1)) ∧ WP m154 93 [.inr (.inl l0), .inl l1, .inl l2, .inl (l3 + (1))] [] σ Q) := w_iinc d154_90 rfl rfl
theorem d154_93 : adec m154 93 = some (.goto (-21), 3) := by decide +kernel
theorem s154_93 {l0 : Nat} {l1 : Int} {l2 : Int} {l3 : Int} : WP m154 93 [.inr (.inl l0), .inl l1, .inl l2, .inl l3] [] σ Q = WP m154 72 [.inr (.inl l0), .inl l1, .inl l2, .inl l3] [] σ Q := w_goto d154_93 (by decide)
theorem d154_96 : adec m154 96 = some (.aload_n 0, 1) := by decide +kernel
theorem s154_96 {l0 : Nat} {l1 : Int} {l2 : Int} {l3 : Int} : WP m154 96 [.inr (.inl l0), .inl l1, .inl l2, .inl l3] [] σ Q = WP m154 97 [.inr (.inl l0), .inl l1, .inl l2, .inl l3] [.inr (.inl l0)] σ Q := w_ld d154_96 rfl
theorem d154_97 : adec m154 97 = some (.invokevirtual 192, 3) := by decide +kernel
theorem s154_97 {l0 : Nat} {l1 : Int} {l2 : Int} {l3 : Int} : WP m154 97 [.inr (.inl l0), .inl l1, .inl l2, .inl l3] [.inr (.inl 130)] σ Q = CA m139 [.inr (.inl 130)] σ (fun v σ2 => WP m154 100 [.inr (.inl l0), .inl l1, .inl l2, .inl l3] (v ++ []) σ2 Q) := (w_cV (k := 139) d154_97 (by decide +kernel) m139_at rfl rfl ⟨Nat.le_of_ble_eq_true rfl, Nat.le_of_ble_eq_true rfl, Nat.le_of_ble_eq_true rfl⟩ (by decide)).trans (g_and (isO_dec (by decide +kernel)))
theorem d154_100 : adec m154 100 = some (.aload_n 0, 1) := by decide +kernel
theorem s154_100 {l0 : Nat} {l1 : Int} {l2 : Int} {l3 : Int} : WP m154 100 [.inr (.inl l0), .inl l1, .inl l2, .inl l3] [] σ Q = WP m154 101 [.inr (.inl l0), .inl l1, .inl l2, .inl l3] [.inr (.inl l0)] σ Q := w_ld d154_100 rfl
theorem d154_101 : adec m154 101 = some (.invokevirtual 186, 3) := by decide +kernel
theorem s154_101 {l0 : Nat} {l1 : Int} {l2 : Int} {l3 : Int} : WP m154 101 [.inr (.inl l0), .inl l1, .inl l2, .inl l3] [.inr (.inl 130)] σ Q = CA m153 [.inr (.inl 130)] σ (fun v σ2 => WP m154 104 [.inr (.inl l0), .inl l1, .inl l2, .inl l3] (v ++ []) σ2 Q) := (w_cV (k := 153) d154_101 (by decide +kernel) m153_at rfl rfl ⟨Nat.le_of_ble_eq_true rfl, Nat.le_of_ble_eq_true rfl, Nat.le_of_ble_eq_true rfl⟩ (by decide)).trans (g_and (isO_dec (by decide +kernel)))
theorem d154_104 : adec m154 104 = some (.istore_n 1, 1) := by decide +kernel
theorem s154_104 {l0 : Nat} {l1 : Int} {l2 : Int} {l3 : Int} {x0 : Int} : WP m154 104 [.inr (.inl l0), .inl l1, .inl l2, .inl l3] [.inl x0] σ Q = WP m154 105 [.inr (.inl l0), .inl x0, .inl l2, .inl l3] [] σ Q := w_st1 (j := 1) d154_104 rfl (Nat.le_of_ble_eq_true rfl) rfl
theorem d154_105 : adec m154 105 = some (.goto (-100), 3) := by decide +kernel
theorem s154_105 {l0 : Nat} {l1 : Int} {l2 : Int} {l3 : Int} : WP m154 105 [.inr (.inl l0), .inl l1, .inl l2, .inl l3] [] σ Q = WP m154 5 [.inr (.inl l0), .inl l1, .inl l2, .inl l3] [] σ Q := w_goto d154_105 (by decide)
theorem d154_108 : adec m154 108 = some (.return_, 1) := by decide +kernel
theorem s154_108 {l0 : Nat} {l1 : Int} {l2 : AV} {l3 : AV} : WP m154 108 [.inr (.inl l0), .inl l1, l2, l3] [] σ Q = Q [] σ := w_rv d154_108 rfl
theorem e154 {p0 : Nat} : CA m154 [.inr (.inl p0)] σ Q = WP m154 0 [.inr (.inl p0), vU, vU, vU] [] σ Q := rfl
-- BinderPressModel.compile(I)I
theorem d155_0 : adec m155 0 = some (.iload_n 1, 1) := by decide +kernel
theorem s155_0 {l0 : Nat} {l1 : Int} : WP m155 0 [.inr (.inl l0), .inl l1] [] σ Q = WP m155 1 [.inr (.inl l0), .inl l1] [.inl l1] σ Q := w_ld d155_0 rfl
theorem d155_1 : adec m155 1 = some (.invokestatic 152, 3) := by decide +kernel
theorem s155_1 {l0 : Nat} {l1 : Int} {x0 : Int} : WP m155 1 [.inr (.inl l0), .inl l1] [.inl x0] σ Q = CA m130 [.inl x0] σ (fun v σ2 => WP m155 4 [.inr (.inl l0), .inl l1] (v ++ []) σ2 Q) := w_cS (k := 130) d155_1 (by decide +kernel) (md := 1) (by decide +kernel) m130_at rfl rfl ⟨Nat.le_of_ble_eq_true rfl, Nat.le_of_ble_eq_true rfl, Nat.le_of_ble_eq_true rfl⟩ (by decide)
theorem d155_4 : adec m155 4 = some (.ifCond .ne (6), 3) := by decide +kernel
theorem s155_4 {l0 : Nat} {l1 : Int} {x0 : Int} : WP m155 4 [.inr (.inl l0), .inl l1] [.inl x0] σ Q = (if x0 = 0 then WP m155 7 [.inr (.inl l0), .inl l1] [] σ Q else WP m155 10 [.inr (.inl l0), .inl l1] [] σ Q) := w_ifne d155_4 (by decide)
theorem d155_7 : adec m155 7 = some (.ldc 155, 2) := by decide +kernel
theorem s155_7 {l0 : Nat} {l1 : Int} : WP m155 7 [.inr (.inl l0), .inl l1] [] σ Q = WP m155 9 [.inr (.inl l0), .inl l1] [.inl (-1000000001)] σ Q := w_ldc d155_7 (by decide +kernel) (by decide)
theorem d155_9 : adec m155 9 = some (.ireturn, 1) := by decide +kernel
theorem s155_9 {l0 : Nat} {l1 : Int} {x0 : Int} : WP m155 9 [.inr (.inl l0), .inl l1] [.inl x0] σ Q = Q [.inl x0] σ := w_ri d155_9 rfl
theorem d155_10 : adec m155 10 = some (.aload_n 0, 1) := by decide +kernel
theorem s155_10 {l0 : Nat} {l1 : Int} : WP m155 10 [.inr (.inl l0), .inl l1] [] σ Q = WP m155 11 [.inr (.inl l0), .inl l1] [.inr (.inl l0)] σ Q := w_ld d155_10 rfl
theorem d155_11 : adec m155 11 = some (.iload_n 1, 1) := by decide +kernel
theorem s155_11 {l0 : Nat} {l1 : Int} {x0 : Nat} : WP m155 11 [.inr (.inl l0), .inl l1] [.inr (.inl x0)] σ Q = WP m155 12 [.inr (.inl l0), .inl l1] [.inl l1, .inr (.inl x0)] σ Q := w_ld d155_11 rfl
theorem d155_12 : adec m155 12 = some (.invokevirtual 100, 3) := by decide +kernel
theorem s155_12 {l0 : Nat} {l1 : Int} {x1 : Int} : WP m155 12 [.inr (.inl l0), .inl l1] [.inl x1, .inr (.inl 130)] σ Q = CA m131 [.inr (.inl 130), .inl x1] σ (fun v σ2 => WP m155 15 [.inr (.inl l0), .inl l1] (v ++ []) σ2 Q) := (w_cV (k := 131) d155_12 (by decide +kernel) m131_at rfl rfl ⟨Nat.le_of_ble_eq_true rfl, Nat.le_of_ble_eq_true rfl, Nat.le_of_ble_eq_true rfl⟩ (by decide)).trans (g_and (isO_dec (by decide +kernel)))
theorem d155_15 : adec m155 15 = some (.ifCond .ne (6), 3) := by decide +kernel
theorem s155_15 {l0 : Nat} {l1 : Int} {x0 : Int} : WP m155 15 [.inr (.inl l0), .inl l1] [.inl x0] σ Q = (if x0 = 0 then WP m155 18 [.inr (.inl l0), .inl l1] [] σ Q else WP m155 21 [.inr (.inl l0), .inl l1] [] σ Q) := w_ifne d155_15 (by decide)
theorem d155_18 : adec m155 18 = some (.ldc 195, 2) := by decide +kernel
theorem s155_18 {l0 : Nat} {l1 : Int} : WP m155 18 [.inr (.inl l0), .inl l1] [] σ Q = WP m155 20 [.inr (.inl l0), .inl l1] [.inl (-1000000003)] σ Q := w_ldc d155_18 (by decide +kernel) (by decide)
theorem d155_20 : adec m155 20 = some (.ireturn, 1) := by decide +kernel
theorem s155_20 {l0 : Nat} {l1 : Int} {x0 : Int} : WP m155 20 [.inr (.inl l0), .inl l1] [.inl x0] σ Q = Q [.inl x0] σ := w_ri d155_20 rfl
theorem d155_21 : adec m155 21 = some (.aload_n 0, 1) := by decide +kernel
theorem s155_21 {l0 : Nat} {l1 : Int} : WP m155 21 [.inr (.inl l0), .inl l1] [] σ Q = WP m155 22 [.inr (.inl l0), .inl l1] [.inr (.inl l0)] σ Q := w_ld d155_21 rfl
theorem d155_22 : adec m155 22 = some (.iload_n 1, 1) := by decide +kernel
theorem s155_22 {l0 : Nat} {l1 : Int} {x0 : Nat} : WP m155 22 [.inr (.inl l0), .inl l1] [.inr (.inl x0)] σ Q = WP m155 23 [.inr (.inl l0), .inl l1] [.inl l1, .inr (.inl x0)] σ Q := w_ld d155_22 rfl
theorem d155_23 : adec m155 23 = some (.invokevirtual 196, 3) := by decide +kernel
theorem s155_23 {l0 : Nat} {l1 : Int} {x1 : Int} : WP m155 23 [.inr (.inl l0), .inl l1] [.inl x1, .inr (.inl 130)] σ Q = CA m136 [.inr (.inl 130), .inl x1] σ (fun v σ2 => WP m155 26 [.inr (.inl l0), .inl l1] (v ++ []) σ2 Q) := (w_cV (k := 136) d155_23 (by decide +kernel) m136_at rfl rfl ⟨Nat.le_of_ble_eq_true rfl, Nat.le_of_ble_eq_true rfl, Nat.le_of_ble_eq_true rfl⟩ (by decide)).trans (g_and (isO_dec (by decide +kernel)))
theorem d155_26 : adec m155 26 = some (.aload_n 0, 1) := by decide +kernel
theorem s155_26 {l0 : Nat} {l1 : Int} : WP m155 26 [.inr (.inl l0), .inl l1] [] σ Q = WP m155 27 [.inr (.inl l0), .inl l1] [.inr (.inl l0)] σ Q := w_ld d155_26 rfl
theorem d155_27 : adec m155 27 = some (.invokevirtual 199, 3) := by decide +kernel
theorem s155_27 {l0 : Nat} {l1 : Int} : WP m155 27 [.inr (.inl l0), .inl l1] [.inr (.inl 130)] σ Q = CA m154 [.inr (.inl 130)] σ (fun v σ2 => WP m155 30 [.inr (.inl l0), .inl l1] (v ++ []) σ2 Q) := (w_cV (k := 154) d155_27 (by decide +kernel) m154_at rfl rfl ⟨Nat.le_of_ble_eq_true rfl, Nat.le_of_ble_eq_true rfl, Nat.le_of_ble_eq_true rfl⟩ (by decide)).trans (g_and (isO_dec (by decide +kernel)))
theorem d155_30 : adec m155 30 = some (.aload_n 0, 1) := by decide +kernel
theorem s155_30 {l0 : Nat} {l1 : Int} : WP m155 30 [.inr (.inl l0), .inl l1] [] σ Q = WP m155 31 [.inr (.inl l0), .inl l1] [.inr (.inl l0)] σ Q := w_ld d155_30 rfl
theorem d155_31 : adec m155 31 = some (.iload_n 1, 1) := by decide +kernel
theorem s155_31 {l0 : Nat} {l1 : Int} {x0 : Nat} : WP m155 31 [.inr (.inl l0), .inl l1] [.inr (.inl x0)] σ Q = WP m155 32 [.inr (.inl l0), .inl l1] [.inl l1, .inr (.inl x0)] σ Q := w_ld d155_31 rfl
theorem d155_32 : adec m155 32 = some (.invokevirtual 159, 3) := by decide +kernel
theorem s155_32 {l0 : Nat} {l1 : Int} {x1 : Int} : WP m155 32 [.inr (.inl l0), .inl l1] [.inl x1, .inr (.inl 130)] σ Q = CA m138 [.inr (.inl 130), .inl x1] σ (fun v σ2 => WP m155 35 [.inr (.inl l0), .inl l1] (v ++ []) σ2 Q) := (w_cV (k := 138) d155_32 (by decide +kernel) m138_at rfl rfl ⟨Nat.le_of_ble_eq_true rfl, Nat.le_of_ble_eq_true rfl, Nat.le_of_ble_eq_true rfl⟩ (by decide)).trans (g_and (isO_dec (by decide +kernel)))
theorem d155_35 : adec m155 35 = some (.ireturn, 1) := by decide +kernel
theorem s155_35 {l0 : Nat} {l1 : Int} {x0 : Int} : WP m155 35 [.inr (.inl l0), .inl l1] [.inl x0] σ Q = Q [.inl x0] σ := w_ri d155_35 rfl
theorem e155 {p0 : Nat} {p1 : Int} : CA m155 [.inr (.inl p0), .inl p1] σ Q = WP m155 0 [.inr (.inl p0), .inl p1] [] σ Q := rfl
-- BinderPressModel.takeOut(II)I
theorem d156_0 : adec m156 0 = some (.iload_n 1, 1) := by decide +kernel
theorem s156_0 {l0 : Nat} {l1 : Int} {l2 : Int} : WP m156 0 [.inr (.inl l0), .inl l1, .inl l2] [] σ Q = WP m156 1 [.inr (.inl l0), .inl l1, .inl l2] [.inl l1] σ Q := w_ld d156_0 rfl
theorem d156_1 : adec m156 1 = some (.invokestatic 152, 3) := by decide +kernel
theorem s156_1 {l0 : Nat} {l1 : Int} {l2 : Int} {x0 : Int} : WP m156 1 [.inr (.inl l0), .inl l1, .inl l2] [.inl x0] σ Q = CA m130 [.inl x0] σ (fun v σ2 => WP m156 4 [.inr (.inl l0), .inl l1, .inl l2] (v ++ []) σ2 Q) := w_cS (k := 130) d156_1 (by decide +kernel) (md := 1) (by decide +kernel) m130_at rfl rfl ⟨Nat.le_of_ble_eq_true rfl, Nat.le_of_ble_eq_true rfl, Nat.le_of_ble_eq_true rfl⟩ (by decide)
theorem d156_4 : adec m156 4 = some (.ifCond .ne (6), 3) := by decide +kernel
theorem s156_4 {l0 : Nat} {l1 : Int} {l2 : Int} {x0 : Int} : WP m156 4 [.inr (.inl l0), .inl l1, .inl l2] [.inl x0] σ Q = (if x0 = 0 then WP m156 7 [.inr (.inl l0), .inl l1, .inl l2] [] σ Q else WP m156 10 [.inr (.inl l0), .inl l1, .inl l2] [] σ Q) := w_ifne d156_4 (by decide)
theorem d156_7 : adec m156 7 = some (.ldc 155, 2) := by decide +kernel
theorem s156_7 {l0 : Nat} {l1 : Int} {l2 : Int} : WP m156 7 [.inr (.inl l0), .inl l1, .inl l2] [] σ Q = WP m156 9 [.inr (.inl l0), .inl l1, .inl l2] [.inl (-1000000001)] σ Q := w_ldc d156_7 (by decide +kernel) (by decide)
theorem d156_9 : adec m156 9 = some (.ireturn, 1) := by decide +kernel
theorem s156_9 {l0 : Nat} {l1 : Int} {l2 : Int} {x0 : Int} : WP m156 9 [.inr (.inl l0), .inl l1, .inl l2] [.inl x0] σ Q = Q [.inl x0] σ := w_ri d156_9 rfl
theorem d156_10 : adec m156 10 = some (.iload_n 2, 1) := by decide +kernel
theorem s156_10 {l0 : Nat} {l1 : Int} {l2 : Int} : WP m156 10 [.inr (.inl l0), .inl l1, .inl l2] [] σ Q = WP m156 11 [.inr (.inl l0), .inl l1, .inl l2] [.inl l2] σ Q := w_ld d156_10 rfl
theorem d156_11 : adec m156 11 = some (.invokestatic 134, 3) := by decide +kernel
theorem s156_11 {l0 : Nat} {l1 : Int} {l2 : Int} {x0 : Int} : WP m156 11 [.inr (.inl l0), .inl l1, .inl l2] [.inl x0] σ Q = CA m128 [.inl x0] σ (fun v σ2 => WP m156 14 [.inr (.inl l0), .inl l1, .inl l2] (v ++ []) σ2 Q) := w_cS (k := 128) d156_11 (by decide +kernel) (md := 1) (by decide +kernel) m128_at rfl rfl ⟨Nat.le_of_ble_eq_true rfl, Nat.le_of_ble_eq_true rfl, Nat.le_of_ble_eq_true rfl⟩ (by decide)
theorem d156_14 : adec m156 14 = some (.ifCond .ne (6), 3) := by decide +kernel
theorem s156_14 {l0 : Nat} {l1 : Int} {l2 : Int} {x0 : Int} : WP m156 14 [.inr (.inl l0), .inl l1, .inl l2] [.inl x0] σ Q = (if x0 = 0 then WP m156 17 [.inr (.inl l0), .inl l1, .inl l2] [] σ Q else WP m156 20 [.inr (.inl l0), .inl l1, .inl l2] [] σ Q) := w_ifne d156_14 (by decide)
theorem d156_17 : adec m156 17 = some (.ldc 120, 2) := by decide +kernel
theorem s156_17 {l0 : Nat} {l1 : Int} {l2 : Int} : WP m156 17 [.inr (.inl l0), .inl l1, .inl l2] [] σ Q = WP m156 19 [.inr (.inl l0), .inl l1, .inl l2] [.inl (-1000000002)] σ Q := w_ldc d156_17 (by decide +kernel) (by decide)
theorem d156_19 : adec m156 19 = some (.ireturn, 1) := by decide +kernel
theorem s156_19 {l0 : Nat} {l1 : Int} {l2 : Int} {x0 : Int} : WP m156 19 [.inr (.inl l0), .inl l1, .inl l2] [.inl x0] σ Q = Q [.inl x0] σ := w_ri d156_19 rfl
theorem d156_20 : adec m156 20 = some (.aload_n 0, 1) := by decide +kernel
theorem s156_20 {l0 : Nat} {l1 : Int} {l2 : Int} : WP m156 20 [.inr (.inl l0), .inl l1, .inl l2] [] σ Q = WP m156 21 [.inr (.inl l0), .inl l1, .inl l2] [.inr (.inl l0)] σ Q := w_ld d156_20 rfl
theorem d156_21 : adec m156 21 = some (.iload_n 1, 1) := by decide +kernel
theorem s156_21 {l0 : Nat} {l1 : Int} {l2 : Int} {x0 : Nat} : WP m156 21 [.inr (.inl l0), .inl l1, .inl l2] [.inr (.inl x0)] σ Q = WP m156 22 [.inr (.inl l0), .inl l1, .inl l2] [.inl l1, .inr (.inl x0)] σ Q := w_ld d156_21 rfl
theorem d156_22 : adec m156 22 = some (.invokevirtual 100, 3) := by decide +kernel
theorem s156_22 {l0 : Nat} {l1 : Int} {l2 : Int} {x1 : Int} : WP m156 22 [.inr (.inl l0), .inl l1, .inl l2] [.inl x1, .inr (.inl 130)] σ Q = CA m131 [.inr (.inl 130), .inl x1] σ (fun v σ2 => WP m156 25 [.inr (.inl l0), .inl l1, .inl l2] (v ++ []) σ2 Q) := (w_cV (k := 131) d156_22 (by decide +kernel) m131_at rfl rfl ⟨Nat.le_of_ble_eq_true rfl, Nat.le_of_ble_eq_true rfl, Nat.le_of_ble_eq_true rfl⟩ (by decide)).trans (g_and (isO_dec (by decide +kernel)))
theorem d156_25 : adec m156 25 = some (.ifCond .ne (6), 3) := by decide +kernel
theorem s156_25 {l0 : Nat} {l1 : Int} {l2 : Int} {x0 : Int} : WP m156 25 [.inr (.inl l0), .inl l1, .inl l2] [.inl x0] σ Q = (if x0 = 0 then WP m156 28 [.inr (.inl l0), .inl l1, .inl l2] [] σ Q else WP m156 31 [.inr (.inl l0), .inl l1, .inl l2] [] σ Q) := w_ifne d156_25 (by decide)
theorem d156_28 : adec m156 28 = some (.ldc 195, 2) := by decide +kernel
theorem s156_28 {l0 : Nat} {l1 : Int} {l2 : Int} : WP m156 28 [.inr (.inl l0), .inl l1, .inl l2] [] σ Q = WP m156 30 [.inr (.inl l0), .inl l1, .inl l2] [.inl (-1000000003)] σ Q := w_ldc d156_28 (by decide +kernel) (by decide)
theorem d156_30 : adec m156 30 = some (.ireturn, 1) := by decide +kernel
theorem s156_30 {l0 : Nat} {l1 : Int} {l2 : Int} {x0 : Int} : WP m156 30 [.inr (.inl l0), .inl l1, .inl l2] [.inl x0] σ Q = Q [.inl x0] σ := w_ri d156_30 rfl
theorem d156_31 : adec m156 31 = some (.aload_n 0, 1) := by decide +kernel
theorem s156_31 {l0 : Nat} {l1 : Int} {l2 : Int} : WP m156 31 [.inr (.inl l0), .inl l1, .inl l2] [] σ Q = WP m156 32 [.inr (.inl l0), .inl l1, .inl l2] [.inr (.inl l0)] σ Q := w_ld d156_31 rfl
theorem d156_32 : adec m156 32 = some (.iload_n 1, 1) := by decide +kernel
theorem s156_32 {l0 : Nat} {l1 : Int} {l2 : Int} {x0 : Nat} : WP m156 32 [.inr (.inl l0), .inl l1, .inl l2] [.inr (.inl x0)] σ Q = WP m156 33 [.inr (.inl l0), .inl l1, .inl l2] [.inl l1, .inr (.inl x0)] σ Q := w_ld d156_32 rfl
theorem d156_33 : adec m156 33 = some (.invokevirtual 196, 3) := by decide +kernel
theorem s156_33 {l0 : Nat} {l1 : Int} {l2 : Int} {x1 : Int} : WP m156 33 [.inr (.inl l0), .inl l1, .inl l2] [.inl x1, .inr (.inl 130)] σ Q = CA m136 [.inr (.inl 130), .inl x1] σ (fun v σ2 => WP m156 36 [.inr (.inl l0), .inl l1, .inl l2] (v ++ []) σ2 Q) := (w_cV (k := 136) d156_33 (by decide +kernel) m136_at rfl rfl ⟨Nat.le_of_ble_eq_true rfl, Nat.le_of_ble_eq_true rfl, Nat.le_of_ble_eq_true rfl⟩ (by decide)).trans (g_and (isO_dec (by decide +kernel)))
theorem d156_36 : adec m156 36 = some (.aload_n 0, 1) := by decide +kernel
theorem s156_36 {l0 : Nat} {l1 : Int} {l2 : Int} : WP m156 36 [.inr (.inl l0), .inl l1, .inl l2] [] σ Q = WP m156 37 [.inr (.inl l0), .inl l1, .inl l2] [.inr (.inl l0)] σ Q := w_ld d156_36 rfl
theorem d156_37 : adec m156 37 = some (.invokevirtual 199, 3) := by decide +kernel
theorem s156_37 {l0 : Nat} {l1 : Int} {l2 : Int} : WP m156 37 [.inr (.inl l0), .inl l1, .inl l2] [.inr (.inl 130)] σ Q = CA m154 [.inr (.inl 130)] σ (fun v σ2 => WP m156 40 [.inr (.inl l0), .inl l1, .inl l2] (v ++ []) σ2 Q) := (w_cV (k := 154) d156_37 (by decide +kernel) m154_at rfl rfl ⟨Nat.le_of_ble_eq_true rfl, Nat.le_of_ble_eq_true rfl, Nat.le_of_ble_eq_true rfl⟩ (by decide)).trans (g_and (isO_dec (by decide +kernel)))
theorem d156_40 : adec m156 40 = some (.aload_n 0, 1) := by decide +kernel
theorem s156_40 {l0 : Nat} {l1 : Int} {l2 : Int} : WP m156 40 [.inr (.inl l0), .inl l1, .inl l2] [] σ Q = WP m156 41 [.inr (.inl l0), .inl l1, .inl l2] [.inr (.inl l0)] σ Q := w_ld d156_40 rfl
theorem d156_41 : adec m156 41 = some (.getfield 104, 3) := by decide +kernel
theorem s156_41 {l0 : Nat} {l1 : Int} {l2 : Int} : WP m156 41 [.inr (.inl l0), .inl l1, .inl l2] [.inr (.inl 130)] σ Q = WP m156 44 [.inr (.inl l0), .inl l1, .inl l2] [.inl (σ 130 7)] σ Q := (w_getI (c := 10) (n := 7) d156_41 (by decide +kernel) (by decide +kernel)).trans (g_and (isO_dec (by decide +kernel)))
theorem d156_44 : adec m156 44 = some (.sipush (480), 3) := by decide +kernel
theorem s156_44 {l0 : Nat} {l1 : Int} {l2 : Int} {x0 : Int} : WP m156 44 [.inr (.inl l0), .inl l1, .inl l2] [.inl x0] σ Q = WP m156 47 [.inr (.inl l0), .inl l1, .inl l2] [.inl (480), .inl x0] σ Q := w_sipush d156_44 (by decide)
theorem d156_47 : adec m156 47 = some (.if_icmp .gt (18), 3) := by decide +kernel
theorem s156_47 {l0 : Nat} {l1 : Int} {l2 : Int} {x0 : Int} {x1 : Int} : WP m156 47 [.inr (.inl l0), .inl l1, .inl l2] [.inl x1, .inl x0] σ Q = (if x1 < x0 then WP m156 65 [.inr (.inl l0), .inl l1, .inl l2] [] σ Q else WP m156 50 [.inr (.inl l0), .inl l1, .inl l2] [] σ Q) := w_icgt d156_47 (by decide)
theorem d156_50 : adec m156 50 = some (.aload_n 0, 1) := by decide +kernel
theorem s156_50 {l0 : Nat} {l1 : Int} {l2 : Int} : WP m156 50 [.inr (.inl l0), .inl l1, .inl l2] [] σ Q = WP m156 51 [.inr (.inl l0), .inl l1, .inl l2] [.inr (.inl l0)] σ Q := w_ld d156_50 rfl
theorem d156_51 : adec m156 51 = some (.iconst (0), 1) := by decide +kernel
theorem s156_51 {l0 : Nat} {l1 : Int} {l2 : Int} {x0 : Nat} : WP m156 51 [.inr (.inl l0), .inl l1, .inl l2] [.inr (.inl x0)] σ Q = WP m156 52 [.inr (.inl l0), .inl l1, .inl l2] [.inl (0), .inr (.inl x0)] σ Q := w_iconst d156_51 (by decide)
theorem d156_52 : adec m156 52 = some (.putfield 97, 3) := by decide +kernel
theorem s156_52 {l0 : Nat} {l1 : Int} {l2 : Int} {x1 : Int} : WP m156 52 [.inr (.inl l0), .inl l1, .inl l2] [.inl x1, .inr (.inl 130)] σ Q = WP m156 55 [.inr (.inl l0), .inl l1, .inl l2] [] (aup σ 130 9 x1) Q := (w_putI (c := 10) (n := 9) d156_52 (by decide +kernel) (by decide +kernel) (by decide +kernel)).trans (g_and (isO_dec (by decide +kernel)))
theorem d156_55 : adec m156 55 = some (.aload_n 0, 1) := by decide +kernel
theorem s156_55 {l0 : Nat} {l1 : Int} {l2 : Int} : WP m156 55 [.inr (.inl l0), .inl l1, .inl l2] [] σ Q = WP m156 56 [.inr (.inl l0), .inl l1, .inl l2] [.inr (.inl l0)] σ Q := w_ld d156_55 rfl
theorem d156_56 : adec m156 56 = some (.iconst (0), 1) := by decide +kernel
theorem s156_56 {l0 : Nat} {l1 : Int} {l2 : Int} {x0 : Nat} : WP m156 56 [.inr (.inl l0), .inl l1, .inl l2] [.inr (.inl x0)] σ Q = WP m156 57 [.inr (.inl l0), .inl l1, .inl l2] [.inl (0), .inr (.inl x0)] σ Q := w_iconst d156_56 (by decide)
theorem d156_57 : adec m156 57 = some (.iload_n 2, 1) := by decide +kernel
theorem s156_57 {l0 : Nat} {l1 : Int} {l2 : Int} {x0 : Nat} {x1 : Int} : WP m156 57 [.inr (.inl l0), .inl l1, .inl l2] [.inl x1, .inr (.inl x0)] σ Q = WP m156 58 [.inr (.inl l0), .inl l1, .inl l2] [.inl l2, .inl x1, .inr (.inl x0)] σ Q := w_ld d156_57 rfl
theorem d156_58 : adec m156 58 = some (.invokevirtual 189, 3) := by decide +kernel
theorem s156_58 {l0 : Nat} {l1 : Int} {l2 : Int} {x1 : Int} {x2 : Int} : WP m156 58 [.inr (.inl l0), .inl l1, .inl l2] [.inl x2, .inl x1, .inr (.inl 130)] σ Q = CA m152 [.inr (.inl 130), .inl x1, .inl x2] σ (fun v σ2 => WP m156 61 [.inr (.inl l0), .inl l1, .inl l2] (v ++ []) σ2 Q) := (w_cV (k := 152) d156_58 (by decide +kernel) m152_at rfl rfl ⟨Nat.le_of_ble_eq_true rfl, Nat.le_of_ble_eq_true rfl, Nat.le_of_ble_eq_true rfl⟩ (by decide)).trans (g_and (isO_dec (by decide +kernel)))
theorem d156_61 : adec m156 61 = some (.aload_n 0, 1) := by decide +kernel
theorem s156_61 {l0 : Nat} {l1 : Int} {l2 : Int} : WP m156 61 [.inr (.inl l0), .inl l1, .inl l2] [] σ Q = WP m156 62 [.inr (.inl l0), .inl l1, .inl l2] [.inr (.inl l0)] σ Q := w_ld d156_61 rfl
theorem d156_62 : adec m156 62 = some (.invokevirtual 192, 3) := by decide +kernel
theorem s156_62 {l0 : Nat} {l1 : Int} {l2 : Int} : WP m156 62 [.inr (.inl l0), .inl l1, .inl l2] [.inr (.inl 130)] σ Q = CA m139 [.inr (.inl 130)] σ (fun v σ2 => WP m156 65 [.inr (.inl l0), .inl l1, .inl l2] (v ++ []) σ2 Q) := (w_cV (k := 139) d156_62 (by decide +kernel) m139_at rfl rfl ⟨Nat.le_of_ble_eq_true rfl, Nat.le_of_ble_eq_true rfl, Nat.le_of_ble_eq_true rfl⟩ (by decide)).trans (g_and (isO_dec (by decide +kernel)))
theorem d156_65 : adec m156 65 = some (.aload_n 0, 1) := by decide +kernel
theorem s156_65 {l0 : Nat} {l1 : Int} {l2 : Int} : WP m156 65 [.inr (.inl l0), .inl l1, .inl l2] [] σ Q = WP m156 66 [.inr (.inl l0), .inl l1, .inl l2] [.inr (.inl l0)] σ Q := w_ld d156_65 rfl
theorem d156_66 : adec m156 66 = some (.iload_n 1, 1) := by decide +kernel
theorem s156_66 {l0 : Nat} {l1 : Int} {l2 : Int} {x0 : Nat} : WP m156 66 [.inr (.inl l0), .inl l1, .inl l2] [.inr (.inl x0)] σ Q = WP m156 67 [.inr (.inl l0), .inl l1, .inl l2] [.inl l1, .inr (.inl x0)] σ Q := w_ld d156_66 rfl
theorem d156_67 : adec m156 67 = some (.invokevirtual 159, 3) := by decide +kernel
theorem s156_67 {l0 : Nat} {l1 : Int} {l2 : Int} {x1 : Int} : WP m156 67 [.inr (.inl l0), .inl l1, .inl l2] [.inl x1, .inr (.inl 130)] σ Q = CA m138 [.inr (.inl 130), .inl x1] σ (fun v σ2 => WP m156 70 [.inr (.inl l0), .inl l1, .inl l2] (v ++ []) σ2 Q) := (w_cV (k := 138) d156_67 (by decide +kernel) m138_at rfl rfl ⟨Nat.le_of_ble_eq_true rfl, Nat.le_of_ble_eq_true rfl, Nat.le_of_ble_eq_true rfl⟩ (by decide)).trans (g_and (isO_dec (by decide +kernel)))
theorem d156_70 : adec m156 70 = some (.ireturn, 1) := by decide +kernel
theorem s156_70 {l0 : Nat} {l1 : Int} {l2 : Int} {x0 : Int} : WP m156 70 [.inr (.inl l0), .inl l1, .inl l2] [.inl x0] σ Q = Q [.inl x0] σ := w_ri d156_70 rfl
theorem e156 {p0 : Nat} {p1 : Int} {p2 : Int} : CA m156 [.inr (.inl p0), .inl p1, .inl p2] σ Q = WP m156 0 [.inr (.inl p0), .inl p1, .inl p2] [] σ Q := rfl
-- BinderPressModel.copyShelf(I)V
theorem d157_0 : adec m157 0 = some (.iconst (0), 1) := by decide +kernel
theorem s157_0 {l0 : Nat} {l1 : Int} {l2 : AV} : WP m157 0 [.inr (.inl l0), .inl l1, l2] [] σ Q = WP m157 1 [.inr (.inl l0), .inl l1, l2] [.inl (0)] σ Q := w_iconst d157_0 (by decide)
theorem d157_1 : adec m157 1 = some (.istore_n 2, 1) := by decide +kernel
theorem s157_1 {l0 : Nat} {l1 : Int} {l2 : AV} {x0 : Int} : WP m157 1 [.inr (.inl l0), .inl l1, l2] [.inl x0] σ Q = WP m157 2 [.inr (.inl l0), .inl l1, .inl x0] [] σ Q := w_st1 (j := 2) d157_1 rfl (Nat.le_of_ble_eq_true rfl) rfl
theorem d157_2 : adec m157 2 = some (.iload_n 2, 1) := by decide +kernel
theorem s157_2 {l0 : Nat} {l1 : Int} {l2 : Int} : WP m157 2 [.inr (.inl l0), .inl l1, .inl l2] [] σ Q = WP m157 3 [.inr (.inl l0), .inl l1, .inl l2] [.inl l2] σ Q := w_ld d157_2 rfl
theorem d157_3 : adec m157 3 = some (.aload_n 0, 1) := by decide +kernel
theorem s157_3 {l0 : Nat} {l1 : Int} {l2 : Int} {x0 : Int} : WP m157 3 [.inr (.inl l0), .inl l1, .inl l2] [.inl x0] σ Q = WP m157 4 [.inr (.inl l0), .inl l1, .inl l2] [.inr (.inl l0), .inl x0] σ Q := w_ld d157_3 rfl
theorem d157_4 : adec m157 4 = some (.iload_n 1, 1) := by decide +kernel
theorem s157_4 {l0 : Nat} {l1 : Int} {l2 : Int} {x0 : Int} {x1 : Nat} : WP m157 4 [.inr (.inl l0), .inl l1, .inl l2] [.inr (.inl x1), .inl x0] σ Q = WP m157 5 [.inr (.inl l0), .inl l1, .inl l2] [.inl l1, .inr (.inl x1), .inl x0] σ Q := w_ld d157_4 rfl
theorem d157_5 : adec m157 5 = some (.invokevirtual 100, 3) := by decide +kernel
theorem s157_5 {l0 : Nat} {l1 : Int} {l2 : Int} {x0 : Int} {x2 : Int} : WP m157 5 [.inr (.inl l0), .inl l1, .inl l2] [.inl x2, .inr (.inl 130), .inl x0] σ Q = CA m131 [.inr (.inl 130), .inl x2] σ (fun v σ2 => WP m157 8 [.inr (.inl l0), .inl l1, .inl l2] (v ++ [.inl x0]) σ2 Q) := (w_cV (k := 131) d157_5 (by decide +kernel) m131_at rfl rfl ⟨Nat.le_of_ble_eq_true rfl, Nat.le_of_ble_eq_true rfl, Nat.le_of_ble_eq_true rfl⟩ (by decide)).trans (g_and (isO_dec (by decide +kernel)))
theorem d157_8 : adec m157 8 = some (.if_icmp .ge (26), 3) := by decide +kernel
theorem s157_8 {l0 : Nat} {l1 : Int} {l2 : Int} {x0 : Int} {x1 : Int} : WP m157 8 [.inr (.inl l0), .inl l1, .inl l2] [.inl x1, .inl x0] σ Q = (if x1 ≤ x0 then WP m157 34 [.inr (.inl l0), .inl l1, .inl l2] [] σ Q else WP m157 11 [.inr (.inl l0), .inl l1, .inl l2] [] σ Q) := w_icge d157_8 (by decide)
theorem d157_11 : adec m157 11 = some (.aload_n 0, 1) := by decide +kernel
theorem s157_11 {l0 : Nat} {l1 : Int} {l2 : Int} : WP m157 11 [.inr (.inl l0), .inl l1, .inl l2] [] σ Q = WP m157 12 [.inr (.inl l0), .inl l1, .inl l2] [.inr (.inl l0)] σ Q := w_ld d157_11 rfl
theorem d157_12 : adec m157 12 = some (.aload_n 0, 1) := by decide +kernel
theorem s157_12 {l0 : Nat} {l1 : Int} {l2 : Int} {x0 : Nat} : WP m157 12 [.inr (.inl l0), .inl l1, .inl l2] [.inr (.inl x0)] σ Q = WP m157 13 [.inr (.inl l0), .inl l1, .inl l2] [.inr (.inl l0), .inr (.inl x0)] σ Q := w_ld d157_12 rfl
theorem d157_13 : adec m157 13 = some (.getfield 7, 3) := by decide +kernel
theorem s157_13 {l0 : Nat} {l1 : Int} {l2 : Int} {x0 : Nat} : WP m157 13 [.inr (.inl l0), .inl l1, .inl l2] [.inr (.inl 130), .inr (.inl x0)] σ Q = WP m157 16 [.inr (.inl l0), .inl l1, .inl l2] [.inr (.inl 131), .inr (.inl x0)] σ Q := (w_getR (c := 10) (n := 0) d157_13 (by decide +kernel) (by decide +kernel)).trans (g_and ⟨isO_dec (by decide +kernel), by decide +kernel⟩)
theorem d157_16 : adec m157 16 = some (.bipush (121), 2) := by decide +kernel
theorem s157_16 {l0 : Nat} {l1 : Int} {l2 : Int} {x0 : Nat} {x1 : Nat} : WP m157 16 [.inr (.inl l0), .inl l1, .inl l2] [.inr (.inl x1), .inr (.inl x0)] σ Q = WP m157 18 [.inr (.inl l0), .inl l1, .inl l2] [.inl (121), .inr (.inl x1), .inr (.inl x0)] σ Q := w_bipush d157_16 (by decide)
theorem d157_18 : adec m157 18 = some (.iload_n 1, 1) := by decide +kernel
theorem s157_18 {l0 : Nat} {l1 : Int} {l2 : Int} {x0 : Nat} {x1 : Nat} {x2 : Int} : WP m157 18 [.inr (.inl l0), .inl l1, .inl l2] [.inl x2, .inr (.inl x1), .inr (.inl x0)] σ Q = WP m157 19 [.inr (.inl l0), .inl l1, .inl l2] [.inl l1, .inl x2, .inr (.inl x1), .inr (.inl x0)] σ Q := w_ld d157_18 rfl
theorem d157_19 : adec m157 19 = some (.imul, 1) := by decide +kernel
theorem s157_19 {l0 : Nat} {l1 : Int} {l2 : Int} {x0 : Nat} {x1 : Nat} {x2 : Int} {x3 : Int} : WP m157 19 [.inr (.inl l0), .inl l1, .inl l2] [.inl x3, .inl x2, .inr (.inl x1), .inr (.inl x0)] σ Q = (inI (x2 * x3) ∧ WP m157 20 [.inr (.inl l0), .inl l1, .inl l2] [.inl (x2 * x3), .inr (.inl x1), .inr (.inl x0)] σ Q) := w_imul d157_19
theorem d157_20 : adec m157 20 = some (.iconst (1), 1) := by decide +kernel
theorem s157_20 {l0 : Nat} {l1 : Int} {l2 : Int} {x0 : Nat} {x1 : Nat} {x2 : Int} : WP m157 20 [.inr (.inl l0), .inl l1, .inl l2] [.inl x2, .inr (.inl x1), .inr (.inl x0)] σ Q = WP m157 21 [.inr (.inl l0), .inl l1, .inl l2] [.inl (1), .inl x2, .inr (.inl x1), .inr (.inl x0)] σ Q := w_iconst d157_20 (by decide)
theorem d157_21 : adec m157 21 = some (.iadd, 1) := by decide +kernel
theorem s157_21 {l0 : Nat} {l1 : Int} {l2 : Int} {x0 : Nat} {x1 : Nat} {x2 : Int} {x3 : Int} : WP m157 21 [.inr (.inl l0), .inl l1, .inl l2] [.inl x3, .inl x2, .inr (.inl x1), .inr (.inl x0)] σ Q = (inI (x2 + x3) ∧ WP m157 22 [.inr (.inl l0), .inl l1, .inl l2] [.inl (x2 + x3), .inr (.inl x1), .inr (.inl x0)] σ Q) := w_iadd d157_21
theorem d157_22 : adec m157 22 = some (.iload_n 2, 1) := by decide +kernel
theorem s157_22 {l0 : Nat} {l1 : Int} {l2 : Int} {x0 : Nat} {x1 : Nat} {x2 : Int} : WP m157 22 [.inr (.inl l0), .inl l1, .inl l2] [.inl x2, .inr (.inl x1), .inr (.inl x0)] σ Q = WP m157 23 [.inr (.inl l0), .inl l1, .inl l2] [.inl l2, .inl x2, .inr (.inl x1), .inr (.inl x0)] σ Q := w_ld d157_22 rfl
theorem d157_23 : adec m157 23 = some (.iadd, 1) := by decide +kernel
theorem s157_23 {l0 : Nat} {l1 : Int} {l2 : Int} {x0 : Nat} {x1 : Nat} {x2 : Int} {x3 : Int} : WP m157 23 [.inr (.inl l0), .inl l1, .inl l2] [.inl x3, .inl x2, .inr (.inl x1), .inr (.inl x0)] σ Q = (inI (x2 + x3) ∧ WP m157 24 [.inr (.inl l0), .inl l1, .inl l2] [.inl (x2 + x3), .inr (.inl x1), .inr (.inl x0)] σ Q) := w_iadd d157_23
theorem d157_24 : adec m157 24 = some (.iaload, 1) := by decide +kernel
theorem s157_24 {l0 : Nat} {l1 : Int} {l2 : Int} {x0 : Nat} {x1 : Nat} {x2 : Int} : WP m157 24 [.inr (.inl l0), .inl l1, .inl l2] [.inl x2, .inr (.inl x1), .inr (.inl x0)] σ Q = ((kdS x1 = 20 ∧ 0 ≤ x2 ∧ x2 < ln x1) ∧ WP m157 25 [.inr (.inl l0), .inl l1, .inl l2] [.inl (σ x1 x2.toNat), .inr (.inl x0)] σ Q) := w_iald d157_24
theorem d157_25 : adec m157 25 = some (.invokevirtual 168, 3) := by decide +kernel
theorem s157_25 {l0 : Nat} {l1 : Int} {l2 : Int} {x1 : Int} : WP m157 25 [.inr (.inl l0), .inl l1, .inl l2] [.inl x1, .inr (.inl 130)] σ Q = CA m134 [.inr (.inl 130), .inl x1] σ (fun v σ2 => WP m157 28 [.inr (.inl l0), .inl l1, .inl l2] (v ++ []) σ2 Q) := (w_cV (k := 134) d157_25 (by decide +kernel) m134_at rfl rfl ⟨Nat.le_of_ble_eq_true rfl, Nat.le_of_ble_eq_true rfl, Nat.le_of_ble_eq_true rfl⟩ (by decide)).trans (g_and (isO_dec (by decide +kernel)))
theorem d157_28 : adec m157 28 = some (.iinc 2 (1), 3) := by decide +kernel
theorem s157_28 {l0 : Nat} {l1 : Int} {l2 : Int} : WP m157 28 [.inr (.inl l0), .inl l1, .inl l2] [] σ Q = (inI (l2 + (1)) ∧ WP m157 31 [.inr (.inl l0), .inl l1, .inl (l2 + (1))] [] σ Q) := w_iinc d157_28 rfl rfl
theorem d157_31 : adec m157 31 = some (.goto (-29), 3) := by decide +kernel
theorem s157_31 {l0 : Nat} {l1 : Int} {l2 : Int} : WP m157 31 [.inr (.inl l0), .inl l1, .inl l2] [] σ Q = WP m157 2 [.inr (.inl l0), .inl l1, .inl l2] [] σ Q := w_goto d157_31 (by decide)
theorem d157_34 : adec m157 34 = some (.return_, 1) := by decide +kernel
theorem s157_34 {l0 : Nat} {l1 : Int} {l2 : Int} : WP m157 34 [.inr (.inl l0), .inl l1, .inl l2] [] σ Q = Q [] σ := w_rv d157_34 rfl
theorem e157 {p0 : Nat} {p1 : Int} : CA m157 [.inr (.inl p0), .inl p1] σ Q = WP m157 0 [.inr (.inl p0), .inl p1, vU] [] σ Q := rfl
-- BinderPressModel.put(III)I
theorem d158_0 : adec m158 0 = some (.iload_n 1, 1) := by decide +kernel
theorem s158_0 {l0 : Nat} {l1 : Int} {l2 : Int} {l3 : Int} : WP m158 0 [.inr (.inl l0), .inl l1, .inl l2, .inl l3] [] σ Q = WP m158 1 [.inr (.inl l0), .inl l1, .inl l2, .inl l3] [.inl l1] σ Q := w_ld d158_0 rfl
theorem d158_1 : adec m158 1 = some (.invokestatic 152, 3) := by decide +kernel
theorem s158_1 {l0 : Nat} {l1 : Int} {l2 : Int} {l3 : Int} {x0 : Int} : WP m158 1 [.inr (.inl l0), .inl l1, .inl l2, .inl l3] [.inl x0] σ Q = CA m130 [.inl x0] σ (fun v σ2 => WP m158 4 [.inr (.inl l0), .inl l1, .inl l2, .inl l3] (v ++ []) σ2 Q) := w_cS (k := 130) d158_1 (by decide +kernel) (md := 1) (by decide +kernel) m130_at rfl rfl ⟨Nat.le_of_ble_eq_true rfl, Nat.le_of_ble_eq_true rfl, Nat.le_of_ble_eq_true rfl⟩ (by decide)
theorem d158_4 : adec m158 4 = some (.ifCond .eq (17), 3) := by decide +kernel
theorem s158_4 {l0 : Nat} {l1 : Int} {l2 : Int} {l3 : Int} {x0 : Int} : WP m158 4 [.inr (.inl l0), .inl l1, .inl l2, .inl l3] [.inl x0] σ Q = (if x0 = 0 then WP m158 21 [.inr (.inl l0), .inl l1, .inl l2, .inl l3] [] σ Q else WP m158 7 [.inr (.inl l0), .inl l1, .inl l2, .inl l3] [] σ Q) := w_ifeq d158_4 (by decide)
theorem d158_7 : adec m158 7 = some (.iload_n 2, 1) := by decide +kernel
theorem s158_7 {l0 : Nat} {l1 : Int} {l2 : Int} {l3 : Int} : WP m158 7 [.inr (.inl l0), .inl l1, .inl l2, .inl l3] [] σ Q = WP m158 8 [.inr (.inl l0), .inl l1, .inl l2, .inl l3] [.inl l2] σ Q := w_ld d158_7 rfl
theorem d158_8 : adec m158 8 = some (.invokestatic 152, 3) := by decide +kernel
theorem s158_8 {l0 : Nat} {l1 : Int} {l2 : Int} {l3 : Int} {x0 : Int} : WP m158 8 [.inr (.inl l0), .inl l1, .inl l2, .inl l3] [.inl x0] σ Q = CA m130 [.inl x0] σ (fun v σ2 => WP m158 11 [.inr (.inl l0), .inl l1, .inl l2, .inl l3] (v ++ []) σ2 Q) := w_cS (k := 130) d158_8 (by decide +kernel) (md := 1) (by decide +kernel) m130_at rfl rfl ⟨Nat.le_of_ble_eq_true rfl, Nat.le_of_ble_eq_true rfl, Nat.le_of_ble_eq_true rfl⟩ (by decide)
theorem d158_11 : adec m158 11 = some (.ifCond .eq (10), 3) := by decide +kernel
theorem s158_11 {l0 : Nat} {l1 : Int} {l2 : Int} {l3 : Int} {x0 : Int} : WP m158 11 [.inr (.inl l0), .inl l1, .inl l2, .inl l3] [.inl x0] σ Q = (if x0 = 0 then WP m158 21 [.inr (.inl l0), .inl l1, .inl l2, .inl l3] [] σ Q else WP m158 14 [.inr (.inl l0), .inl l1, .inl l2, .inl l3] [] σ Q) := w_ifeq d158_11 (by decide)
theorem d158_14 : adec m158 14 = some (.iload_n 3, 1) := by decide +kernel
theorem s158_14 {l0 : Nat} {l1 : Int} {l2 : Int} {l3 : Int} : WP m158 14 [.inr (.inl l0), .inl l1, .inl l2, .inl l3] [] σ Q = WP m158 15 [.inr (.inl l0), .inl l1, .inl l2, .inl l3] [.inl l3] σ Q := w_ld d158_14 rfl
theorem d158_15 : adec m158 15 = some (.invokestatic 152, 3) := by decide +kernel
theorem s158_15 {l0 : Nat} {l1 : Int} {l2 : Int} {l3 : Int} {x0 : Int} : WP m158 15 [.inr (.inl l0), .inl l1, .inl l2, .inl l3] [.inl x0] σ Q = CA m130 [.inl x0] σ (fun v σ2 => WP m158 18 [.inr (.inl l0), .inl l1, .inl l2, .inl l3] (v ++ []) σ2 Q) := w_cS (k := 130) d158_15 (by decide +kernel) (md := 1) (by decide +kernel) m130_at rfl rfl ⟨Nat.le_of_ble_eq_true rfl, Nat.le_of_ble_eq_true rfl, Nat.le_of_ble_eq_true rfl⟩ (by decide)
theorem d158_18 : adec m158 18 = some (.ifCond .ne (6), 3) := by decide +kernel
theorem s158_18 {l0 : Nat} {l1 : Int} {l2 : Int} {l3 : Int} {x0 : Int} : WP m158 18 [.inr (.inl l0), .inl l1, .inl l2, .inl l3] [.inl x0] σ Q = (if x0 = 0 then WP m158 21 [.inr (.inl l0), .inl l1, .inl l2, .inl l3] [] σ Q else WP m158 24 [.inr (.inl l0), .inl l1, .inl l2, .inl l3] [] σ Q) := w_ifne d158_18 (by decide)
theorem d158_21 : adec m158 21 = some (.ldc 155, 2) := by decide +kernel
theorem s158_21 {l0 : Nat} {l1 : Int} {l2 : Int} {l3 : Int} : WP m158 21 [.inr (.inl l0), .inl l1, .inl l2, .inl l3] [] σ Q = WP m158 23 [.inr (.inl l0), .inl l1, .inl l2, .inl l3] [.inl (-1000000001)] σ Q := w_ldc d158_21 (by decide +kernel) (by decide)
theorem d158_23 : adec m158 23 = some (.ireturn, 1) := by decide +kernel
theorem s158_23 {l0 : Nat} {l1 : Int} {l2 : Int} {l3 : Int} {x0 : Int} : WP m158 23 [.inr (.inl l0), .inl l1, .inl l2, .inl l3] [.inl x0] σ Q = Q [.inl x0] σ := w_ri d158_23 rfl
theorem d158_24 : adec m158 24 = some (.aload_n 0, 1) := by decide +kernel
theorem s158_24 {l0 : Nat} {l1 : Int} {l2 : Int} {l3 : Int} : WP m158 24 [.inr (.inl l0), .inl l1, .inl l2, .inl l3] [] σ Q = WP m158 25 [.inr (.inl l0), .inl l1, .inl l2, .inl l3] [.inr (.inl l0)] σ Q := w_ld d158_24 rfl
theorem d158_25 : adec m158 25 = some (.iload_n 2, 1) := by decide +kernel
theorem s158_25 {l0 : Nat} {l1 : Int} {l2 : Int} {l3 : Int} {x0 : Nat} : WP m158 25 [.inr (.inl l0), .inl l1, .inl l2, .inl l3] [.inr (.inl x0)] σ Q = WP m158 26 [.inr (.inl l0), .inl l1, .inl l2, .inl l3] [.inl l2, .inr (.inl x0)] σ Q := w_ld d158_25 rfl
theorem d158_26 : adec m158 26 = some (.invokevirtual 100, 3) := by decide +kernel
theorem s158_26 {l0 : Nat} {l1 : Int} {l2 : Int} {l3 : Int} {x1 : Int} : WP m158 26 [.inr (.inl l0), .inl l1, .inl l2, .inl l3] [.inl x1, .inr (.inl 130)] σ Q = CA m131 [.inr (.inl 130), .inl x1] σ (fun v σ2 => WP m158 29 [.inr (.inl l0), .inl l1, .inl l2, .inl l3] (v ++ []) σ2 Q) := (w_cV (k := 131) d158_26 (by decide +kernel) m131_at rfl rfl ⟨Nat.le_of_ble_eq_true rfl, Nat.le_of_ble_eq_true rfl, Nat.le_of_ble_eq_true rfl⟩ (by decide)).trans (g_and (isO_dec (by decide +kernel)))
theorem d158_29 : adec m158 29 = some (.ifCond .eq (11), 3) := by decide +kernel
theorem s158_29 {l0 : Nat} {l1 : Int} {l2 : Int} {l3 : Int} {x0 : Int} : WP m158 29 [.inr (.inl l0), .inl l1, .inl l2, .inl l3] [.inl x0] σ Q = (if x0 = 0 then WP m158 40 [.inr (.inl l0), .inl l1, .inl l2, .inl l3] [] σ Q else WP m158 32 [.inr (.inl l0), .inl l1, .inl l2, .inl l3] [] σ Q) := w_ifeq d158_29 (by decide)
theorem d158_32 : adec m158 32 = some (.aload_n 0, 1) := by decide +kernel
theorem s158_32 {l0 : Nat} {l1 : Int} {l2 : Int} {l3 : Int} : WP m158 32 [.inr (.inl l0), .inl l1, .inl l2, .inl l3] [] σ Q = WP m158 33 [.inr (.inl l0), .inl l1, .inl l2, .inl l3] [.inr (.inl l0)] σ Q := w_ld d158_32 rfl
theorem d158_33 : adec m158 33 = some (.iload_n 3, 1) := by decide +kernel
theorem s158_33 {l0 : Nat} {l1 : Int} {l2 : Int} {l3 : Int} {x0 : Nat} : WP m158 33 [.inr (.inl l0), .inl l1, .inl l2, .inl l3] [.inr (.inl x0)] σ Q = WP m158 34 [.inr (.inl l0), .inl l1, .inl l2, .inl l3] [.inl l3, .inr (.inl x0)] σ Q := w_ld d158_33 rfl
theorem d158_34 : adec m158 34 = some (.invokevirtual 100, 3) := by decide +kernel
theorem s158_34 {l0 : Nat} {l1 : Int} {l2 : Int} {l3 : Int} {x1 : Int} : WP m158 34 [.inr (.inl l0), .inl l1, .inl l2, .inl l3] [.inl x1, .inr (.inl 130)] σ Q = CA m131 [.inr (.inl 130), .inl x1] σ (fun v σ2 => WP m158 37 [.inr (.inl l0), .inl l1, .inl l2, .inl l3] (v ++ []) σ2 Q) := (w_cV (k := 131) d158_34 (by decide +kernel) m131_at rfl rfl ⟨Nat.le_of_ble_eq_true rfl, Nat.le_of_ble_eq_true rfl, Nat.le_of_ble_eq_true rfl⟩ (by decide)).trans (g_and (isO_dec (by decide +kernel)))
theorem d158_37 : adec m158 37 = some (.ifCond .ne (6), 3) := by decide +kernel
theorem s158_37 {l0 : Nat} {l1 : Int} {l2 : Int} {l3 : Int} {x0 : Int} : WP m158 37 [.inr (.inl l0), .inl l1, .inl l2, .inl l3] [.inl x0] σ Q = (if x0 = 0 then WP m158 40 [.inr (.inl l0), .inl l1, .inl l2, .inl l3] [] σ Q else WP m158 43 [.inr (.inl l0), .inl l1, .inl l2, .inl l3] [] σ Q) := w_ifne d158_37 (by decide)
theorem d158_40 : adec m158 40 = some (.ldc 195, 2) := by decide +kernel
theorem s158_40 {l0 : Nat} {l1 : Int} {l2 : Int} {l3 : Int} : WP m158 40 [.inr (.inl l0), .inl l1, .inl l2, .inl l3] [] σ Q = WP m158 42 [.inr (.inl l0), .inl l1, .inl l2, .inl l3] [.inl (-1000000003)] σ Q := w_ldc d158_40 (by decide +kernel) (by decide)
theorem d158_42 : adec m158 42 = some (.ireturn, 1) := by decide +kernel
theorem s158_42 {l0 : Nat} {l1 : Int} {l2 : Int} {l3 : Int} {x0 : Int} : WP m158 42 [.inr (.inl l0), .inl l1, .inl l2, .inl l3] [.inl x0] σ Q = Q [.inl x0] σ := w_ri d158_42 rfl
theorem d158_43 : adec m158 43 = some (.aload_n 0, 1) := by decide +kernel
theorem s158_43 {l0 : Nat} {l1 : Int} {l2 : Int} {l3 : Int} : WP m158 43 [.inr (.inl l0), .inl l1, .inl l2, .inl l3] [] σ Q = WP m158 44 [.inr (.inl l0), .inl l1, .inl l2, .inl l3] [.inr (.inl l0)] σ Q := w_ld d158_43 rfl
theorem d158_44 : adec m158 44 = some (.iconst (0), 1) := by decide +kernel
theorem s158_44 {l0 : Nat} {l1 : Int} {l2 : Int} {l3 : Int} {x0 : Nat} : WP m158 44 [.inr (.inl l0), .inl l1, .inl l2, .inl l3] [.inr (.inl x0)] σ Q = WP m158 45 [.inr (.inl l0), .inl l1, .inl l2, .inl l3] [.inl (0), .inr (.inl x0)] σ Q := w_iconst d158_44 (by decide)
theorem d158_45 : adec m158 45 = some (.putfield 97, 3) := by decide +kernel
theorem s158_45 {l0 : Nat} {l1 : Int} {l2 : Int} {l3 : Int} {x1 : Int} : WP m158 45 [.inr (.inl l0), .inl l1, .inl l2, .inl l3] [.inl x1, .inr (.inl 130)] σ Q = WP m158 48 [.inr (.inl l0), .inl l1, .inl l2, .inl l3] [] (aup σ 130 9 x1) Q := (w_putI (c := 10) (n := 9) d158_45 (by decide +kernel) (by decide +kernel) (by decide +kernel)).trans (g_and (isO_dec (by decide +kernel)))
theorem d158_48 : adec m158 48 = some (.aload_n 0, 1) := by decide +kernel
theorem s158_48 {l0 : Nat} {l1 : Int} {l2 : Int} {l3 : Int} : WP m158 48 [.inr (.inl l0), .inl l1, .inl l2, .inl l3] [] σ Q = WP m158 49 [.inr (.inl l0), .inl l1, .inl l2, .inl l3] [.inr (.inl l0)] σ Q := w_ld d158_48 rfl
theorem d158_49 : adec m158 49 = some (.iconst (0), 1) := by decide +kernel
theorem s158_49 {l0 : Nat} {l1 : Int} {l2 : Int} {l3 : Int} {x0 : Nat} : WP m158 49 [.inr (.inl l0), .inl l1, .inl l2, .inl l3] [.inr (.inl x0)] σ Q = WP m158 50 [.inr (.inl l0), .inl l1, .inl l2, .inl l3] [.inl (0), .inr (.inl x0)] σ Q := w_iconst d158_49 (by decide)
theorem d158_50 : adec m158 50 = some (.invokevirtual 168, 3) := by decide +kernel
theorem s158_50 {l0 : Nat} {l1 : Int} {l2 : Int} {l3 : Int} {x1 : Int} : WP m158 50 [.inr (.inl l0), .inl l1, .inl l2, .inl l3] [.inl x1, .inr (.inl 130)] σ Q = CA m134 [.inr (.inl 130), .inl x1] σ (fun v σ2 => WP m158 53 [.inr (.inl l0), .inl l1, .inl l2, .inl l3] (v ++ []) σ2 Q) := (w_cV (k := 134) d158_50 (by decide +kernel) m134_at rfl rfl ⟨Nat.le_of_ble_eq_true rfl, Nat.le_of_ble_eq_true rfl, Nat.le_of_ble_eq_true rfl⟩ (by decide)).trans (g_and (isO_dec (by decide +kernel)))
theorem d158_53 : adec m158 53 = some (.aload_n 0, 1) := by decide +kernel
theorem s158_53 {l0 : Nat} {l1 : Int} {l2 : Int} {l3 : Int} : WP m158 53 [.inr (.inl l0), .inl l1, .inl l2, .inl l3] [] σ Q = WP m158 54 [.inr (.inl l0), .inl l1, .inl l2, .inl l3] [.inr (.inl l0)] σ Q := w_ld d158_53 rfl
theorem d158_54 : adec m158 54 = some (.iload_n 2, 1) := by decide +kernel
theorem s158_54 {l0 : Nat} {l1 : Int} {l2 : Int} {l3 : Int} {x0 : Nat} : WP m158 54 [.inr (.inl l0), .inl l1, .inl l2, .inl l3] [.inr (.inl x0)] σ Q = WP m158 55 [.inr (.inl l0), .inl l1, .inl l2, .inl l3] [.inl l2, .inr (.inl x0)] σ Q := w_ld d158_54 rfl
theorem d158_55 : adec m158 55 = some (.invokevirtual 202, 3) := by decide +kernel
theorem s158_55 {l0 : Nat} {l1 : Int} {l2 : Int} {l3 : Int} {x1 : Int} : WP m158 55 [.inr (.inl l0), .inl l1, .inl l2, .inl l3] [.inl x1, .inr (.inl 130)] σ Q = CA m157 [.inr (.inl 130), .inl x1] σ (fun v σ2 => WP m158 58 [.inr (.inl l0), .inl l1, .inl l2, .inl l3] (v ++ []) σ2 Q) := (w_cV (k := 157) d158_55 (by decide +kernel) m157_at rfl rfl ⟨Nat.le_of_ble_eq_true rfl, Nat.le_of_ble_eq_true rfl, Nat.le_of_ble_eq_true rfl⟩ (by decide)).trans (g_and (isO_dec (by decide +kernel)))
theorem d158_58 : adec m158 58 = some (.aload_n 0, 1) := by decide +kernel
theorem s158_58 {l0 : Nat} {l1 : Int} {l2 : Int} {l3 : Int} : WP m158 58 [.inr (.inl l0), .inl l1, .inl l2, .inl l3] [] σ Q = WP m158 59 [.inr (.inl l0), .inl l1, .inl l2, .inl l3] [.inr (.inl l0)] σ Q := w_ld d158_58 rfl
theorem d158_59 : adec m158 59 = some (.iload_n 3, 1) := by decide +kernel
theorem s158_59 {l0 : Nat} {l1 : Int} {l2 : Int} {l3 : Int} {x0 : Nat} : WP m158 59 [.inr (.inl l0), .inl l1, .inl l2, .inl l3] [.inr (.inl x0)] σ Q = WP m158 60 [.inr (.inl l0), .inl l1, .inl l2, .inl l3] [.inl l3, .inr (.inl x0)] σ Q := w_ld d158_59 rfl
theorem d158_60 : adec m158 60 = some (.invokevirtual 202, 3) := by decide +kernel
theorem s158_60 {l0 : Nat} {l1 : Int} {l2 : Int} {l3 : Int} {x1 : Int} : WP m158 60 [.inr (.inl l0), .inl l1, .inl l2, .inl l3] [.inl x1, .inr (.inl 130)] σ Q = CA m157 [.inr (.inl 130), .inl x1] σ (fun v σ2 => WP m158 63 [.inr (.inl l0), .inl l1, .inl l2, .inl l3] (v ++ []) σ2 Q) := (w_cV (k := 157) d158_60 (by decide +kernel) m157_at rfl rfl ⟨Nat.le_of_ble_eq_true rfl, Nat.le_of_ble_eq_true rfl, Nat.le_of_ble_eq_true rfl⟩ (by decide)).trans (g_and (isO_dec (by decide +kernel)))
theorem d158_63 : adec m158 63 = some (.aload_n 0, 1) := by decide +kernel
theorem s158_63 {l0 : Nat} {l1 : Int} {l2 : Int} {l3 : Int} : WP m158 63 [.inr (.inl l0), .inl l1, .inl l2, .inl l3] [] σ Q = WP m158 64 [.inr (.inl l0), .inl l1, .inl l2, .inl l3] [.inr (.inl l0)] σ Q := w_ld d158_63 rfl
theorem d158_64 : adec m158 64 = some (.invokevirtual 192, 3) := by decide +kernel
theorem s158_64 {l0 : Nat} {l1 : Int} {l2 : Int} {l3 : Int} : WP m158 64 [.inr (.inl l0), .inl l1, .inl l2, .inl l3] [.inr (.inl 130)] σ Q = CA m139 [.inr (.inl 130)] σ (fun v σ2 => WP m158 67 [.inr (.inl l0), .inl l1, .inl l2, .inl l3] (v ++ []) σ2 Q) := (w_cV (k := 139) d158_64 (by decide +kernel) m139_at rfl rfl ⟨Nat.le_of_ble_eq_true rfl, Nat.le_of_ble_eq_true rfl, Nat.le_of_ble_eq_true rfl⟩ (by decide)).trans (g_and (isO_dec (by decide +kernel)))
theorem d158_67 : adec m158 67 = some (.aload_n 0, 1) := by decide +kernel
theorem s158_67 {l0 : Nat} {l1 : Int} {l2 : Int} {l3 : Int} : WP m158 67 [.inr (.inl l0), .inl l1, .inl l2, .inl l3] [] σ Q = WP m158 68 [.inr (.inl l0), .inl l1, .inl l2, .inl l3] [.inr (.inl l0)] σ Q := w_ld d158_67 rfl
theorem d158_68 : adec m158 68 = some (.iload_n 1, 1) := by decide +kernel
theorem s158_68 {l0 : Nat} {l1 : Int} {l2 : Int} {l3 : Int} {x0 : Nat} : WP m158 68 [.inr (.inl l0), .inl l1, .inl l2, .inl l3] [.inr (.inl x0)] σ Q = WP m158 69 [.inr (.inl l0), .inl l1, .inl l2, .inl l3] [.inl l1, .inr (.inl x0)] σ Q := w_ld d158_68 rfl
theorem d158_69 : adec m158 69 = some (.invokevirtual 159, 3) := by decide +kernel
theorem s158_69 {l0 : Nat} {l1 : Int} {l2 : Int} {l3 : Int} {x1 : Int} : WP m158 69 [.inr (.inl l0), .inl l1, .inl l2, .inl l3] [.inl x1, .inr (.inl 130)] σ Q = CA m138 [.inr (.inl 130), .inl x1] σ (fun v σ2 => WP m158 72 [.inr (.inl l0), .inl l1, .inl l2, .inl l3] (v ++ []) σ2 Q) := (w_cV (k := 138) d158_69 (by decide +kernel) m138_at rfl rfl ⟨Nat.le_of_ble_eq_true rfl, Nat.le_of_ble_eq_true rfl, Nat.le_of_ble_eq_true rfl⟩ (by decide)).trans (g_and (isO_dec (by decide +kernel)))
theorem d158_72 : adec m158 72 = some (.ireturn, 1) := by decide +kernel
theorem s158_72 {l0 : Nat} {l1 : Int} {l2 : Int} {l3 : Int} {x0 : Int} : WP m158 72 [.inr (.inl l0), .inl l1, .inl l2, .inl l3] [.inl x0] σ Q = Q [.inl x0] σ := w_ri d158_72 rfl
theorem e158 {p0 : Nat} {p1 : Int} {p2 : Int} {p3 : Int} : CA m158 [.inr (.inl p0), .inl p1, .inl p2, .inl p3] σ Q = WP m158 0 [.inr (.inl p0), .inl p1, .inl p2, .inl p3] [] σ Q := rfl
-- BinderPressModel.hasBinders(I)Z
theorem d159_0 : adec m159 0 = some (.iconst (0), 1) := by decide +kernel
theorem s159_0 {l0 : Nat} {l1 : Int} {l2 : AV} {l3 : AV} : WP m159 0 [.inr (.inl l0), .inl l1, l2, l3] [] σ Q = WP m159 1 [.inr (.inl l0), .inl l1, l2, l3] [.inl (0)] σ Q := w_iconst d159_0 (by decide)
theorem d159_1 : adec m159 1 = some (.istore_n 2, 1) := by decide +kernel
theorem s159_1 {l0 : Nat} {l1 : Int} {l2 : AV} {l3 : AV} {x0 : Int} : WP m159 1 [.inr (.inl l0), .inl l1, l2, l3] [.inl x0] σ Q = WP m159 2 [.inr (.inl l0), .inl l1, .inl x0, l3] [] σ Q := w_st1 (j := 2) d159_1 rfl (Nat.le_of_ble_eq_true rfl) rfl
theorem d159_2 : adec m159 2 = some (.iconst (0), 1) := by decide +kernel
theorem s159_2 {l0 : Nat} {l1 : Int} {l2 : Int} {l3 : AV} : WP m159 2 [.inr (.inl l0), .inl l1, .inl l2, l3] [] σ Q = WP m159 3 [.inr (.inl l0), .inl l1, .inl l2, l3] [.inl (0)] σ Q := w_iconst d159_2 (by decide)
theorem d159_3 : adec m159 3 = some (.istore_n 3, 1) := by decide +kernel
theorem s159_3 {l0 : Nat} {l1 : Int} {l2 : Int} {l3 : AV} {x0 : Int} : WP m159 3 [.inr (.inl l0), .inl l1, .inl l2, l3] [.inl x0] σ Q = WP m159 4 [.inr (.inl l0), .inl l1, .inl l2, .inl x0] [] σ Q := w_st1 (j := 3) d159_3 rfl (Nat.le_of_ble_eq_true rfl) rfl
theorem d159_4 : adec m159 4 = some (.iload_n 3, 1) := by decide +kernel
theorem s159_4 {l0 : Nat} {l1 : Int} {l2 : Int} {l3 : Int} : WP m159 4 [.inr (.inl l0), .inl l1, .inl l2, .inl l3] [] σ Q = WP m159 5 [.inr (.inl l0), .inl l1, .inl l2, .inl l3] [.inl l3] σ Q := w_ld d159_4 rfl
theorem d159_5 : adec m159 5 = some (.aload_n 0, 1) := by decide +kernel
theorem s159_5 {l0 : Nat} {l1 : Int} {l2 : Int} {l3 : Int} {x0 : Int} : WP m159 5 [.inr (.inl l0), .inl l1, .inl l2, .inl l3] [.inl x0] σ Q = WP m159 6 [.inr (.inl l0), .inl l1, .inl l2, .inl l3] [.inr (.inl l0), .inl x0] σ Q := w_ld d159_5 rfl
theorem d159_6 : adec m159 6 = some (.iload_n 1, 1) := by decide +kernel
theorem s159_6 {l0 : Nat} {l1 : Int} {l2 : Int} {l3 : Int} {x0 : Int} {x1 : Nat} : WP m159 6 [.inr (.inl l0), .inl l1, .inl l2, .inl l3] [.inr (.inl x1), .inl x0] σ Q = WP m159 7 [.inr (.inl l0), .inl l1, .inl l2, .inl l3] [.inl l1, .inr (.inl x1), .inl x0] σ Q := w_ld d159_6 rfl
theorem d159_7 : adec m159 7 = some (.invokevirtual 100, 3) := by decide +kernel
theorem s159_7 {l0 : Nat} {l1 : Int} {l2 : Int} {l3 : Int} {x0 : Int} {x2 : Int} : WP m159 7 [.inr (.inl l0), .inl l1, .inl l2, .inl l3] [.inl x2, .inr (.inl 130), .inl x0] σ Q = CA m131 [.inr (.inl 130), .inl x2] σ (fun v σ2 => WP m159 10 [.inr (.inl l0), .inl l1, .inl l2, .inl l3] (v ++ [.inl x0]) σ2 Q) := (w_cV (k := 131) d159_7 (by decide +kernel) m131_at rfl rfl ⟨Nat.le_of_ble_eq_true rfl, Nat.le_of_ble_eq_true rfl, Nat.le_of_ble_eq_true rfl⟩ (by decide)).trans (g_and (isO_dec (by decide +kernel)))
theorem d159_10 : adec m159 10 = some (.if_icmp .ge (38), 3) := by decide +kernel
theorem s159_10 {l0 : Nat} {l1 : Int} {l2 : Int} {l3 : Int} {x0 : Int} {x1 : Int} : WP m159 10 [.inr (.inl l0), .inl l1, .inl l2, .inl l3] [.inl x1, .inl x0] σ Q = (if x1 ≤ x0 then WP m159 48 [.inr (.inl l0), .inl l1, .inl l2, .inl l3] [] σ Q else WP m159 13 [.inr (.inl l0), .inl l1, .inl l2, .inl l3] [] σ Q) := w_icge d159_10 (by decide)
theorem d159_13 : adec m159 13 = some (.iload_n 2, 1) := by decide +kernel
theorem s159_13 {l0 : Nat} {l1 : Int} {l2 : Int} {l3 : Int} : WP m159 13 [.inr (.inl l0), .inl l1, .inl l2, .inl l3] [] σ Q = WP m159 14 [.inr (.inl l0), .inl l1, .inl l2, .inl l3] [.inl l2] σ Q := w_ld d159_13 rfl
theorem d159_14 : adec m159 14 = some (.ifCond .ne (22), 3) := by decide +kernel
theorem s159_14 {l0 : Nat} {l1 : Int} {l2 : Int} {l3 : Int} {x0 : Int} : WP m159 14 [.inr (.inl l0), .inl l1, .inl l2, .inl l3] [.inl x0] σ Q = (if x0 = 0 then WP m159 17 [.inr (.inl l0), .inl l1, .inl l2, .inl l3] [] σ Q else WP m159 36 [.inr (.inl l0), .inl l1, .inl l2, .inl l3] [] σ Q) := w_ifne d159_14 (by decide)
theorem d159_17 : adec m159 17 = some (.aload_n 0, 1) := by decide +kernel
theorem s159_17 {l0 : Nat} {l1 : Int} {l2 : Int} {l3 : Int} : WP m159 17 [.inr (.inl l0), .inl l1, .inl l2, .inl l3] [] σ Q = WP m159 18 [.inr (.inl l0), .inl l1, .inl l2, .inl l3] [.inr (.inl l0)] σ Q := w_ld d159_17 rfl
theorem d159_18 : adec m159 18 = some (.getfield 7, 3) := by decide +kernel
theorem s159_18 {l0 : Nat} {l1 : Int} {l2 : Int} {l3 : Int} : WP m159 18 [.inr (.inl l0), .inl l1, .inl l2, .inl l3] [.inr (.inl 130)] σ Q = WP m159 21 [.inr (.inl l0), .inl l1, .inl l2, .inl l3] [.inr (.inl 131)] σ Q := (w_getR (c := 10) (n := 0) d159_18 (by decide +kernel) (by decide +kernel)).trans (g_and ⟨isO_dec (by decide +kernel), by decide +kernel⟩)
theorem d159_21 : adec m159 21 = some (.bipush (121), 2) := by decide +kernel
theorem s159_21 {l0 : Nat} {l1 : Int} {l2 : Int} {l3 : Int} {x0 : Nat} : WP m159 21 [.inr (.inl l0), .inl l1, .inl l2, .inl l3] [.inr (.inl x0)] σ Q = WP m159 23 [.inr (.inl l0), .inl l1, .inl l2, .inl l3] [.inl (121), .inr (.inl x0)] σ Q := w_bipush d159_21 (by decide)
theorem d159_23 : adec m159 23 = some (.iload_n 1, 1) := by decide +kernel
theorem s159_23 {l0 : Nat} {l1 : Int} {l2 : Int} {l3 : Int} {x0 : Nat} {x1 : Int} : WP m159 23 [.inr (.inl l0), .inl l1, .inl l2, .inl l3] [.inl x1, .inr (.inl x0)] σ Q = WP m159 24 [.inr (.inl l0), .inl l1, .inl l2, .inl l3] [.inl l1, .inl x1, .inr (.inl x0)] σ Q := w_ld d159_23 rfl
theorem d159_24 : adec m159 24 = some (.imul, 1) := by decide +kernel
theorem s159_24 {l0 : Nat} {l1 : Int} {l2 : Int} {l3 : Int} {x0 : Nat} {x1 : Int} {x2 : Int} : WP m159 24 [.inr (.inl l0), .inl l1, .inl l2, .inl l3] [.inl x2, .inl x1, .inr (.inl x0)] σ Q = (inI (x1 * x2) ∧ WP m159 25 [.inr (.inl l0), .inl l1, .inl l2, .inl l3] [.inl (x1 * x2), .inr (.inl x0)] σ Q) := w_imul d159_24
theorem d159_25 : adec m159 25 = some (.iconst (1), 1) := by decide +kernel
theorem s159_25 {l0 : Nat} {l1 : Int} {l2 : Int} {l3 : Int} {x0 : Nat} {x1 : Int} : WP m159 25 [.inr (.inl l0), .inl l1, .inl l2, .inl l3] [.inl x1, .inr (.inl x0)] σ Q = WP m159 26 [.inr (.inl l0), .inl l1, .inl l2, .inl l3] [.inl (1), .inl x1, .inr (.inl x0)] σ Q := w_iconst d159_25 (by decide)
theorem d159_26 : adec m159 26 = some (.iadd, 1) := by decide +kernel
theorem s159_26 {l0 : Nat} {l1 : Int} {l2 : Int} {l3 : Int} {x0 : Nat} {x1 : Int} {x2 : Int} : WP m159 26 [.inr (.inl l0), .inl l1, .inl l2, .inl l3] [.inl x2, .inl x1, .inr (.inl x0)] σ Q = (inI (x1 + x2) ∧ WP m159 27 [.inr (.inl l0), .inl l1, .inl l2, .inl l3] [.inl (x1 + x2), .inr (.inl x0)] σ Q) := w_iadd d159_26
theorem d159_27 : adec m159 27 = some (.iload_n 3, 1) := by decide +kernel
theorem s159_27 {l0 : Nat} {l1 : Int} {l2 : Int} {l3 : Int} {x0 : Nat} {x1 : Int} : WP m159 27 [.inr (.inl l0), .inl l1, .inl l2, .inl l3] [.inl x1, .inr (.inl x0)] σ Q = WP m159 28 [.inr (.inl l0), .inl l1, .inl l2, .inl l3] [.inl l3, .inl x1, .inr (.inl x0)] σ Q := w_ld d159_27 rfl
theorem d159_28 : adec m159 28 = some (.iadd, 1) := by decide +kernel
theorem s159_28 {l0 : Nat} {l1 : Int} {l2 : Int} {l3 : Int} {x0 : Nat} {x1 : Int} {x2 : Int} : WP m159 28 [.inr (.inl l0), .inl l1, .inl l2, .inl l3] [.inl x2, .inl x1, .inr (.inl x0)] σ Q = (inI (x1 + x2) ∧ WP m159 29 [.inr (.inl l0), .inl l1, .inl l2, .inl l3] [.inl (x1 + x2), .inr (.inl x0)] σ Q) := w_iadd d159_28
theorem d159_29 : adec m159 29 = some (.iaload, 1) := by decide +kernel
theorem s159_29 {l0 : Nat} {l1 : Int} {l2 : Int} {l3 : Int} {x0 : Nat} {x1 : Int} : WP m159 29 [.inr (.inl l0), .inl l1, .inl l2, .inl l3] [.inl x1, .inr (.inl x0)] σ Q = ((kdS x0 = 20 ∧ 0 ≤ x1 ∧ x1 < ln x0) ∧ WP m159 30 [.inr (.inl l0), .inl l1, .inl l2, .inl l3] [.inl (σ x0 x1.toNat)] σ Q) := w_iald d159_29
theorem d159_30 : adec m159 30 = some (.invokestatic 162, 3) := by decide +kernel
theorem s159_30 {l0 : Nat} {l1 : Int} {l2 : Int} {l3 : Int} {x0 : Int} : WP m159 30 [.inr (.inl l0), .inl l1, .inl l2, .inl l3] [.inl x0] σ Q = CA m129 [.inl x0] σ (fun v σ2 => WP m159 33 [.inr (.inl l0), .inl l1, .inl l2, .inl l3] (v ++ []) σ2 Q) := w_cS (k := 129) d159_30 (by decide +kernel) (md := 1) (by decide +kernel) m129_at rfl rfl ⟨Nat.le_of_ble_eq_true rfl, Nat.le_of_ble_eq_true rfl, Nat.le_of_ble_eq_true rfl⟩ (by decide)
theorem d159_33 : adec m159 33 = some (.ifCond .eq (7), 3) := by decide +kernel
theorem s159_33 {l0 : Nat} {l1 : Int} {l2 : Int} {l3 : Int} {x0 : Int} : WP m159 33 [.inr (.inl l0), .inl l1, .inl l2, .inl l3] [.inl x0] σ Q = (if x0 = 0 then WP m159 40 [.inr (.inl l0), .inl l1, .inl l2, .inl l3] [] σ Q else WP m159 36 [.inr (.inl l0), .inl l1, .inl l2, .inl l3] [] σ Q) := w_ifeq d159_33 (by decide)
theorem d159_36 : adec m159 36 = some (.iconst (1), 1) := by decide +kernel
theorem s159_36 {l0 : Nat} {l1 : Int} {l2 : Int} {l3 : Int} : WP m159 36 [.inr (.inl l0), .inl l1, .inl l2, .inl l3] [] σ Q = WP m159 37 [.inr (.inl l0), .inl l1, .inl l2, .inl l3] [.inl (1)] σ Q := w_iconst d159_36 (by decide)
theorem d159_37 : adec m159 37 = some (.goto (4), 3) := by decide +kernel
theorem s159_37 {l0 : Nat} {l1 : Int} {l2 : Int} {l3 : Int} {x0 : Int} : WP m159 37 [.inr (.inl l0), .inl l1, .inl l2, .inl l3] [.inl x0] σ Q = WP m159 41 [.inr (.inl l0), .inl l1, .inl l2, .inl l3] [.inl x0] σ Q := w_goto d159_37 (by decide)
theorem d159_40 : adec m159 40 = some (.iconst (0), 1) := by decide +kernel
theorem s159_40 {l0 : Nat} {l1 : Int} {l2 : Int} {l3 : Int} : WP m159 40 [.inr (.inl l0), .inl l1, .inl l2, .inl l3] [] σ Q = WP m159 41 [.inr (.inl l0), .inl l1, .inl l2, .inl l3] [.inl (0)] σ Q := w_iconst d159_40 (by decide)
theorem d159_41 : adec m159 41 = some (.istore_n 2, 1) := by decide +kernel
theorem s159_41 {l0 : Nat} {l1 : Int} {l2 : Int} {l3 : Int} {x0 : Int} : WP m159 41 [.inr (.inl l0), .inl l1, .inl l2, .inl l3] [.inl x0] σ Q = WP m159 42 [.inr (.inl l0), .inl l1, .inl x0, .inl l3] [] σ Q := w_st1 (j := 2) d159_41 rfl (Nat.le_of_ble_eq_true rfl) rfl
theorem d159_42 : adec m159 42 = some (.iinc 3 (1), 3) := by decide +kernel
theorem s159_42 {l0 : Nat} {l1 : Int} {l2 : Int} {l3 : Int} : WP m159 42 [.inr (.inl l0), .inl l1, .inl l2, .inl l3] [] σ Q = (inI (l3 + (1)) ∧ WP m159 45 [.inr (.inl l0), .inl l1, .inl l2, .inl (l3 + (1))] [] σ Q) := w_iinc d159_42 rfl rfl
theorem d159_45 : adec m159 45 = some (.goto (-41), 3) := by decide +kernel
theorem s159_45 {l0 : Nat} {l1 : Int} {l2 : Int} {l3 : Int} : WP m159 45 [.inr (.inl l0), .inl l1, .inl l2, .inl l3] [] σ Q = WP m159 4 [.inr (.inl l0), .inl l1, .inl l2, .inl l3] [] σ Q := w_goto d159_45 (by decide)
theorem d159_48 : adec m159 48 = some (.iload_n 2, 1) := by decide +kernel
theorem s159_48 {l0 : Nat} {l1 : Int} {l2 : Int} {l3 : Int} : WP m159 48 [.inr (.inl l0), .inl l1, .inl l2, .inl l3] [] σ Q = WP m159 49 [.inr (.inl l0), .inl l1, .inl l2, .inl l3] [.inl l2] σ Q := w_ld d159_48 rfl
theorem d159_49 : adec m159 49 = some (.ireturn, 1) := by decide +kernel
theorem s159_49 {l0 : Nat} {l1 : Int} {l2 : Int} {l3 : Int} {x0 : Int} : WP m159 49 [.inr (.inl l0), .inl l1, .inl l2, .inl l3] [.inl x0] σ Q = ((x0 = 0 ∨ x0 = 1) ∧ Q [.inl x0] σ) := w_rz d159_49 rfl
theorem e159 {p0 : Nat} {p1 : Int} : CA m159 [.inr (.inl p0), .inl p1] σ Q = WP m159 0 [.inr (.inl p0), .inl p1, vU, vU] [] σ Q := rfl
-- BinderPressModel.isPlain(I)Z
theorem d160_0 : adec m160 0 = some (.aload_n 0, 1) := by decide +kernel
theorem s160_0 {l0 : Nat} {l1 : Int} : WP m160 0 [.inr (.inl l0), .inl l1] [] σ Q = WP m160 1 [.inr (.inl l0), .inl l1] [.inr (.inl l0)] σ Q := w_ld d160_0 rfl
theorem d160_1 : adec m160 1 = some (.iload_n 1, 1) := by decide +kernel
theorem s160_1 {l0 : Nat} {l1 : Int} {x0 : Nat} : WP m160 1 [.inr (.inl l0), .inl l1] [.inr (.inl x0)] σ Q = WP m160 2 [.inr (.inl l0), .inl l1] [.inl l1, .inr (.inl x0)] σ Q := w_ld d160_1 rfl
theorem d160_2 : adec m160 2 = some (.invokevirtual 100, 3) := by decide +kernel
theorem s160_2 {l0 : Nat} {l1 : Int} {x1 : Int} : WP m160 2 [.inr (.inl l0), .inl l1] [.inl x1, .inr (.inl 130)] σ Q = CA m131 [.inr (.inl 130), .inl x1] σ (fun v σ2 => WP m160 5 [.inr (.inl l0), .inl l1] (v ++ []) σ2 Q) := (w_cV (k := 131) d160_2 (by decide +kernel) m131_at rfl rfl ⟨Nat.le_of_ble_eq_true rfl, Nat.le_of_ble_eq_true rfl, Nat.le_of_ble_eq_true rfl⟩ (by decide)).trans (g_and (isO_dec (by decide +kernel)))
theorem d160_5 : adec m160 5 = some (.ifCond .le (15), 3) := by decide +kernel
theorem s160_5 {l0 : Nat} {l1 : Int} {x0 : Int} : WP m160 5 [.inr (.inl l0), .inl l1] [.inl x0] σ Q = (if x0 ≤ 0 then WP m160 20 [.inr (.inl l0), .inl l1] [] σ Q else WP m160 8 [.inr (.inl l0), .inl l1] [] σ Q) := w_ifle d160_5 (by decide)
theorem d160_8 : adec m160 8 = some (.aload_n 0, 1) := by decide +kernel
theorem s160_8 {l0 : Nat} {l1 : Int} : WP m160 8 [.inr (.inl l0), .inl l1] [] σ Q = WP m160 9 [.inr (.inl l0), .inl l1] [.inr (.inl l0)] σ Q := w_ld d160_8 rfl
theorem d160_9 : adec m160 9 = some (.iload_n 1, 1) := by decide +kernel
theorem s160_9 {l0 : Nat} {l1 : Int} {x0 : Nat} : WP m160 9 [.inr (.inl l0), .inl l1] [.inr (.inl x0)] σ Q = WP m160 10 [.inr (.inl l0), .inl l1] [.inl l1, .inr (.inl x0)] σ Q := w_ld d160_9 rfl
theorem d160_10 : adec m160 10 = some (.invokevirtual 205, 3) := by decide +kernel
theorem s160_10 {l0 : Nat} {l1 : Int} {x1 : Int} : WP m160 10 [.inr (.inl l0), .inl l1] [.inl x1, .inr (.inl 130)] σ Q = CA m159 [.inr (.inl 130), .inl x1] σ (fun v σ2 => WP m160 13 [.inr (.inl l0), .inl l1] (v ++ []) σ2 Q) := (w_cV (k := 159) d160_10 (by decide +kernel) m159_at rfl rfl ⟨Nat.le_of_ble_eq_true rfl, Nat.le_of_ble_eq_true rfl, Nat.le_of_ble_eq_true rfl⟩ (by decide)).trans (g_and (isO_dec (by decide +kernel)))
theorem d160_13 : adec m160 13 = some (.ifCond .ne (7), 3) := by decide +kernel
theorem s160_13 {l0 : Nat} {l1 : Int} {x0 : Int} : WP m160 13 [.inr (.inl l0), .inl l1] [.inl x0] σ Q = (if x0 = 0 then WP m160 16 [.inr (.inl l0), .inl l1] [] σ Q else WP m160 20 [.inr (.inl l0), .inl l1] [] σ Q) := w_ifne d160_13 (by decide)
theorem d160_16 : adec m160 16 = some (.iconst (1), 1) := by decide +kernel
theorem s160_16 {l0 : Nat} {l1 : Int} : WP m160 16 [.inr (.inl l0), .inl l1] [] σ Q = WP m160 17 [.inr (.inl l0), .inl l1] [.inl (1)] σ Q := w_iconst d160_16 (by decide)
theorem d160_17 : adec m160 17 = some (.goto (4), 3) := by decide +kernel
theorem s160_17 {l0 : Nat} {l1 : Int} {x0 : Int} : WP m160 17 [.inr (.inl l0), .inl l1] [.inl x0] σ Q = WP m160 21 [.inr (.inl l0), .inl l1] [.inl x0] σ Q := w_goto d160_17 (by decide)
theorem d160_20 : adec m160 20 = some (.iconst (0), 1) := by decide +kernel
theorem s160_20 {l0 : Nat} {l1 : Int} : WP m160 20 [.inr (.inl l0), .inl l1] [] σ Q = WP m160 21 [.inr (.inl l0), .inl l1] [.inl (0)] σ Q := w_iconst d160_20 (by decide)
theorem d160_21 : adec m160 21 = some (.ireturn, 1) := by decide +kernel
theorem s160_21 {l0 : Nat} {l1 : Int} {x0 : Int} : WP m160 21 [.inr (.inl l0), .inl l1] [.inl x0] σ Q = ((x0 = 0 ∨ x0 = 1) ∧ Q [.inl x0] σ) := w_rz d160_21 rfl
theorem e160 {p0 : Nat} {p1 : Int} : CA m160 [.inr (.inl p0), .inl p1] σ Q = WP m160 0 [.inr (.inl p0), .inl p1] [] σ Q := rfl
-- BinderPressModel.putIn(III)I
theorem d161_0 : adec m161 0 = some (.iload_n 1, 1) := by decide +kernel
theorem s161_0 {l0 : Nat} {l1 : Int} {l2 : Int} {l3 : Int} {l4 : AV} : WP m161 0 [.inr (.inl l0), .inl l1, .inl l2, .inl l3, l4] [] σ Q = WP m161 1 [.inr (.inl l0), .inl l1, .inl l2, .inl l3, l4] [.inl l1] σ Q := w_ld d161_0 rfl
theorem d161_1 : adec m161 1 = some (.invokestatic 152, 3) := by decide +kernel
theorem s161_1 {l0 : Nat} {l1 : Int} {l2 : Int} {l3 : Int} {l4 : AV} {x0 : Int} : WP m161 1 [.inr (.inl l0), .inl l1, .inl l2, .inl l3, l4] [.inl x0] σ Q = CA m130 [.inl x0] σ (fun v σ2 => WP m161 4 [.inr (.inl l0), .inl l1, .inl l2, .inl l3, l4] (v ++ []) σ2 Q) := w_cS (k := 130) d161_1 (by decide +kernel) (md := 1) (by decide +kernel) m130_at rfl rfl ⟨Nat.le_of_ble_eq_true rfl, Nat.le_of_ble_eq_true rfl, Nat.le_of_ble_eq_true rfl⟩ (by decide)
theorem d161_4 : adec m161 4 = some (.ifCond .eq (10), 3) := by decide +kernel
theorem s161_4 {l0 : Nat} {l1 : Int} {l2 : Int} {l3 : Int} {l4 : AV} {x0 : Int} : WP m161 4 [.inr (.inl l0), .inl l1, .inl l2, .inl l3, l4] [.inl x0] σ Q = (if x0 = 0 then WP m161 14 [.inr (.inl l0), .inl l1, .inl l2, .inl l3, l4] [] σ Q else WP m161 7 [.inr (.inl l0), .inl l1, .inl l2, .inl l3, l4] [] σ Q) := w_ifeq d161_4 (by decide)
theorem d161_7 : adec m161 7 = some (.iload_n 3, 1) := by decide +kernel
theorem s161_7 {l0 : Nat} {l1 : Int} {l2 : Int} {l3 : Int} {l4 : AV} : WP m161 7 [.inr (.inl l0), .inl l1, .inl l2, .inl l3, l4] [] σ Q = WP m161 8 [.inr (.inl l0), .inl l1, .inl l2, .inl l3, l4] [.inl l3] σ Q := w_ld d161_7 rfl
theorem d161_8 : adec m161 8 = some (.invokestatic 152, 3) := by decide +kernel
theorem s161_8 {l0 : Nat} {l1 : Int} {l2 : Int} {l3 : Int} {l4 : AV} {x0 : Int} : WP m161 8 [.inr (.inl l0), .inl l1, .inl l2, .inl l3, l4] [.inl x0] σ Q = CA m130 [.inl x0] σ (fun v σ2 => WP m161 11 [.inr (.inl l0), .inl l1, .inl l2, .inl l3, l4] (v ++ []) σ2 Q) := w_cS (k := 130) d161_8 (by decide +kernel) (md := 1) (by decide +kernel) m130_at rfl rfl ⟨Nat.le_of_ble_eq_true rfl, Nat.le_of_ble_eq_true rfl, Nat.le_of_ble_eq_true rfl⟩ (by decide)
theorem d161_11 : adec m161 11 = some (.ifCond .ne (6), 3) := by decide +kernel
theorem s161_11 {l0 : Nat} {l1 : Int} {l2 : Int} {l3 : Int} {l4 : AV} {x0 : Int} : WP m161 11 [.inr (.inl l0), .inl l1, .inl l2, .inl l3, l4] [.inl x0] σ Q = (if x0 = 0 then WP m161 14 [.inr (.inl l0), .inl l1, .inl l2, .inl l3, l4] [] σ Q else WP m161 17 [.inr (.inl l0), .inl l1, .inl l2, .inl l3, l4] [] σ Q) := w_ifne d161_11 (by decide)
theorem d161_14 : adec m161 14 = some (.ldc 155, 2) := by decide +kernel
theorem s161_14 {l0 : Nat} {l1 : Int} {l2 : Int} {l3 : Int} {l4 : AV} : WP m161 14 [.inr (.inl l0), .inl l1, .inl l2, .inl l3, l4] [] σ Q = WP m161 16 [.inr (.inl l0), .inl l1, .inl l2, .inl l3, l4] [.inl (-1000000001)] σ Q := w_ldc d161_14 (by decide +kernel) (by decide)
theorem d161_16 : adec m161 16 = some (.ireturn, 1) := by decide +kernel
theorem s161_16 {l0 : Nat} {l1 : Int} {l2 : Int} {l3 : Int} {l4 : AV} {x0 : Int} : WP m161 16 [.inr (.inl l0), .inl l1, .inl l2, .inl l3, l4] [.inl x0] σ Q = Q [.inl x0] σ := w_ri d161_16 rfl
theorem d161_17 : adec m161 17 = some (.iload_n 2, 1) := by decide +kernel
theorem s161_17 {l0 : Nat} {l1 : Int} {l2 : Int} {l3 : Int} {l4 : AV} : WP m161 17 [.inr (.inl l0), .inl l1, .inl l2, .inl l3, l4] [] σ Q = WP m161 18 [.inr (.inl l0), .inl l1, .inl l2, .inl l3, l4] [.inl l2] σ Q := w_ld d161_17 rfl
theorem d161_18 : adec m161 18 = some (.invokestatic 134, 3) := by decide +kernel
theorem s161_18 {l0 : Nat} {l1 : Int} {l2 : Int} {l3 : Int} {l4 : AV} {x0 : Int} : WP m161 18 [.inr (.inl l0), .inl l1, .inl l2, .inl l3, l4] [.inl x0] σ Q = CA m128 [.inl x0] σ (fun v σ2 => WP m161 21 [.inr (.inl l0), .inl l1, .inl l2, .inl l3, l4] (v ++ []) σ2 Q) := w_cS (k := 128) d161_18 (by decide +kernel) (md := 1) (by decide +kernel) m128_at rfl rfl ⟨Nat.le_of_ble_eq_true rfl, Nat.le_of_ble_eq_true rfl, Nat.le_of_ble_eq_true rfl⟩ (by decide)
theorem d161_21 : adec m161 21 = some (.ifCond .ne (6), 3) := by decide +kernel
theorem s161_21 {l0 : Nat} {l1 : Int} {l2 : Int} {l3 : Int} {l4 : AV} {x0 : Int} : WP m161 21 [.inr (.inl l0), .inl l1, .inl l2, .inl l3, l4] [.inl x0] σ Q = (if x0 = 0 then WP m161 24 [.inr (.inl l0), .inl l1, .inl l2, .inl l3, l4] [] σ Q else WP m161 27 [.inr (.inl l0), .inl l1, .inl l2, .inl l3, l4] [] σ Q) := w_ifne d161_21 (by decide)
theorem d161_24 : adec m161 24 = some (.ldc 120, 2) := by decide +kernel
theorem s161_24 {l0 : Nat} {l1 : Int} {l2 : Int} {l3 : Int} {l4 : AV} : WP m161 24 [.inr (.inl l0), .inl l1, .inl l2, .inl l3, l4] [] σ Q = WP m161 26 [.inr (.inl l0), .inl l1, .inl l2, .inl l3, l4] [.inl (-1000000002)] σ Q := w_ldc d161_24 (by decide +kernel) (by decide)
theorem d161_26 : adec m161 26 = some (.ireturn, 1) := by decide +kernel
theorem s161_26 {l0 : Nat} {l1 : Int} {l2 : Int} {l3 : Int} {l4 : AV} {x0 : Int} : WP m161 26 [.inr (.inl l0), .inl l1, .inl l2, .inl l3, l4] [.inl x0] σ Q = Q [.inl x0] σ := w_ri d161_26 rfl
theorem d161_27 : adec m161 27 = some (.aload_n 0, 1) := by decide +kernel
theorem s161_27 {l0 : Nat} {l1 : Int} {l2 : Int} {l3 : Int} {l4 : AV} : WP m161 27 [.inr (.inl l0), .inl l1, .inl l2, .inl l3, l4] [] σ Q = WP m161 28 [.inr (.inl l0), .inl l1, .inl l2, .inl l3, l4] [.inr (.inl l0)] σ Q := w_ld d161_27 rfl
theorem d161_28 : adec m161 28 = some (.iload_n 1, 1) := by decide +kernel
theorem s161_28 {l0 : Nat} {l1 : Int} {l2 : Int} {l3 : Int} {l4 : AV} {x0 : Nat} : WP m161 28 [.inr (.inl l0), .inl l1, .inl l2, .inl l3, l4] [.inr (.inl x0)] σ Q = WP m161 29 [.inr (.inl l0), .inl l1, .inl l2, .inl l3, l4] [.inl l1, .inr (.inl x0)] σ Q := w_ld d161_28 rfl
theorem d161_29 : adec m161 29 = some (.invokevirtual 208, 3) := by decide +kernel
theorem s161_29 {l0 : Nat} {l1 : Int} {l2 : Int} {l3 : Int} {l4 : AV} {x1 : Int} : WP m161 29 [.inr (.inl l0), .inl l1, .inl l2, .inl l3, l4] [.inl x1, .inr (.inl 130)] σ Q = CA m160 [.inr (.inl 130), .inl x1] σ (fun v σ2 => WP m161 32 [.inr (.inl l0), .inl l1, .inl l2, .inl l3, l4] (v ++ []) σ2 Q) := (w_cV (k := 160) d161_29 (by decide +kernel) m160_at rfl rfl ⟨Nat.le_of_ble_eq_true rfl, Nat.le_of_ble_eq_true rfl, Nat.le_of_ble_eq_true rfl⟩ (by decide)).trans (g_and (isO_dec (by decide +kernel)))
theorem d161_32 : adec m161 32 = some (.ifCond .eq (11), 3) := by decide +kernel
theorem s161_32 {l0 : Nat} {l1 : Int} {l2 : Int} {l3 : Int} {l4 : AV} {x0 : Int} : WP m161 32 [.inr (.inl l0), .inl l1, .inl l2, .inl l3, l4] [.inl x0] σ Q = (if x0 = 0 then WP m161 43 [.inr (.inl l0), .inl l1, .inl l2, .inl l3, l4] [] σ Q else WP m161 35 [.inr (.inl l0), .inl l1, .inl l2, .inl l3, l4] [] σ Q) := w_ifeq d161_32 (by decide)
theorem d161_35 : adec m161 35 = some (.aload_n 0, 1) := by decide +kernel
theorem s161_35 {l0 : Nat} {l1 : Int} {l2 : Int} {l3 : Int} {l4 : AV} : WP m161 35 [.inr (.inl l0), .inl l1, .inl l2, .inl l3, l4] [] σ Q = WP m161 36 [.inr (.inl l0), .inl l1, .inl l2, .inl l3, l4] [.inr (.inl l0)] σ Q := w_ld d161_35 rfl
theorem d161_36 : adec m161 36 = some (.iload_n 3, 1) := by decide +kernel
theorem s161_36 {l0 : Nat} {l1 : Int} {l2 : Int} {l3 : Int} {l4 : AV} {x0 : Nat} : WP m161 36 [.inr (.inl l0), .inl l1, .inl l2, .inl l3, l4] [.inr (.inl x0)] σ Q = WP m161 37 [.inr (.inl l0), .inl l1, .inl l2, .inl l3, l4] [.inl l3, .inr (.inl x0)] σ Q := w_ld d161_36 rfl
theorem d161_37 : adec m161 37 = some (.invokevirtual 208, 3) := by decide +kernel
theorem s161_37 {l0 : Nat} {l1 : Int} {l2 : Int} {l3 : Int} {l4 : AV} {x1 : Int} : WP m161 37 [.inr (.inl l0), .inl l1, .inl l2, .inl l3, l4] [.inl x1, .inr (.inl 130)] σ Q = CA m160 [.inr (.inl 130), .inl x1] σ (fun v σ2 => WP m161 40 [.inr (.inl l0), .inl l1, .inl l2, .inl l3, l4] (v ++ []) σ2 Q) := (w_cV (k := 160) d161_37 (by decide +kernel) m160_at rfl rfl ⟨Nat.le_of_ble_eq_true rfl, Nat.le_of_ble_eq_true rfl, Nat.le_of_ble_eq_true rfl⟩ (by decide)).trans (g_and (isO_dec (by decide +kernel)))
theorem d161_40 : adec m161 40 = some (.ifCond .ne (6), 3) := by decide +kernel
theorem s161_40 {l0 : Nat} {l1 : Int} {l2 : Int} {l3 : Int} {l4 : AV} {x0 : Int} : WP m161 40 [.inr (.inl l0), .inl l1, .inl l2, .inl l3, l4] [.inl x0] σ Q = (if x0 = 0 then WP m161 43 [.inr (.inl l0), .inl l1, .inl l2, .inl l3, l4] [] σ Q else WP m161 46 [.inr (.inl l0), .inl l1, .inl l2, .inl l3, l4] [] σ Q) := w_ifne d161_40 (by decide)
theorem d161_43 : adec m161 43 = some (.ldc 195, 2) := by decide +kernel
theorem s161_43 {l0 : Nat} {l1 : Int} {l2 : Int} {l3 : Int} {l4 : AV} : WP m161 43 [.inr (.inl l0), .inl l1, .inl l2, .inl l3, l4] [] σ Q = WP m161 45 [.inr (.inl l0), .inl l1, .inl l2, .inl l3, l4] [.inl (-1000000003)] σ Q := w_ldc d161_43 (by decide +kernel) (by decide)
theorem d161_45 : adec m161 45 = some (.ireturn, 1) := by decide +kernel
theorem s161_45 {l0 : Nat} {l1 : Int} {l2 : Int} {l3 : Int} {l4 : AV} {x0 : Int} : WP m161 45 [.inr (.inl l0), .inl l1, .inl l2, .inl l3, l4] [.inl x0] σ Q = Q [.inl x0] σ := w_ri d161_45 rfl
theorem d161_46 : adec m161 46 = some (.aload_n 0, 1) := by decide +kernel
theorem s161_46 {l0 : Nat} {l1 : Int} {l2 : Int} {l3 : Int} {l4 : AV} : WP m161 46 [.inr (.inl l0), .inl l1, .inl l2, .inl l3, l4] [] σ Q = WP m161 47 [.inr (.inl l0), .inl l1, .inl l2, .inl l3, l4] [.inr (.inl l0)] σ Q := w_ld d161_46 rfl
theorem d161_47 : adec m161 47 = some (.iload_n 1, 1) := by decide +kernel
theorem s161_47 {l0 : Nat} {l1 : Int} {l2 : Int} {l3 : Int} {l4 : AV} {x0 : Nat} : WP m161 47 [.inr (.inl l0), .inl l1, .inl l2, .inl l3, l4] [.inr (.inl x0)] σ Q = WP m161 48 [.inr (.inl l0), .inl l1, .inl l2, .inl l3, l4] [.inl l1, .inr (.inl x0)] σ Q := w_ld d161_47 rfl
theorem d161_48 : adec m161 48 = some (.invokevirtual 196, 3) := by decide +kernel
theorem s161_48 {l0 : Nat} {l1 : Int} {l2 : Int} {l3 : Int} {l4 : AV} {x1 : Int} : WP m161 48 [.inr (.inl l0), .inl l1, .inl l2, .inl l3, l4] [.inl x1, .inr (.inl 130)] σ Q = CA m136 [.inr (.inl 130), .inl x1] σ (fun v σ2 => WP m161 51 [.inr (.inl l0), .inl l1, .inl l2, .inl l3, l4] (v ++ []) σ2 Q) := (w_cV (k := 136) d161_48 (by decide +kernel) m136_at rfl rfl ⟨Nat.le_of_ble_eq_true rfl, Nat.le_of_ble_eq_true rfl, Nat.le_of_ble_eq_true rfl⟩ (by decide)).trans (g_and (isO_dec (by decide +kernel)))
theorem d161_51 : adec m161 51 = some (.aload_n 0, 1) := by decide +kernel
theorem s161_51 {l0 : Nat} {l1 : Int} {l2 : Int} {l3 : Int} {l4 : AV} : WP m161 51 [.inr (.inl l0), .inl l1, .inl l2, .inl l3, l4] [] σ Q = WP m161 52 [.inr (.inl l0), .inl l1, .inl l2, .inl l3, l4] [.inr (.inl l0)] σ Q := w_ld d161_51 rfl
theorem d161_52 : adec m161 52 = some (.iconst (0), 1) := by decide +kernel
theorem s161_52 {l0 : Nat} {l1 : Int} {l2 : Int} {l3 : Int} {l4 : AV} {x0 : Nat} : WP m161 52 [.inr (.inl l0), .inl l1, .inl l2, .inl l3, l4] [.inr (.inl x0)] σ Q = WP m161 53 [.inr (.inl l0), .inl l1, .inl l2, .inl l3, l4] [.inl (0), .inr (.inl x0)] σ Q := w_iconst d161_52 (by decide)
theorem d161_53 : adec m161 53 = some (.putfield 97, 3) := by decide +kernel
theorem s161_53 {l0 : Nat} {l1 : Int} {l2 : Int} {l3 : Int} {l4 : AV} {x1 : Int} : WP m161 53 [.inr (.inl l0), .inl l1, .inl l2, .inl l3, l4] [.inl x1, .inr (.inl 130)] σ Q = WP m161 56 [.inr (.inl l0), .inl l1, .inl l2, .inl l3, l4] [] (aup σ 130 9 x1) Q := (w_putI (c := 10) (n := 9) d161_53 (by decide +kernel) (by decide +kernel) (by decide +kernel)).trans (g_and (isO_dec (by decide +kernel)))
theorem d161_56 : adec m161 56 = some (.iconst (0), 1) := by decide +kernel
theorem s161_56 {l0 : Nat} {l1 : Int} {l2 : Int} {l3 : Int} {l4 : AV} : WP m161 56 [.inr (.inl l0), .inl l1, .inl l2, .inl l3, l4] [] σ Q = WP m161 57 [.inr (.inl l0), .inl l1, .inl l2, .inl l3, l4] [.inl (0)] σ Q := w_iconst d161_56 (by decide)
theorem d161_57 : adec m161 57 = some (.istore 4, 2) := by decide +kernel
theorem s161_57 {l0 : Nat} {l1 : Int} {l2 : Int} {l3 : Int} {l4 : AV} {x0 : Int} : WP m161 57 [.inr (.inl l0), .inl l1, .inl l2, .inl l3, l4] [.inl x0] σ Q = WP m161 59 [.inr (.inl l0), .inl l1, .inl l2, .inl l3, .inl x0] [] σ Q := w_st1 (j := 4) d161_57 rfl (Nat.le_of_ble_eq_true rfl) rfl
theorem d161_59 : adec m161 59 = some (.iload 4, 2) := by decide +kernel
theorem s161_59 {l0 : Nat} {l1 : Int} {l2 : Int} {l3 : Int} {l4 : Int} : WP m161 59 [.inr (.inl l0), .inl l1, .inl l2, .inl l3, .inl l4] [] σ Q = WP m161 61 [.inr (.inl l0), .inl l1, .inl l2, .inl l3, .inl l4] [.inl l4] σ Q := w_ld d161_59 rfl
theorem d161_61 : adec m161 61 = some (.aload_n 0, 1) := by decide +kernel
theorem s161_61 {l0 : Nat} {l1 : Int} {l2 : Int} {l3 : Int} {l4 : Int} {x0 : Int} : WP m161 61 [.inr (.inl l0), .inl l1, .inl l2, .inl l3, .inl l4] [.inl x0] σ Q = WP m161 62 [.inr (.inl l0), .inl l1, .inl l2, .inl l3, .inl l4] [.inr (.inl l0), .inl x0] σ Q := w_ld d161_61 rfl
theorem d161_62 : adec m161 62 = some (.getfield 104, 3) := by decide +kernel
theorem s161_62 {l0 : Nat} {l1 : Int} {l2 : Int} {l3 : Int} {l4 : Int} {x0 : Int} : WP m161 62 [.inr (.inl l0), .inl l1, .inl l2, .inl l3, .inl l4] [.inr (.inl 130), .inl x0] σ Q = WP m161 65 [.inr (.inl l0), .inl l1, .inl l2, .inl l3, .inl l4] [.inl (σ 130 7), .inl x0] σ Q := (w_getI (c := 10) (n := 7) d161_62 (by decide +kernel) (by decide +kernel)).trans (g_and (isO_dec (by decide +kernel)))
theorem d161_65 : adec m161 65 = some (.if_icmp .ge (48), 3) := by decide +kernel
theorem s161_65 {l0 : Nat} {l1 : Int} {l2 : Int} {l3 : Int} {l4 : Int} {x0 : Int} {x1 : Int} : WP m161 65 [.inr (.inl l0), .inl l1, .inl l2, .inl l3, .inl l4] [.inl x1, .inl x0] σ Q = (if x1 ≤ x0 then WP m161 113 [.inr (.inl l0), .inl l1, .inl l2, .inl l3, .inl l4] [] σ Q else WP m161 68 [.inr (.inl l0), .inl l1, .inl l2, .inl l3, .inl l4] [] σ Q) := w_icge d161_65 (by decide)
theorem d161_68 : adec m161 68 = some (.aload_n 0, 1) := by decide +kernel
theorem s161_68 {l0 : Nat} {l1 : Int} {l2 : Int} {l3 : Int} {l4 : Int} : WP m161 68 [.inr (.inl l0), .inl l1, .inl l2, .inl l3, .inl l4] [] σ Q = WP m161 69 [.inr (.inl l0), .inl l1, .inl l2, .inl l3, .inl l4] [.inr (.inl l0)] σ Q := w_ld d161_68 rfl
theorem d161_69 : adec m161 69 = some (.getfield 97, 3) := by decide +kernel
theorem s161_69 {l0 : Nat} {l1 : Int} {l2 : Int} {l3 : Int} {l4 : Int} : WP m161 69 [.inr (.inl l0), .inl l1, .inl l2, .inl l3, .inl l4] [.inr (.inl 130)] σ Q = WP m161 72 [.inr (.inl l0), .inl l1, .inl l2, .inl l3, .inl l4] [.inl (σ 130 9)] σ Q := (w_getI (c := 10) (n := 9) d161_69 (by decide +kernel) (by decide +kernel)).trans (g_and (isO_dec (by decide +kernel)))
theorem d161_72 : adec m161 72 = some (.bipush (120), 2) := by decide +kernel
theorem s161_72 {l0 : Nat} {l1 : Int} {l2 : Int} {l3 : Int} {l4 : Int} {x0 : Int} : WP m161 72 [.inr (.inl l0), .inl l1, .inl l2, .inl l3, .inl l4] [.inl x0] σ Q = WP m161 74 [.inr (.inl l0), .inl l1, .inl l2, .inl l3, .inl l4] [.inl (120), .inl x0] σ Q := w_bipush d161_72 (by decide)
theorem d161_74 : adec m161 74 = some (.if_icmp .gt (39), 3) := by decide +kernel
theorem s161_74 {l0 : Nat} {l1 : Int} {l2 : Int} {l3 : Int} {l4 : Int} {x0 : Int} {x1 : Int} : WP m161 74 [.inr (.inl l0), .inl l1, .inl l2, .inl l3, .inl l4] [.inl x1, .inl x0] σ Q = (if x1 < x0 then WP m161 113 [.inr (.inl l0), .inl l1, .inl l2, .inl l3, .inl l4] [] σ Q else WP m161 77 [.inr (.inl l0), .inl l1, .inl l2, .inl l3, .inl l4] [] σ Q) := w_icgt d161_74 (by decide)
theorem d161_77 : adec m161 77 = some (.aload_n 0, 1) := by decide +kernel
theorem s161_77 {l0 : Nat} {l1 : Int} {l2 : Int} {l3 : Int} {l4 : Int} : WP m161 77 [.inr (.inl l0), .inl l1, .inl l2, .inl l3, .inl l4] [] σ Q = WP m161 78 [.inr (.inl l0), .inl l1, .inl l2, .inl l3, .inl l4] [.inr (.inl l0)] σ Q := w_ld d161_77 rfl
theorem d161_78 : adec m161 78 = some (.getfield 24, 3) := by decide +kernel
theorem s161_78 {l0 : Nat} {l1 : Int} {l2 : Int} {l3 : Int} {l4 : Int} : WP m161 78 [.inr (.inl l0), .inl l1, .inl l2, .inl l3, .inl l4] [.inr (.inl 130)] σ Q = WP m161 81 [.inr (.inl l0), .inl l1, .inl l2, .inl l3, .inl l4] [.inr (.inl 134)] σ Q := (w_getR (c := 10) (n := 6) d161_78 (by decide +kernel) (by decide +kernel)).trans (g_and ⟨isO_dec (by decide +kernel), by decide +kernel⟩)
theorem d161_81 : adec m161 81 = some (.iload 4, 2) := by decide +kernel
theorem s161_81 {l0 : Nat} {l1 : Int} {l2 : Int} {l3 : Int} {l4 : Int} {x0 : Nat} : WP m161 81 [.inr (.inl l0), .inl l1, .inl l2, .inl l3, .inl l4] [.inr (.inl x0)] σ Q = WP m161 83 [.inr (.inl l0), .inl l1, .inl l2, .inl l3, .inl l4] [.inl l4, .inr (.inl x0)] σ Q := w_ld d161_81 rfl
theorem d161_83 : adec m161 83 = some (.iaload, 1) := by decide +kernel
theorem s161_83 {l0 : Nat} {l1 : Int} {l2 : Int} {l3 : Int} {l4 : Int} {x0 : Nat} {x1 : Int} : WP m161 83 [.inr (.inl l0), .inl l1, .inl l2, .inl l3, .inl l4] [.inl x1, .inr (.inl x0)] σ Q = ((kdS x0 = 20 ∧ 0 ≤ x1 ∧ x1 < ln x0) ∧ WP m161 84 [.inr (.inl l0), .inl l1, .inl l2, .inl l3, .inl l4] [.inl (σ x0 x1.toNat)] σ Q) := w_iald d161_83
theorem d161_84 : adec m161 84 = some (.iload_n 2, 1) := by decide +kernel
theorem s161_84 {l0 : Nat} {l1 : Int} {l2 : Int} {l3 : Int} {l4 : Int} {x0 : Int} : WP m161 84 [.inr (.inl l0), .inl l1, .inl l2, .inl l3, .inl l4] [.inl x0] σ Q = WP m161 85 [.inr (.inl l0), .inl l1, .inl l2, .inl l3, .inl l4] [.inl l2, .inl x0] σ Q := w_ld d161_84 rfl
theorem d161_85 : adec m161 85 = some (.if_icmp .ne (11), 3) := by decide +kernel
theorem s161_85 {l0 : Nat} {l1 : Int} {l2 : Int} {l3 : Int} {l4 : Int} {x0 : Int} {x1 : Int} : WP m161 85 [.inr (.inl l0), .inl l1, .inl l2, .inl l3, .inl l4] [.inl x1, .inl x0] σ Q = (if x0 = x1 then WP m161 88 [.inr (.inl l0), .inl l1, .inl l2, .inl l3, .inl l4] [] σ Q else WP m161 96 [.inr (.inl l0), .inl l1, .inl l2, .inl l3, .inl l4] [] σ Q) := w_icne d161_85 (by decide)
theorem d161_88 : adec m161 88 = some (.aload_n 0, 1) := by decide +kernel
theorem s161_88 {l0 : Nat} {l1 : Int} {l2 : Int} {l3 : Int} {l4 : Int} : WP m161 88 [.inr (.inl l0), .inl l1, .inl l2, .inl l3, .inl l4] [] σ Q = WP m161 89 [.inr (.inl l0), .inl l1, .inl l2, .inl l3, .inl l4] [.inr (.inl l0)] σ Q := w_ld d161_88 rfl
theorem d161_89 : adec m161 89 = some (.iload_n 3, 1) := by decide +kernel
theorem s161_89 {l0 : Nat} {l1 : Int} {l2 : Int} {l3 : Int} {l4 : Int} {x0 : Nat} : WP m161 89 [.inr (.inl l0), .inl l1, .inl l2, .inl l3, .inl l4] [.inr (.inl x0)] σ Q = WP m161 90 [.inr (.inl l0), .inl l1, .inl l2, .inl l3, .inl l4] [.inl l3, .inr (.inl x0)] σ Q := w_ld d161_89 rfl
theorem d161_90 : adec m161 90 = some (.invokevirtual 202, 3) := by decide +kernel
theorem s161_90 {l0 : Nat} {l1 : Int} {l2 : Int} {l3 : Int} {l4 : Int} {x1 : Int} : WP m161 90 [.inr (.inl l0), .inl l1, .inl l2, .inl l3, .inl l4] [.inl x1, .inr (.inl 130)] σ Q = CA m157 [.inr (.inl 130), .inl x1] σ (fun v σ2 => WP m161 93 [.inr (.inl l0), .inl l1, .inl l2, .inl l3, .inl l4] (v ++ []) σ2 Q) := (w_cV (k := 157) d161_90 (by decide +kernel) m157_at rfl rfl ⟨Nat.le_of_ble_eq_true rfl, Nat.le_of_ble_eq_true rfl, Nat.le_of_ble_eq_true rfl⟩ (by decide)).trans (g_and (isO_dec (by decide +kernel)))
theorem d161_93 : adec m161 93 = some (.goto (14), 3) := by decide +kernel
theorem s161_93 {l0 : Nat} {l1 : Int} {l2 : Int} {l3 : Int} {l4 : Int} : WP m161 93 [.inr (.inl l0), .inl l1, .inl l2, .inl l3, .inl l4] [] σ Q = WP m161 107 [.inr (.inl l0), .inl l1, .inl l2, .inl l3, .inl l4] [] σ Q := w_goto d161_93 (by decide)
theorem d161_96 : adec m161 96 = some (.aload_n 0, 1) := by decide +kernel
theorem s161_96 {l0 : Nat} {l1 : Int} {l2 : Int} {l3 : Int} {l4 : Int} : WP m161 96 [.inr (.inl l0), .inl l1, .inl l2, .inl l3, .inl l4] [] σ Q = WP m161 97 [.inr (.inl l0), .inl l1, .inl l2, .inl l3, .inl l4] [.inr (.inl l0)] σ Q := w_ld d161_96 rfl
theorem d161_97 : adec m161 97 = some (.aload_n 0, 1) := by decide +kernel
theorem s161_97 {l0 : Nat} {l1 : Int} {l2 : Int} {l3 : Int} {l4 : Int} {x0 : Nat} : WP m161 97 [.inr (.inl l0), .inl l1, .inl l2, .inl l3, .inl l4] [.inr (.inl x0)] σ Q = WP m161 98 [.inr (.inl l0), .inl l1, .inl l2, .inl l3, .inl l4] [.inr (.inl l0), .inr (.inl x0)] σ Q := w_ld d161_97 rfl
theorem d161_98 : adec m161 98 = some (.getfield 24, 3) := by decide +kernel
theorem s161_98 {l0 : Nat} {l1 : Int} {l2 : Int} {l3 : Int} {l4 : Int} {x0 : Nat} : WP m161 98 [.inr (.inl l0), .inl l1, .inl l2, .inl l3, .inl l4] [.inr (.inl 130), .inr (.inl x0)] σ Q = WP m161 101 [.inr (.inl l0), .inl l1, .inl l2, .inl l3, .inl l4] [.inr (.inl 134), .inr (.inl x0)] σ Q := (w_getR (c := 10) (n := 6) d161_98 (by decide +kernel) (by decide +kernel)).trans (g_and ⟨isO_dec (by decide +kernel), by decide +kernel⟩)
theorem d161_101 : adec m161 101 = some (.iload 4, 2) := by decide +kernel
theorem s161_101 {l0 : Nat} {l1 : Int} {l2 : Int} {l3 : Int} {l4 : Int} {x0 : Nat} {x1 : Nat} : WP m161 101 [.inr (.inl l0), .inl l1, .inl l2, .inl l3, .inl l4] [.inr (.inl x1), .inr (.inl x0)] σ Q = WP m161 103 [.inr (.inl l0), .inl l1, .inl l2, .inl l3, .inl l4] [.inl l4, .inr (.inl x1), .inr (.inl x0)] σ Q := w_ld d161_101 rfl
theorem d161_103 : adec m161 103 = some (.iaload, 1) := by decide +kernel
theorem s161_103 {l0 : Nat} {l1 : Int} {l2 : Int} {l3 : Int} {l4 : Int} {x0 : Nat} {x1 : Nat} {x2 : Int} : WP m161 103 [.inr (.inl l0), .inl l1, .inl l2, .inl l3, .inl l4] [.inl x2, .inr (.inl x1), .inr (.inl x0)] σ Q = ((kdS x1 = 20 ∧ 0 ≤ x2 ∧ x2 < ln x1) ∧ WP m161 104 [.inr (.inl l0), .inl l1, .inl l2, .inl l3, .inl l4] [.inl (σ x1 x2.toNat), .inr (.inl x0)] σ Q) := w_iald d161_103
theorem d161_104 : adec m161 104 = some (.invokevirtual 168, 3) := by decide +kernel
theorem s161_104 {l0 : Nat} {l1 : Int} {l2 : Int} {l3 : Int} {l4 : Int} {x1 : Int} : WP m161 104 [.inr (.inl l0), .inl l1, .inl l2, .inl l3, .inl l4] [.inl x1, .inr (.inl 130)] σ Q = CA m134 [.inr (.inl 130), .inl x1] σ (fun v σ2 => WP m161 107 [.inr (.inl l0), .inl l1, .inl l2, .inl l3, .inl l4] (v ++ []) σ2 Q) := (w_cV (k := 134) d161_104 (by decide +kernel) m134_at rfl rfl ⟨Nat.le_of_ble_eq_true rfl, Nat.le_of_ble_eq_true rfl, Nat.le_of_ble_eq_true rfl⟩ (by decide)).trans (g_and (isO_dec (by decide +kernel)))
theorem d161_107 : adec m161 107 = some (.iinc 4 (1), 3) := by decide +kernel
theorem s161_107 {l0 : Nat} {l1 : Int} {l2 : Int} {l3 : Int} {l4 : Int} : WP m161 107 [.inr (.inl l0), .inl l1, .inl l2, .inl l3, .inl l4] [] σ Q = (inI (l4 + (1)) ∧ WP m161 110 [.inr (.inl l0), .inl l1, .inl l2, .inl l3, .inl (l4 + (1))] [] σ Q) := w_iinc d161_107 rfl rfl
theorem d161_110 : adec m161 110 = some (.goto (-51), 3) := by decide +kernel
theorem s161_110 {l0 : Nat} {l1 : Int} {l2 : Int} {l3 : Int} {l4 : Int} : WP m161 110 [.inr (.inl l0), .inl l1, .inl l2, .inl l3, .inl l4] [] σ Q = WP m161 59 [.inr (.inl l0), .inl l1, .inl l2, .inl l3, .inl l4] [] σ Q := w_goto d161_110 (by decide)
theorem d161_113 : adec m161 113 = some (.aload_n 0, 1) := by decide +kernel
theorem s161_113 {l0 : Nat} {l1 : Int} {l2 : Int} {l3 : Int} {l4 : Int} : WP m161 113 [.inr (.inl l0), .inl l1, .inl l2, .inl l3, .inl l4] [] σ Q = WP m161 114 [.inr (.inl l0), .inl l1, .inl l2, .inl l3, .inl l4] [.inr (.inl l0)] σ Q := w_ld d161_113 rfl
theorem d161_114 : adec m161 114 = some (.invokevirtual 192, 3) := by decide +kernel
theorem s161_114 {l0 : Nat} {l1 : Int} {l2 : Int} {l3 : Int} {l4 : Int} : WP m161 114 [.inr (.inl l0), .inl l1, .inl l2, .inl l3, .inl l4] [.inr (.inl 130)] σ Q = CA m139 [.inr (.inl 130)] σ (fun v σ2 => WP m161 117 [.inr (.inl l0), .inl l1, .inl l2, .inl l3, .inl l4] (v ++ []) σ2 Q) := (w_cV (k := 139) d161_114 (by decide +kernel) m139_at rfl rfl ⟨Nat.le_of_ble_eq_true rfl, Nat.le_of_ble_eq_true rfl, Nat.le_of_ble_eq_true rfl⟩ (by decide)).trans (g_and (isO_dec (by decide +kernel)))
theorem d161_117 : adec m161 117 = some (.aload_n 0, 1) := by decide +kernel
theorem s161_117 {l0 : Nat} {l1 : Int} {l2 : Int} {l3 : Int} {l4 : Int} : WP m161 117 [.inr (.inl l0), .inl l1, .inl l2, .inl l3, .inl l4] [] σ Q = WP m161 118 [.inr (.inl l0), .inl l1, .inl l2, .inl l3, .inl l4] [.inr (.inl l0)] σ Q := w_ld d161_117 rfl
theorem d161_118 : adec m161 118 = some (.iload_n 1, 1) := by decide +kernel
theorem s161_118 {l0 : Nat} {l1 : Int} {l2 : Int} {l3 : Int} {l4 : Int} {x0 : Nat} : WP m161 118 [.inr (.inl l0), .inl l1, .inl l2, .inl l3, .inl l4] [.inr (.inl x0)] σ Q = WP m161 119 [.inr (.inl l0), .inl l1, .inl l2, .inl l3, .inl l4] [.inl l1, .inr (.inl x0)] σ Q := w_ld d161_118 rfl
theorem d161_119 : adec m161 119 = some (.invokevirtual 159, 3) := by decide +kernel
theorem s161_119 {l0 : Nat} {l1 : Int} {l2 : Int} {l3 : Int} {l4 : Int} {x1 : Int} : WP m161 119 [.inr (.inl l0), .inl l1, .inl l2, .inl l3, .inl l4] [.inl x1, .inr (.inl 130)] σ Q = CA m138 [.inr (.inl 130), .inl x1] σ (fun v σ2 => WP m161 122 [.inr (.inl l0), .inl l1, .inl l2, .inl l3, .inl l4] (v ++ []) σ2 Q) := (w_cV (k := 138) d161_119 (by decide +kernel) m138_at rfl rfl ⟨Nat.le_of_ble_eq_true rfl, Nat.le_of_ble_eq_true rfl, Nat.le_of_ble_eq_true rfl⟩ (by decide)).trans (g_and (isO_dec (by decide +kernel)))
theorem d161_122 : adec m161 122 = some (.ireturn, 1) := by decide +kernel
theorem s161_122 {l0 : Nat} {l1 : Int} {l2 : Int} {l3 : Int} {l4 : Int} {x0 : Int} : WP m161 122 [.inr (.inl l0), .inl l1, .inl l2, .inl l3, .inl l4] [.inl x0] σ Q = Q [.inl x0] σ := w_ri d161_122 rfl
theorem e161 {p0 : Nat} {p1 : Int} {p2 : Int} {p3 : Int} : CA m161 [.inr (.inl p0), .inl p1, .inl p2, .inl p3] σ Q = WP m161 0 [.inr (.inl p0), .inl p1, .inl p2, .inl p3, vU] [] σ Q := rfl
-- BinderPressModel.drop(I)I
theorem d162_0 : adec m162 0 = some (.iload_n 1, 1) := by decide +kernel
theorem s162_0 {l0 : Nat} {l1 : Int} {l2 : AV} : WP m162 0 [.inr (.inl l0), .inl l1, l2] [] σ Q = WP m162 1 [.inr (.inl l0), .inl l1, l2] [.inl l1] σ Q := w_ld d162_0 rfl
theorem d162_1 : adec m162 1 = some (.invokestatic 152, 3) := by decide +kernel
theorem s162_1 {l0 : Nat} {l1 : Int} {l2 : AV} {x0 : Int} : WP m162 1 [.inr (.inl l0), .inl l1, l2] [.inl x0] σ Q = CA m130 [.inl x0] σ (fun v σ2 => WP m162 4 [.inr (.inl l0), .inl l1, l2] (v ++ []) σ2 Q) := w_cS (k := 130) d162_1 (by decide +kernel) (md := 1) (by decide +kernel) m130_at rfl rfl ⟨Nat.le_of_ble_eq_true rfl, Nat.le_of_ble_eq_true rfl, Nat.le_of_ble_eq_true rfl⟩ (by decide)
theorem d162_4 : adec m162 4 = some (.ifCond .ne (6), 3) := by decide +kernel
theorem s162_4 {l0 : Nat} {l1 : Int} {l2 : AV} {x0 : Int} : WP m162 4 [.inr (.inl l0), .inl l1, l2] [.inl x0] σ Q = (if x0 = 0 then WP m162 7 [.inr (.inl l0), .inl l1, l2] [] σ Q else WP m162 10 [.inr (.inl l0), .inl l1, l2] [] σ Q) := w_ifne d162_4 (by decide)
theorem d162_7 : adec m162 7 = some (.ldc 155, 2) := by decide +kernel
theorem s162_7 {l0 : Nat} {l1 : Int} {l2 : AV} : WP m162 7 [.inr (.inl l0), .inl l1, l2] [] σ Q = WP m162 9 [.inr (.inl l0), .inl l1, l2] [.inl (-1000000001)] σ Q := w_ldc d162_7 (by decide +kernel) (by decide)
theorem d162_9 : adec m162 9 = some (.ireturn, 1) := by decide +kernel
theorem s162_9 {l0 : Nat} {l1 : Int} {l2 : AV} {x0 : Int} : WP m162 9 [.inr (.inl l0), .inl l1, l2] [.inl x0] σ Q = Q [.inl x0] σ := w_ri d162_9 rfl
theorem d162_10 : adec m162 10 = some (.aload_n 0, 1) := by decide +kernel
theorem s162_10 {l0 : Nat} {l1 : Int} {l2 : AV} : WP m162 10 [.inr (.inl l0), .inl l1, l2] [] σ Q = WP m162 11 [.inr (.inl l0), .inl l1, l2] [.inr (.inl l0)] σ Q := w_ld d162_10 rfl
theorem d162_11 : adec m162 11 = some (.iload_n 1, 1) := by decide +kernel
theorem s162_11 {l0 : Nat} {l1 : Int} {l2 : AV} {x0 : Nat} : WP m162 11 [.inr (.inl l0), .inl l1, l2] [.inr (.inl x0)] σ Q = WP m162 12 [.inr (.inl l0), .inl l1, l2] [.inl l1, .inr (.inl x0)] σ Q := w_ld d162_11 rfl
theorem d162_12 : adec m162 12 = some (.invokevirtual 100, 3) := by decide +kernel
theorem s162_12 {l0 : Nat} {l1 : Int} {l2 : AV} {x1 : Int} : WP m162 12 [.inr (.inl l0), .inl l1, l2] [.inl x1, .inr (.inl 130)] σ Q = CA m131 [.inr (.inl 130), .inl x1] σ (fun v σ2 => WP m162 15 [.inr (.inl l0), .inl l1, l2] (v ++ []) σ2 Q) := (w_cV (k := 131) d162_12 (by decide +kernel) m131_at rfl rfl ⟨Nat.le_of_ble_eq_true rfl, Nat.le_of_ble_eq_true rfl, Nat.le_of_ble_eq_true rfl⟩ (by decide)).trans (g_and (isO_dec (by decide +kernel)))
theorem d162_15 : adec m162 15 = some (.istore_n 2, 1) := by decide +kernel
theorem s162_15 {l0 : Nat} {l1 : Int} {l2 : AV} {x0 : Int} : WP m162 15 [.inr (.inl l0), .inl l1, l2] [.inl x0] σ Q = WP m162 16 [.inr (.inl l0), .inl l1, .inl x0] [] σ Q := w_st1 (j := 2) d162_15 rfl (Nat.le_of_ble_eq_true rfl) rfl
theorem d162_16 : adec m162 16 = some (.iload_n 2, 1) := by decide +kernel
theorem s162_16 {l0 : Nat} {l1 : Int} {l2 : Int} : WP m162 16 [.inr (.inl l0), .inl l1, .inl l2] [] σ Q = WP m162 17 [.inr (.inl l0), .inl l1, .inl l2] [.inl l2] σ Q := w_ld d162_16 rfl
theorem d162_17 : adec m162 17 = some (.ifCond .ne (6), 3) := by decide +kernel
theorem s162_17 {l0 : Nat} {l1 : Int} {l2 : Int} {x0 : Int} : WP m162 17 [.inr (.inl l0), .inl l1, .inl l2] [.inl x0] σ Q = (if x0 = 0 then WP m162 20 [.inr (.inl l0), .inl l1, .inl l2] [] σ Q else WP m162 23 [.inr (.inl l0), .inl l1, .inl l2] [] σ Q) := w_ifne d162_17 (by decide)
theorem d162_20 : adec m162 20 = some (.ldc 195, 2) := by decide +kernel
theorem s162_20 {l0 : Nat} {l1 : Int} {l2 : Int} : WP m162 20 [.inr (.inl l0), .inl l1, .inl l2] [] σ Q = WP m162 22 [.inr (.inl l0), .inl l1, .inl l2] [.inl (-1000000003)] σ Q := w_ldc d162_20 (by decide +kernel) (by decide)
theorem d162_22 : adec m162 22 = some (.ireturn, 1) := by decide +kernel
theorem s162_22 {l0 : Nat} {l1 : Int} {l2 : Int} {x0 : Int} : WP m162 22 [.inr (.inl l0), .inl l1, .inl l2] [.inl x0] σ Q = Q [.inl x0] σ := w_ri d162_22 rfl
theorem d162_23 : adec m162 23 = some (.aload_n 0, 1) := by decide +kernel
theorem s162_23 {l0 : Nat} {l1 : Int} {l2 : Int} : WP m162 23 [.inr (.inl l0), .inl l1, .inl l2] [] σ Q = WP m162 24 [.inr (.inl l0), .inl l1, .inl l2] [.inr (.inl l0)] σ Q := w_ld d162_23 rfl
theorem d162_24 : adec m162 24 = some (.iconst (0), 1) := by decide +kernel
theorem s162_24 {l0 : Nat} {l1 : Int} {l2 : Int} {x0 : Nat} : WP m162 24 [.inr (.inl l0), .inl l1, .inl l2] [.inr (.inl x0)] σ Q = WP m162 25 [.inr (.inl l0), .inl l1, .inl l2] [.inl (0), .inr (.inl x0)] σ Q := w_iconst d162_24 (by decide)
theorem d162_25 : adec m162 25 = some (.putfield 104, 3) := by decide +kernel
theorem s162_25 {l0 : Nat} {l1 : Int} {l2 : Int} {x1 : Int} : WP m162 25 [.inr (.inl l0), .inl l1, .inl l2] [.inl x1, .inr (.inl 130)] σ Q = WP m162 28 [.inr (.inl l0), .inl l1, .inl l2] [] (aup σ 130 7 x1) Q := (w_putI (c := 10) (n := 7) d162_25 (by decide +kernel) (by decide +kernel) (by decide +kernel)).trans (g_and (isO_dec (by decide +kernel)))
theorem d162_28 : adec m162 28 = some (.aload_n 0, 1) := by decide +kernel
theorem s162_28 {l0 : Nat} {l1 : Int} {l2 : Int} : WP m162 28 [.inr (.inl l0), .inl l1, .inl l2] [] σ Q = WP m162 29 [.inr (.inl l0), .inl l1, .inl l2] [.inr (.inl l0)] σ Q := w_ld d162_28 rfl
theorem d162_29 : adec m162 29 = some (.iload_n 1, 1) := by decide +kernel
theorem s162_29 {l0 : Nat} {l1 : Int} {l2 : Int} {x0 : Nat} : WP m162 29 [.inr (.inl l0), .inl l1, .inl l2] [.inr (.inl x0)] σ Q = WP m162 30 [.inr (.inl l0), .inl l1, .inl l2] [.inl l1, .inr (.inl x0)] σ Q := w_ld d162_29 rfl
theorem d162_30 : adec m162 30 = some (.invokevirtual 159, 3) := by decide +kernel
theorem s162_30 {l0 : Nat} {l1 : Int} {l2 : Int} {x1 : Int} : WP m162 30 [.inr (.inl l0), .inl l1, .inl l2] [.inl x1, .inr (.inl 130)] σ Q = CA m138 [.inr (.inl 130), .inl x1] σ (fun v σ2 => WP m162 33 [.inr (.inl l0), .inl l1, .inl l2] (v ++ []) σ2 Q) := (w_cV (k := 138) d162_30 (by decide +kernel) m138_at rfl rfl ⟨Nat.le_of_ble_eq_true rfl, Nat.le_of_ble_eq_true rfl, Nat.le_of_ble_eq_true rfl⟩ (by decide)).trans (g_and (isO_dec (by decide +kernel)))
theorem d162_33 : adec m162 33 = some (.pop, 1) := by decide +kernel
theorem s162_33 {l0 : Nat} {l1 : Int} {l2 : Int} {x0 : Int} : WP m162 33 [.inr (.inl l0), .inl l1, .inl l2] [.inl x0] σ Q = WP m162 34 [.inr (.inl l0), .inl l1, .inl l2] [] σ Q := w_ld d162_33 rfl
theorem d162_34 : adec m162 34 = some (.iload_n 2, 1) := by decide +kernel
theorem s162_34 {l0 : Nat} {l1 : Int} {l2 : Int} : WP m162 34 [.inr (.inl l0), .inl l1, .inl l2] [] σ Q = WP m162 35 [.inr (.inl l0), .inl l1, .inl l2] [.inl l2] σ Q := w_ld d162_34 rfl
theorem d162_35 : adec m162 35 = some (.ireturn, 1) := by decide +kernel
theorem s162_35 {l0 : Nat} {l1 : Int} {l2 : Int} {x0 : Int} : WP m162 35 [.inr (.inl l0), .inl l1, .inl l2] [.inl x0] σ Q = Q [.inl x0] σ := w_ri d162_35 rfl
theorem e162 {p0 : Nat} {p1 : Int} : CA m162 [.inr (.inl p0), .inl p1] σ Q = WP m162 0 [.inr (.inl p0), .inl p1, vU] [] σ Q := rfl
-- BinderPressModel.drift(III)I
theorem d163_0 : adec m163 0 = some (.iload_n 1, 1) := by decide +kernel
theorem s163_0 {l0 : Nat} {l1 : Int} {l2 : Int} {l3 : Int} {l4 : AV} {l5 : AV} {l6 : AV} {l7 : AV} : WP m163 0 [.inr (.inl l0), .inl l1, .inl l2, .inl l3, l4, l5, l6, l7] [] σ Q = WP m163 1 [.inr (.inl l0), .inl l1, .inl l2, .inl l3, l4, l5, l6, l7] [.inl l1] σ Q := w_ld d163_0 rfl
theorem d163_1 : adec m163 1 = some (.invokestatic 152, 3) := by decide +kernel
theorem s163_1 {l0 : Nat} {l1 : Int} {l2 : Int} {l3 : Int} {l4 : AV} {l5 : AV} {l6 : AV} {l7 : AV} {x0 : Int} : WP m163 1 [.inr (.inl l0), .inl l1, .inl l2, .inl l3, l4, l5, l6, l7] [.inl x0] σ Q = CA m130 [.inl x0] σ (fun v σ2 => WP m163 4 [.inr (.inl l0), .inl l1, .inl l2, .inl l3, l4, l5, l6, l7] (v ++ []) σ2 Q) := w_cS (k := 130) d163_1 (by decide +kernel) (md := 1) (by decide +kernel) m130_at rfl rfl ⟨Nat.le_of_ble_eq_true rfl, Nat.le_of_ble_eq_true rfl, Nat.le_of_ble_eq_true rfl⟩ (by decide)
theorem d163_4 : adec m163 4 = some (.ifCond .ne (6), 3) := by decide +kernel
theorem s163_4 {l0 : Nat} {l1 : Int} {l2 : Int} {l3 : Int} {l4 : AV} {l5 : AV} {l6 : AV} {l7 : AV} {x0 : Int} : WP m163 4 [.inr (.inl l0), .inl l1, .inl l2, .inl l3, l4, l5, l6, l7] [.inl x0] σ Q = (if x0 = 0 then WP m163 7 [.inr (.inl l0), .inl l1, .inl l2, .inl l3, l4, l5, l6, l7] [] σ Q else WP m163 10 [.inr (.inl l0), .inl l1, .inl l2, .inl l3, l4, l5, l6, l7] [] σ Q) := w_ifne d163_4 (by decide)
theorem d163_7 : adec m163 7 = some (.ldc 155, 2) := by decide +kernel
theorem s163_7 {l0 : Nat} {l1 : Int} {l2 : Int} {l3 : Int} {l4 : AV} {l5 : AV} {l6 : AV} {l7 : AV} : WP m163 7 [.inr (.inl l0), .inl l1, .inl l2, .inl l3, l4, l5, l6, l7] [] σ Q = WP m163 9 [.inr (.inl l0), .inl l1, .inl l2, .inl l3, l4, l5, l6, l7] [.inl (-1000000001)] σ Q := w_ldc d163_7 (by decide +kernel) (by decide)
theorem d163_9 : adec m163 9 = some (.ireturn, 1) := by decide +kernel
theorem s163_9 {l0 : Nat} {l1 : Int} {l2 : Int} {l3 : Int} {l4 : AV} {l5 : AV} {l6 : AV} {l7 : AV} {x0 : Int} : WP m163 9 [.inr (.inl l0), .inl l1, .inl l2, .inl l3, l4, l5, l6, l7] [.inl x0] σ Q = Q [.inl x0] σ := w_ri d163_9 rfl
theorem d163_10 : adec m163 10 = some (.iload_n 2, 1) := by decide +kernel
theorem s163_10 {l0 : Nat} {l1 : Int} {l2 : Int} {l3 : Int} {l4 : AV} {l5 : AV} {l6 : AV} {l7 : AV} : WP m163 10 [.inr (.inl l0), .inl l1, .inl l2, .inl l3, l4, l5, l6, l7] [] σ Q = WP m163 11 [.inr (.inl l0), .inl l1, .inl l2, .inl l3, l4, l5, l6, l7] [.inl l2] σ Q := w_ld d163_10 rfl
theorem d163_11 : adec m163 11 = some (.i2l, 1) := by decide +kernel
theorem s163_11 {l0 : Nat} {l1 : Int} {l2 : Int} {l3 : Int} {l4 : AV} {l5 : AV} {l6 : AV} {l7 : AV} {x0 : Int} : WP m163 11 [.inr (.inl l0), .inl l1, .inl l2, .inl l3, l4, l5, l6, l7] [.inl x0] σ Q = WP m163 12 [.inr (.inl l0), .inl l1, .inl l2, .inl l3, l4, l5, l6, l7] [.inr (.inr (.inl x0))] σ Q := w_ld d163_11 rfl
theorem d163_12 : adec m163 12 = some (.lconst 1, 1) := by decide +kernel
theorem s163_12 {l0 : Nat} {l1 : Int} {l2 : Int} {l3 : Int} {l4 : AV} {l5 : AV} {l6 : AV} {l7 : AV} {x0 : Int} : WP m163 12 [.inr (.inl l0), .inl l1, .inl l2, .inl l3, l4, l5, l6, l7] [.inr (.inr (.inl x0))] σ Q = WP m163 13 [.inr (.inl l0), .inl l1, .inl l2, .inl l3, l4, l5, l6, l7] [.inr (.inr (.inl (1))), .inr (.inr (.inl x0))] σ Q := w_lconst d163_12
theorem d163_13 : adec m163 13 = some (.ldc2_w 211, 3) := by decide +kernel
theorem s163_13 {l0 : Nat} {l1 : Int} {l2 : Int} {l3 : Int} {l4 : AV} {l5 : AV} {l6 : AV} {l7 : AV} {x0 : Int} {x1 : Int} : WP m163 13 [.inr (.inl l0), .inl l1, .inl l2, .inl l3, l4, l5, l6, l7] [.inr (.inr (.inl x1)), .inr (.inr (.inl x0))] σ Q = WP m163 16 [.inr (.inl l0), .inl l1, .inl l2, .inl l3, l4, l5, l6, l7] [.inr (.inr (.inl (40))), .inr (.inr (.inl x1)), .inr (.inr (.inl x0))] σ Q := w_ldc2 d163_13 (by decide +kernel) (by decide)
theorem d163_16 : adec m163 16 = some (.invokestatic 88, 3) := by decide +kernel
theorem s163_16 {l0 : Nat} {l1 : Int} {l2 : Int} {l3 : Int} {l4 : AV} {l5 : AV} {l6 : AV} {l7 : AV} {x0 : Int} {x1 : Int} {x2 : Int} : WP m163 16 [.inr (.inl l0), .inl l1, .inl l2, .inl l3, l4, l5, l6, l7] [.inr (.inr (.inl x2)), .inr (.inr (.inl x1)), .inr (.inr (.inl x0))] σ Q = CA m127 [.inr (.inr (.inl x0)), .inr (.inr (.inl x1)), .inr (.inr (.inl x2))] σ (fun v σ2 => WP m163 19 [.inr (.inl l0), .inl l1, .inl l2, .inl l3, l4, l5, l6, l7] (v ++ []) σ2 Q) := w_cS (k := 127) d163_16 (by decide +kernel) (md := 1) (by decide +kernel) m127_at rfl rfl ⟨Nat.le_of_ble_eq_true rfl, Nat.le_of_ble_eq_true rfl, Nat.le_of_ble_eq_true rfl⟩ (by decide)
theorem d163_19 : adec m163 19 = some (.ifCond .eq (15), 3) := by decide +kernel
theorem s163_19 {l0 : Nat} {l1 : Int} {l2 : Int} {l3 : Int} {l4 : AV} {l5 : AV} {l6 : AV} {l7 : AV} {x0 : Int} : WP m163 19 [.inr (.inl l0), .inl l1, .inl l2, .inl l3, l4, l5, l6, l7] [.inl x0] σ Q = (if x0 = 0 then WP m163 34 [.inr (.inl l0), .inl l1, .inl l2, .inl l3, l4, l5, l6, l7] [] σ Q else WP m163 22 [.inr (.inl l0), .inl l1, .inl l2, .inl l3, l4, l5, l6, l7] [] σ Q) := w_ifeq d163_19 (by decide)
theorem d163_22 : adec m163 22 = some (.iload_n 3, 1) := by decide +kernel
theorem s163_22 {l0 : Nat} {l1 : Int} {l2 : Int} {l3 : Int} {l4 : AV} {l5 : AV} {l6 : AV} {l7 : AV} : WP m163 22 [.inr (.inl l0), .inl l1, .inl l2, .inl l3, l4, l5, l6, l7] [] σ Q = WP m163 23 [.inr (.inl l0), .inl l1, .inl l2, .inl l3, l4, l5, l6, l7] [.inl l3] σ Q := w_ld d163_22 rfl
theorem d163_23 : adec m163 23 = some (.i2l, 1) := by decide +kernel
theorem s163_23 {l0 : Nat} {l1 : Int} {l2 : Int} {l3 : Int} {l4 : AV} {l5 : AV} {l6 : AV} {l7 : AV} {x0 : Int} : WP m163 23 [.inr (.inl l0), .inl l1, .inl l2, .inl l3, l4, l5, l6, l7] [.inl x0] σ Q = WP m163 24 [.inr (.inl l0), .inl l1, .inl l2, .inl l3, l4, l5, l6, l7] [.inr (.inr (.inl x0))] σ Q := w_ld d163_23 rfl
theorem d163_24 : adec m163 24 = some (.lconst 1, 1) := by decide +kernel
theorem s163_24 {l0 : Nat} {l1 : Int} {l2 : Int} {l3 : Int} {l4 : AV} {l5 : AV} {l6 : AV} {l7 : AV} {x0 : Int} : WP m163 24 [.inr (.inl l0), .inl l1, .inl l2, .inl l3, l4, l5, l6, l7] [.inr (.inr (.inl x0))] σ Q = WP m163 25 [.inr (.inl l0), .inl l1, .inl l2, .inl l3, l4, l5, l6, l7] [.inr (.inr (.inl (1))), .inr (.inr (.inl x0))] σ Q := w_lconst d163_24
theorem d163_25 : adec m163 25 = some (.ldc2_w 213, 3) := by decide +kernel
theorem s163_25 {l0 : Nat} {l1 : Int} {l2 : Int} {l3 : Int} {l4 : AV} {l5 : AV} {l6 : AV} {l7 : AV} {x0 : Int} {x1 : Int} : WP m163 25 [.inr (.inl l0), .inl l1, .inl l2, .inl l3, l4, l5, l6, l7] [.inr (.inr (.inl x1)), .inr (.inr (.inl x0))] σ Q = WP m163 28 [.inr (.inl l0), .inl l1, .inl l2, .inl l3, l4, l5, l6, l7] [.inr (.inr (.inl (999999))), .inr (.inr (.inl x1)), .inr (.inr (.inl x0))] σ Q := w_ldc2 d163_25 (by decide +kernel) (by decide)
theorem d163_28 : adec m163 28 = some (.invokestatic 88, 3) := by decide +kernel
theorem s163_28 {l0 : Nat} {l1 : Int} {l2 : Int} {l3 : Int} {l4 : AV} {l5 : AV} {l6 : AV} {l7 : AV} {x0 : Int} {x1 : Int} {x2 : Int} : WP m163 28 [.inr (.inl l0), .inl l1, .inl l2, .inl l3, l4, l5, l6, l7] [.inr (.inr (.inl x2)), .inr (.inr (.inl x1)), .inr (.inr (.inl x0))] σ Q = CA m127 [.inr (.inr (.inl x0)), .inr (.inr (.inl x1)), .inr (.inr (.inl x2))] σ (fun v σ2 => WP m163 31 [.inr (.inl l0), .inl l1, .inl l2, .inl l3, l4, l5, l6, l7] (v ++ []) σ2 Q) := w_cS (k := 127) d163_28 (by decide +kernel) (md := 1) (by decide +kernel) m127_at rfl rfl ⟨Nat.le_of_ble_eq_true rfl, Nat.le_of_ble_eq_true rfl, Nat.le_of_ble_eq_true rfl⟩ (by decide)
theorem d163_31 : adec m163 31 = some (.ifCond .ne (6), 3) := by decide +kernel
theorem s163_31 {l0 : Nat} {l1 : Int} {l2 : Int} {l3 : Int} {l4 : AV} {l5 : AV} {l6 : AV} {l7 : AV} {x0 : Int} : WP m163 31 [.inr (.inl l0), .inl l1, .inl l2, .inl l3, l4, l5, l6, l7] [.inl x0] σ Q = (if x0 = 0 then WP m163 34 [.inr (.inl l0), .inl l1, .inl l2, .inl l3, l4, l5, l6, l7] [] σ Q else WP m163 37 [.inr (.inl l0), .inl l1, .inl l2, .inl l3, l4, l5, l6, l7] [] σ Q) := w_ifne d163_31 (by decide)
theorem d163_34 : adec m163 34 = some (.ldc 120, 2) := by decide +kernel
theorem s163_34 {l0 : Nat} {l1 : Int} {l2 : Int} {l3 : Int} {l4 : AV} {l5 : AV} {l6 : AV} {l7 : AV} : WP m163 34 [.inr (.inl l0), .inl l1, .inl l2, .inl l3, l4, l5, l6, l7] [] σ Q = WP m163 36 [.inr (.inl l0), .inl l1, .inl l2, .inl l3, l4, l5, l6, l7] [.inl (-1000000002)] σ Q := w_ldc d163_34 (by decide +kernel) (by decide)
theorem d163_36 : adec m163 36 = some (.ireturn, 1) := by decide +kernel
theorem s163_36 {l0 : Nat} {l1 : Int} {l2 : Int} {l3 : Int} {l4 : AV} {l5 : AV} {l6 : AV} {l7 : AV} {x0 : Int} : WP m163 36 [.inr (.inl l0), .inl l1, .inl l2, .inl l3, l4, l5, l6, l7] [.inl x0] σ Q = Q [.inl x0] σ := w_ri d163_36 rfl
theorem d163_37 : adec m163 37 = some (.iload_n 3, 1) := by decide +kernel
theorem s163_37 {l0 : Nat} {l1 : Int} {l2 : Int} {l3 : Int} {l4 : AV} {l5 : AV} {l6 : AV} {l7 : AV} : WP m163 37 [.inr (.inl l0), .inl l1, .inl l2, .inl l3, l4, l5, l6, l7] [] σ Q = WP m163 38 [.inr (.inl l0), .inl l1, .inl l2, .inl l3, l4, l5, l6, l7] [.inl l3] σ Q := w_ld d163_37 rfl
theorem d163_38 : adec m163 38 = some (.i2l, 1) := by decide +kernel
theorem s163_38 {l0 : Nat} {l1 : Int} {l2 : Int} {l3 : Int} {l4 : AV} {l5 : AV} {l6 : AV} {l7 : AV} {x0 : Int} : WP m163 38 [.inr (.inl l0), .inl l1, .inl l2, .inl l3, l4, l5, l6, l7] [.inl x0] σ Q = WP m163 39 [.inr (.inl l0), .inl l1, .inl l2, .inl l3, l4, l5, l6, l7] [.inr (.inr (.inl x0))] σ Q := w_ld d163_38 rfl
theorem d163_39 : adec m163 39 = some (.ldc2_w 215, 3) := by decide +kernel
theorem s163_39 {l0 : Nat} {l1 : Int} {l2 : Int} {l3 : Int} {l4 : AV} {l5 : AV} {l6 : AV} {l7 : AV} {x0 : Int} : WP m163 39 [.inr (.inl l0), .inl l1, .inl l2, .inl l3, l4, l5, l6, l7] [.inr (.inr (.inl x0))] σ Q = WP m163 42 [.inr (.inl l0), .inl l1, .inl l2, .inl l3, l4, l5, l6, l7] [.inr (.inr (.inl (16807))), .inr (.inr (.inl x0))] σ Q := w_ldc2 d163_39 (by decide +kernel) (by decide)
theorem d163_42 : adec m163 42 = some (.lmul, 1) := by decide +kernel
theorem s163_42 {l0 : Nat} {l1 : Int} {l2 : Int} {l3 : Int} {l4 : AV} {l5 : AV} {l6 : AV} {l7 : AV} {x0 : Int} {x1 : Int} : WP m163 42 [.inr (.inl l0), .inl l1, .inl l2, .inl l3, l4, l5, l6, l7] [.inr (.inr (.inl x1)), .inr (.inr (.inl x0))] σ Q = (inL (x0 * x1) ∧ WP m163 43 [.inr (.inl l0), .inl l1, .inl l2, .inl l3, l4, l5, l6, l7] [.inr (.inr (.inl (x0 * x1)))] σ Q) := w_lmul d163_42
theorem d163_43 : adec m163 43 = some (.ldc2_w 217, 3) := by decide +kernel
theorem s163_43 {l0 : Nat} {l1 : Int} {l2 : Int} {l3 : Int} {l4 : AV} {l5 : AV} {l6 : AV} {l7 : AV} {x0 : Int} : WP m163 43 [.inr (.inl l0), .inl l1, .inl l2, .inl l3, l4, l5, l6, l7] [.inr (.inr (.inl x0))] σ Q = WP m163 46 [.inr (.inl l0), .inl l1, .inl l2, .inl l3, l4, l5, l6, l7] [.inr (.inr (.inl (2147483647))), .inr (.inr (.inl x0))] σ Q := w_ldc2 d163_43 (by decide +kernel) (by decide)
theorem d163_46 : adec m163 46 = some (.lrem, 1) := by decide +kernel
theorem s163_46 {l0 : Nat} {l1 : Int} {l2 : Int} {l3 : Int} {l4 : AV} {l5 : AV} {l6 : AV} {l7 : AV} {x0 : Int} {x1 : Int} : WP m163 46 [.inr (.inl l0), .inl l1, .inl l2, .inl l3, l4, l5, l6, l7] [.inr (.inr (.inl x1)), .inr (.inr (.inl x0))] σ Q = ((0 ≤ x0 ∧ 0 < x1 ∧ inL (x0 % x1)) ∧ WP m163 47 [.inr (.inl l0), .inl l1, .inl l2, .inl l3, l4, l5, l6, l7] [.inr (.inr (.inl (x0 % x1)))] σ Q) := w_lrem d163_46
theorem d163_47 : adec m163 47 = some (.lstore 4, 2) := by decide +kernel
theorem s163_47 {l0 : Nat} {l1 : Int} {l2 : Int} {l3 : Int} {l4 : AV} {l5 : AV} {l6 : AV} {l7 : AV} {x0 : Int} : WP m163 47 [.inr (.inl l0), .inl l1, .inl l2, .inl l3, l4, l5, l6, l7] [.inr (.inr (.inl x0))] σ Q = WP m163 49 [.inr (.inl l0), .inl l1, .inl l2, .inl l3, .inr (.inr (.inl x0)), vU, l6, l7] [] σ Q := w_stL (j := 4) d163_47 rfl (Nat.le_of_ble_eq_true rfl) rfl
theorem d163_49 : adec m163 49 = some (.aload_n 0, 1) := by decide +kernel
theorem s163_49 {l0 : Nat} {l1 : Int} {l2 : Int} {l3 : Int} {l4 : Int} {l5 : AV} {l6 : AV} {l7 : AV} : WP m163 49 [.inr (.inl l0), .inl l1, .inl l2, .inl l3, .inr (.inr (.inl l4)), l5, l6, l7] [] σ Q = WP m163 50 [.inr (.inl l0), .inl l1, .inl l2, .inl l3, .inr (.inr (.inl l4)), l5, l6, l7] [.inr (.inl l0)] σ Q := w_ld d163_49 rfl
theorem d163_50 : adec m163 50 = some (.getfield 24, 3) := by decide +kernel
theorem s163_50 {l0 : Nat} {l1 : Int} {l2 : Int} {l3 : Int} {l4 : Int} {l5 : AV} {l6 : AV} {l7 : AV} : WP m163 50 [.inr (.inl l0), .inl l1, .inl l2, .inl l3, .inr (.inr (.inl l4)), l5, l6, l7] [.inr (.inl 130)] σ Q = WP m163 53 [.inr (.inl l0), .inl l1, .inl l2, .inl l3, .inr (.inr (.inl l4)), l5, l6, l7] [.inr (.inl 134)] σ Q := (w_getR (c := 10) (n := 6) d163_50 (by decide +kernel) (by decide +kernel)).trans (g_and ⟨isO_dec (by decide +kernel), by decide +kernel⟩)
theorem d163_53 : adec m163 53 = some (.iconst (0), 1) := by decide +kernel
theorem s163_53 {l0 : Nat} {l1 : Int} {l2 : Int} {l3 : Int} {l4 : Int} {l5 : AV} {l6 : AV} {l7 : AV} {x0 : Nat} : WP m163 53 [.inr (.inl l0), .inl l1, .inl l2, .inl l3, .inr (.inr (.inl l4)), l5, l6, l7] [.inr (.inl x0)] σ Q = WP m163 54 [.inr (.inl l0), .inl l1, .inl l2, .inl l3, .inr (.inr (.inl l4)), l5, l6, l7] [.inl (0), .inr (.inl x0)] σ Q := w_iconst d163_53 (by decide)
theorem d163_54 : adec m163 54 = some (.iconst (1), 1) := by decide +kernel
theorem s163_54 {l0 : Nat} {l1 : Int} {l2 : Int} {l3 : Int} {l4 : Int} {l5 : AV} {l6 : AV} {l7 : AV} {x0 : Nat} {x1 : Int} : WP m163 54 [.inr (.inl l0), .inl l1, .inl l2, .inl l3, .inr (.inr (.inl l4)), l5, l6, l7] [.inl x1, .inr (.inl x0)] σ Q = WP m163 55 [.inr (.inl l0), .inl l1, .inl l2, .inl l3, .inr (.inr (.inl l4)), l5, l6, l7] [.inl (1), .inl x1, .inr (.inl x0)] σ Q := w_iconst d163_54 (by decide)
theorem d163_55 : adec m163 55 = some (.lload 4, 2) := by decide +kernel
theorem s163_55 {l0 : Nat} {l1 : Int} {l2 : Int} {l3 : Int} {l4 : Int} {l5 : AV} {l6 : AV} {l7 : AV} {x0 : Nat} {x1 : Int} {x2 : Int} : WP m163 55 [.inr (.inl l0), .inl l1, .inl l2, .inl l3, .inr (.inr (.inl l4)), l5, l6, l7] [.inl x2, .inl x1, .inr (.inl x0)] σ Q = WP m163 57 [.inr (.inl l0), .inl l1, .inl l2, .inl l3, .inr (.inr (.inl l4)), l5, l6, l7] [.inr (.inr (.inl l4)), .inl x2, .inl x1, .inr (.inl x0)] σ Q := w_ld d163_55 rfl
theorem d163_57 : adec m163 57 = some (.ldc2_w 219, 3) := by decide +kernel
theorem s163_57 {l0 : Nat} {l1 : Int} {l2 : Int} {l3 : Int} {l4 : Int} {l5 : AV} {l6 : AV} {l7 : AV} {x0 : Nat} {x1 : Int} {x2 : Int} {x3 : Int} : WP m163 57 [.inr (.inl l0), .inl l1, .inl l2, .inl l3, .inr (.inr (.inl l4)), l5, l6, l7] [.inr (.inr (.inl x3)), .inl x2, .inl x1, .inr (.inl x0)] σ Q = WP m163 60 [.inr (.inl l0), .inl l1, .inl l2, .inl l3, .inr (.inr (.inl l4)), l5, l6, l7] [.inr (.inr (.inl (5))), .inr (.inr (.inl x3)), .inl x2, .inl x1, .inr (.inl x0)] σ Q := w_ldc2 d163_57 (by decide +kernel) (by decide)
theorem d163_60 : adec m163 60 = some (.lrem, 1) := by decide +kernel
theorem s163_60 {l0 : Nat} {l1 : Int} {l2 : Int} {l3 : Int} {l4 : Int} {l5 : AV} {l6 : AV} {l7 : AV} {x0 : Nat} {x1 : Int} {x2 : Int} {x3 : Int} {x4 : Int} : WP m163 60 [.inr (.inl l0), .inl l1, .inl l2, .inl l3, .inr (.inr (.inl l4)), l5, l6, l7] [.inr (.inr (.inl x4)), .inr (.inr (.inl x3)), .inl x2, .inl x1, .inr (.inl x0)] σ Q = ((0 ≤ x3 ∧ 0 < x4 ∧ inL (x3 % x4)) ∧ WP m163 61 [.inr (.inl l0), .inl l1, .inl l2, .inl l3, .inr (.inr (.inl l4)), l5, l6, l7] [.inr (.inr (.inl (x3 % x4))), .inl x2, .inl x1, .inr (.inl x0)] σ Q) := w_lrem d163_60
theorem d163_61 : adec m163 61 = some (.l2i, 1) := by decide +kernel
theorem s163_61 {l0 : Nat} {l1 : Int} {l2 : Int} {l3 : Int} {l4 : Int} {l5 : AV} {l6 : AV} {l7 : AV} {x0 : Nat} {x1 : Int} {x2 : Int} {x3 : Int} : WP m163 61 [.inr (.inl l0), .inl l1, .inl l2, .inl l3, .inr (.inr (.inl l4)), l5, l6, l7] [.inr (.inr (.inl x3)), .inl x2, .inl x1, .inr (.inl x0)] σ Q = (inI x3 ∧ WP m163 62 [.inr (.inl l0), .inl l1, .inl l2, .inl l3, .inr (.inr (.inl l4)), l5, l6, l7] [.inl x3, .inl x2, .inl x1, .inr (.inl x0)] σ Q) := w_l2i d163_61
theorem d163_62 : adec m163 62 = some (.iadd, 1) := by decide +kernel
theorem s163_62 {l0 : Nat} {l1 : Int} {l2 : Int} {l3 : Int} {l4 : Int} {l5 : AV} {l6 : AV} {l7 : AV} {x0 : Nat} {x1 : Int} {x2 : Int} {x3 : Int} : WP m163 62 [.inr (.inl l0), .inl l1, .inl l2, .inl l3, .inr (.inr (.inl l4)), l5, l6, l7] [.inl x3, .inl x2, .inl x1, .inr (.inl x0)] σ Q = (inI (x2 + x3) ∧ WP m163 63 [.inr (.inl l0), .inl l1, .inl l2, .inl l3, .inr (.inr (.inl l4)), l5, l6, l7] [.inl (x2 + x3), .inl x1, .inr (.inl x0)] σ Q) := w_iadd d163_62
theorem d163_63 : adec m163 63 = some (.iastore, 1) := by decide +kernel
theorem s163_63 {l0 : Nat} {l1 : Int} {l2 : Int} {l3 : Int} {l4 : Int} {l5 : AV} {l6 : AV} {l7 : AV} {x0 : Nat} {x1 : Int} {x2 : Int} : WP m163 63 [.inr (.inl l0), .inl l1, .inl l2, .inl l3, .inr (.inr (.inl l4)), l5, l6, l7] [.inl x2, .inl x1, .inr (.inl x0)] σ Q = ((kdS x0 = 20 ∧ 0 ≤ x1 ∧ x1 < ln x0) ∧ WP m163 64 [.inr (.inl l0), .inl l1, .inl l2, .inl l3, .inr (.inr (.inl l4)), l5, l6, l7] [] (aup σ x0 x1.toNat x2) Q) := w_iast d163_63
theorem d163_64 : adec m163 64 = some (.aload_n 0, 1) := by decide +kernel
theorem s163_64 {l0 : Nat} {l1 : Int} {l2 : Int} {l3 : Int} {l4 : Int} {l5 : AV} {l6 : AV} {l7 : AV} : WP m163 64 [.inr (.inl l0), .inl l1, .inl l2, .inl l3, .inr (.inr (.inl l4)), l5, l6, l7] [] σ Q = WP m163 65 [.inr (.inl l0), .inl l1, .inl l2, .inl l3, .inr (.inr (.inl l4)), l5, l6, l7] [.inr (.inl l0)] σ Q := w_ld d163_64 rfl
theorem d163_65 : adec m163 65 = some (.iconst (1), 1) := by decide +kernel
theorem s163_65 {l0 : Nat} {l1 : Int} {l2 : Int} {l3 : Int} {l4 : Int} {l5 : AV} {l6 : AV} {l7 : AV} {x0 : Nat} : WP m163 65 [.inr (.inl l0), .inl l1, .inl l2, .inl l3, .inr (.inr (.inl l4)), l5, l6, l7] [.inr (.inl x0)] σ Q = WP m163 66 [.inr (.inl l0), .inl l1, .inl l2, .inl l3, .inr (.inr (.inl l4)), l5, l6, l7] [.inl (1), .inr (.inl x0)] σ Q := w_iconst d163_65 (by decide)
theorem d163_66 : adec m163 66 = some (.putfield 104, 3) := by decide +kernel
theorem s163_66 {l0 : Nat} {l1 : Int} {l2 : Int} {l3 : Int} {l4 : Int} {l5 : AV} {l6 : AV} {l7 : AV} {x1 : Int} : WP m163 66 [.inr (.inl l0), .inl l1, .inl l2, .inl l3, .inr (.inr (.inl l4)), l5, l6, l7] [.inl x1, .inr (.inl 130)] σ Q = WP m163 69 [.inr (.inl l0), .inl l1, .inl l2, .inl l3, .inr (.inr (.inl l4)), l5, l6, l7] [] (aup σ 130 7 x1) Q := (w_putI (c := 10) (n := 7) d163_66 (by decide +kernel) (by decide +kernel) (by decide +kernel)).trans (g_and (isO_dec (by decide +kernel)))
theorem d163_69 : adec m163 69 = some (.iconst (1), 1) := by decide +kernel
theorem s163_69 {l0 : Nat} {l1 : Int} {l2 : Int} {l3 : Int} {l4 : Int} {l5 : AV} {l6 : AV} {l7 : AV} : WP m163 69 [.inr (.inl l0), .inl l1, .inl l2, .inl l3, .inr (.inr (.inl l4)), l5, l6, l7] [] σ Q = WP m163 70 [.inr (.inl l0), .inl l1, .inl l2, .inl l3, .inr (.inr (.inl l4)), l5, l6, l7] [.inl (1)] σ Q := w_iconst d163_69 (by decide)
theorem d163_70 : adec m163 70 = some (.istore 6, 2) := by decide +kernel
theorem s163_70 {l0 : Nat} {l1 : Int} {l2 : Int} {l3 : Int} {l4 : Int} {l5 : AV} {l6 : AV} {l7 : AV} {x0 : Int} (hg : isL l5 = false) : WP m163 70 [.inr (.inl l0), .inl l1, .inl l2, .inl l3, .inr (.inr (.inl l4)), l5, l6, l7] [.inl x0] σ Q = WP m163 72 [.inr (.inl l0), .inl l1, .inl l2, .inl l3, .inr (.inr (.inl l4)), l5, .inl x0, l7] [] σ Q := w_st1 (j := 6) d163_70 rfl (Nat.le_of_ble_eq_true rfl) (by simp [okSt, hg])
theorem d163_72 : adec m163 72 = some (.iload 6, 2) := by decide +kernel
theorem s163_72 {l0 : Nat} {l1 : Int} {l2 : Int} {l3 : Int} {l4 : Int} {l5 : AV} {l6 : Int} {l7 : AV} : WP m163 72 [.inr (.inl l0), .inl l1, .inl l2, .inl l3, .inr (.inr (.inl l4)), l5, .inl l6, l7] [] σ Q = WP m163 74 [.inr (.inl l0), .inl l1, .inl l2, .inl l3, .inr (.inr (.inl l4)), l5, .inl l6, l7] [.inl l6] σ Q := w_ld d163_72 rfl
theorem d163_74 : adec m163 74 = some (.iload_n 2, 1) := by decide +kernel
theorem s163_74 {l0 : Nat} {l1 : Int} {l2 : Int} {l3 : Int} {l4 : Int} {l5 : AV} {l6 : Int} {l7 : AV} {x0 : Int} : WP m163 74 [.inr (.inl l0), .inl l1, .inl l2, .inl l3, .inr (.inr (.inl l4)), l5, .inl l6, l7] [.inl x0] σ Q = WP m163 75 [.inr (.inl l0), .inl l1, .inl l2, .inl l3, .inr (.inr (.inl l4)), l5, .inl l6, l7] [.inl l2, .inl x0] σ Q := w_ld d163_74 rfl
theorem d163_75 : adec m163 75 = some (.if_icmp .ge (106), 3) := by decide +kernel
theorem s163_75 {l0 : Nat} {l1 : Int} {l2 : Int} {l3 : Int} {l4 : Int} {l5 : AV} {l6 : Int} {l7 : AV} {x0 : Int} {x1 : Int} : WP m163 75 [.inr (.inl l0), .inl l1, .inl l2, .inl l3, .inr (.inr (.inl l4)), l5, .inl l6, l7] [.inl x1, .inl x0] σ Q = (if x1 ≤ x0 then WP m163 181 [.inr (.inl l0), .inl l1, .inl l2, .inl l3, .inr (.inr (.inl l4)), l5, .inl l6, l7] [] σ Q else WP m163 78 [.inr (.inl l0), .inl l1, .inl l2, .inl l3, .inr (.inr (.inl l4)), l5, .inl l6, l7] [] σ Q) := w_icge d163_75 (by decide)
theorem d163_78 : adec m163 78 = some (.lload 4, 2) := by decide +kernel
theorem s163_78 {l0 : Nat} {l1 : Int} {l2 : Int} {l3 : Int} {l4 : Int} {l5 : AV} {l6 : Int} {l7 : AV} : WP m163 78 [.inr (.inl l0), .inl l1, .inl l2, .inl l3, .inr (.inr (.inl l4)), l5, .inl l6, l7] [] σ Q = WP m163 80 [.inr (.inl l0), .inl l1, .inl l2, .inl l3, .inr (.inr (.inl l4)), l5, .inl l6, l7] [.inr (.inr (.inl l4))] σ Q := w_ld d163_78 rfl
theorem d163_80 : adec m163 80 = some (.ldc2_w 215, 3) := by decide +kernel
theorem s163_80 {l0 : Nat} {l1 : Int} {l2 : Int} {l3 : Int} {l4 : Int} {l5 : AV} {l6 : Int} {l7 : AV} {x0 : Int} : WP m163 80 [.inr (.inl l0), .inl l1, .inl l2, .inl l3, .inr (.inr (.inl l4)), l5, .inl l6, l7] [.inr (.inr (.inl x0))] σ Q = WP m163 83 [.inr (.inl l0), .inl l1, .inl l2, .inl l3, .inr (.inr (.inl l4)), l5, .inl l6, l7] [.inr (.inr (.inl (16807))), .inr (.inr (.inl x0))] σ Q := w_ldc2 d163_80 (by decide +kernel) (by decide)
theorem d163_83 : adec m163 83 = some (.lmul, 1) := by decide +kernel
theorem s163_83 {l0 : Nat} {l1 : Int} {l2 : Int} {l3 : Int} {l4 : Int} {l5 : AV} {l6 : Int} {l7 : AV} {x0 : Int} {x1 : Int} : WP m163 83 [.inr (.inl l0), .inl l1, .inl l2, .inl l3, .inr (.inr (.inl l4)), l5, .inl l6, l7] [.inr (.inr (.inl x1)), .inr (.inr (.inl x0))] σ Q = (inL (x0 * x1) ∧ WP m163 84 [.inr (.inl l0), .inl l1, .inl l2, .inl l3, .inr (.inr (.inl l4)), l5, .inl l6, l7] [.inr (.inr (.inl (x0 * x1)))] σ Q) := w_lmul d163_83
theorem d163_84 : adec m163 84 = some (.ldc2_w 217, 3) := by decide +kernel
theorem s163_84 {l0 : Nat} {l1 : Int} {l2 : Int} {l3 : Int} {l4 : Int} {l5 : AV} {l6 : Int} {l7 : AV} {x0 : Int} : WP m163 84 [.inr (.inl l0), .inl l1, .inl l2, .inl l3, .inr (.inr (.inl l4)), l5, .inl l6, l7] [.inr (.inr (.inl x0))] σ Q = WP m163 87 [.inr (.inl l0), .inl l1, .inl l2, .inl l3, .inr (.inr (.inl l4)), l5, .inl l6, l7] [.inr (.inr (.inl (2147483647))), .inr (.inr (.inl x0))] σ Q := w_ldc2 d163_84 (by decide +kernel) (by decide)
theorem d163_87 : adec m163 87 = some (.lrem, 1) := by decide +kernel
theorem s163_87 {l0 : Nat} {l1 : Int} {l2 : Int} {l3 : Int} {l4 : Int} {l5 : AV} {l6 : Int} {l7 : AV} {x0 : Int} {x1 : Int} : WP m163 87 [.inr (.inl l0), .inl l1, .inl l2, .inl l3, .inr (.inr (.inl l4)), l5, .inl l6, l7] [.inr (.inr (.inl x1)), .inr (.inr (.inl x0))] σ Q = ((0 ≤ x0 ∧ 0 < x1 ∧ inL (x0 % x1)) ∧ WP m163 88 [.inr (.inl l0), .inl l1, .inl l2, .inl l3, .inr (.inr (.inl l4)), l5, .inl l6, l7] [.inr (.inr (.inl (x0 % x1)))] σ Q) := w_lrem d163_87
theorem d163_88 : adec m163 88 = some (.lstore 4, 2) := by decide +kernel
theorem s163_88 {l0 : Nat} {l1 : Int} {l2 : Int} {l3 : Int} {l4 : Int} {l5 : AV} {l6 : Int} {l7 : AV} {x0 : Int} : WP m163 88 [.inr (.inl l0), .inl l1, .inl l2, .inl l3, .inr (.inr (.inl l4)), l5, .inl l6, l7] [.inr (.inr (.inl x0))] σ Q = WP m163 90 [.inr (.inl l0), .inl l1, .inl l2, .inl l3, .inr (.inr (.inl x0)), vU, .inl l6, l7] [] σ Q := w_stL (j := 4) d163_88 rfl (Nat.le_of_ble_eq_true rfl) rfl
theorem d163_90 : adec m163 90 = some (.lload 4, 2) := by decide +kernel
theorem s163_90 {l0 : Nat} {l1 : Int} {l2 : Int} {l3 : Int} {l4 : Int} {l5 : AV} {l6 : Int} {l7 : AV} : WP m163 90 [.inr (.inl l0), .inl l1, .inl l2, .inl l3, .inr (.inr (.inl l4)), l5, .inl l6, l7] [] σ Q = WP m163 92 [.inr (.inl l0), .inl l1, .inl l2, .inl l3, .inr (.inr (.inl l4)), l5, .inl l6, l7] [.inr (.inr (.inl l4))] σ Q := w_ld d163_90 rfl
theorem d163_92 : adec m163 92 = some (.ldc2_w 221, 3) := by decide +kernel
theorem s163_92 {l0 : Nat} {l1 : Int} {l2 : Int} {l3 : Int} {l4 : Int} {l5 : AV} {l6 : Int} {l7 : AV} {x0 : Int} : WP m163 92 [.inr (.inl l0), .inl l1, .inl l2, .inl l3, .inr (.inr (.inl l4)), l5, .inl l6, l7] [.inr (.inr (.inl x0))] σ Q = WP m163 95 [.inr (.inl l0), .inl l1, .inl l2, .inl l3, .inr (.inr (.inl l4)), l5, .inl l6, l7] [.inr (.inr (.inl (2))), .inr (.inr (.inl x0))] σ Q := w_ldc2 d163_92 (by decide +kernel) (by decide)
theorem d163_95 : adec m163 95 = some (.lrem, 1) := by decide +kernel
theorem s163_95 {l0 : Nat} {l1 : Int} {l2 : Int} {l3 : Int} {l4 : Int} {l5 : AV} {l6 : Int} {l7 : AV} {x0 : Int} {x1 : Int} : WP m163 95 [.inr (.inl l0), .inl l1, .inl l2, .inl l3, .inr (.inr (.inl l4)), l5, .inl l6, l7] [.inr (.inr (.inl x1)), .inr (.inr (.inl x0))] σ Q = ((0 ≤ x0 ∧ 0 < x1 ∧ inL (x0 % x1)) ∧ WP m163 96 [.inr (.inl l0), .inl l1, .inl l2, .inl l3, .inr (.inr (.inl l4)), l5, .inl l6, l7] [.inr (.inr (.inl (x0 % x1)))] σ Q) := w_lrem d163_95
theorem d163_96 : adec m163 96 = some (.lconst 1, 1) := by decide +kernel
theorem s163_96 {l0 : Nat} {l1 : Int} {l2 : Int} {l3 : Int} {l4 : Int} {l5 : AV} {l6 : Int} {l7 : AV} {x0 : Int} : WP m163 96 [.inr (.inl l0), .inl l1, .inl l2, .inl l3, .inr (.inr (.inl l4)), l5, .inl l6, l7] [.inr (.inr (.inl x0))] σ Q = WP m163 97 [.inr (.inl l0), .inl l1, .inl l2, .inl l3, .inr (.inr (.inl l4)), l5, .inl l6, l7] [.inr (.inr (.inl (1))), .inr (.inr (.inl x0))] σ Q := w_lconst d163_96
theorem d163_97 : adec m163 97 = some (.lcmp, 1) := by decide +kernel
theorem s163_97 {l0 : Nat} {l1 : Int} {l2 : Int} {l3 : Int} {l4 : Int} {l5 : AV} {l6 : Int} {l7 : AV} {x0 : Int} {x1 : Int} : WP m163 97 [.inr (.inl l0), .inl l1, .inl l2, .inl l3, .inr (.inr (.inl l4)), l5, .inl l6, l7] [.inr (.inr (.inl x1)), .inr (.inr (.inl x0))] σ Q = WP m163 98 [.inr (.inl l0), .inl l1, .inl l2, .inl l3, .inr (.inr (.inl l4)), l5, .inl l6, l7] [.inl (cmpL x0 x1)] σ Q := w_ld d163_97 rfl
theorem d163_98 : adec m163 98 = some (.ifCond .ne (7), 3) := by decide +kernel
theorem s163_98 {l0 : Nat} {l1 : Int} {l2 : Int} {l3 : Int} {l4 : Int} {l5 : AV} {l6 : Int} {l7 : AV} {x0 : Int} : WP m163 98 [.inr (.inl l0), .inl l1, .inl l2, .inl l3, .inr (.inr (.inl l4)), l5, .inl l6, l7] [.inl x0] σ Q = (if x0 = 0 then WP m163 101 [.inr (.inl l0), .inl l1, .inl l2, .inl l3, .inr (.inr (.inl l4)), l5, .inl l6, l7] [] σ Q else WP m163 105 [.inr (.inl l0), .inl l1, .inl l2, .inl l3, .inr (.inr (.inl l4)), l5, .inl l6, l7] [] σ Q) := w_ifne d163_98 (by decide)
theorem d163_101 : adec m163 101 = some (.iconst (1), 1) := by decide +kernel
theorem s163_101 {l0 : Nat} {l1 : Int} {l2 : Int} {l3 : Int} {l4 : Int} {l5 : AV} {l6 : Int} {l7 : AV} : WP m163 101 [.inr (.inl l0), .inl l1, .inl l2, .inl l3, .inr (.inr (.inl l4)), l5, .inl l6, l7] [] σ Q = WP m163 102 [.inr (.inl l0), .inl l1, .inl l2, .inl l3, .inr (.inr (.inl l4)), l5, .inl l6, l7] [.inl (1)] σ Q := w_iconst d163_101 (by decide)
theorem d163_102 : adec m163 102 = some (.goto (4), 3) := by decide +kernel
theorem s163_102 {l0 : Nat} {l1 : Int} {l2 : Int} {l3 : Int} {l4 : Int} {l5 : AV} {l6 : Int} {l7 : AV} {x0 : Int} : WP m163 102 [.inr (.inl l0), .inl l1, .inl l2, .inl l3, .inr (.inr (.inl l4)), l5, .inl l6, l7] [.inl x0] σ Q = WP m163 106 [.inr (.inl l0), .inl l1, .inl l2, .inl l3, .inr (.inr (.inl l4)), l5, .inl l6, l7] [.inl x0] σ Q := w_goto d163_102 (by decide)
theorem d163_105 : adec m163 105 = some (.iconst (0), 1) := by decide +kernel
theorem s163_105 {l0 : Nat} {l1 : Int} {l2 : Int} {l3 : Int} {l4 : Int} {l5 : AV} {l6 : Int} {l7 : AV} : WP m163 105 [.inr (.inl l0), .inl l1, .inl l2, .inl l3, .inr (.inr (.inl l4)), l5, .inl l6, l7] [] σ Q = WP m163 106 [.inr (.inl l0), .inl l1, .inl l2, .inl l3, .inr (.inr (.inl l4)), l5, .inl l6, l7] [.inl (0)] σ Q := w_iconst d163_105 (by decide)
theorem d163_106 : adec m163 106 = some (.istore 7, 2) := by decide +kernel
theorem s163_106 {l0 : Nat} {l1 : Int} {l2 : Int} {l3 : Int} {l4 : Int} {l5 : AV} {l6 : Int} {l7 : AV} {x0 : Int} : WP m163 106 [.inr (.inl l0), .inl l1, .inl l2, .inl l3, .inr (.inr (.inl l4)), l5, .inl l6, l7] [.inl x0] σ Q = WP m163 108 [.inr (.inl l0), .inl l1, .inl l2, .inl l3, .inr (.inr (.inl l4)), l5, .inl l6, .inl x0] [] σ Q := w_st1 (j := 7) d163_106 rfl (Nat.le_of_ble_eq_true rfl) rfl
theorem d163_108 : adec m163 108 = some (.lload 4, 2) := by decide +kernel
theorem s163_108 {l0 : Nat} {l1 : Int} {l2 : Int} {l3 : Int} {l4 : Int} {l5 : AV} {l6 : Int} {l7 : Int} : WP m163 108 [.inr (.inl l0), .inl l1, .inl l2, .inl l3, .inr (.inr (.inl l4)), l5, .inl l6, .inl l7] [] σ Q = WP m163 110 [.inr (.inl l0), .inl l1, .inl l2, .inl l3, .inr (.inr (.inl l4)), l5, .inl l6, .inl l7] [.inr (.inr (.inl l4))] σ Q := w_ld d163_108 rfl
theorem d163_110 : adec m163 110 = some (.ldc2_w 215, 3) := by decide +kernel
theorem s163_110 {l0 : Nat} {l1 : Int} {l2 : Int} {l3 : Int} {l4 : Int} {l5 : AV} {l6 : Int} {l7 : Int} {x0 : Int} : WP m163 110 [.inr (.inl l0), .inl l1, .inl l2, .inl l3, .inr (.inr (.inl l4)), l5, .inl l6, .inl l7] [.inr (.inr (.inl x0))] σ Q = WP m163 113 [.inr (.inl l0), .inl l1, .inl l2, .inl l3, .inr (.inr (.inl l4)), l5, .inl l6, .inl l7] [.inr (.inr (.inl (16807))), .inr (.inr (.inl x0))] σ Q := w_ldc2 d163_110 (by decide +kernel) (by decide)
theorem d163_113 : adec m163 113 = some (.lmul, 1) := by decide +kernel
theorem s163_113 {l0 : Nat} {l1 : Int} {l2 : Int} {l3 : Int} {l4 : Int} {l5 : AV} {l6 : Int} {l7 : Int} {x0 : Int} {x1 : Int} : WP m163 113 [.inr (.inl l0), .inl l1, .inl l2, .inl l3, .inr (.inr (.inl l4)), l5, .inl l6, .inl l7] [.inr (.inr (.inl x1)), .inr (.inr (.inl x0))] σ Q = (inL (x0 * x1) ∧ WP m163 114 [.inr (.inl l0), .inl l1, .inl l2, .inl l3, .inr (.inr (.inl l4)), l5, .inl l6, .inl l7] [.inr (.inr (.inl (x0 * x1)))] σ Q) := w_lmul d163_113
theorem d163_114 : adec m163 114 = some (.ldc2_w 217, 3) := by decide +kernel
theorem s163_114 {l0 : Nat} {l1 : Int} {l2 : Int} {l3 : Int} {l4 : Int} {l5 : AV} {l6 : Int} {l7 : Int} {x0 : Int} : WP m163 114 [.inr (.inl l0), .inl l1, .inl l2, .inl l3, .inr (.inr (.inl l4)), l5, .inl l6, .inl l7] [.inr (.inr (.inl x0))] σ Q = WP m163 117 [.inr (.inl l0), .inl l1, .inl l2, .inl l3, .inr (.inr (.inl l4)), l5, .inl l6, .inl l7] [.inr (.inr (.inl (2147483647))), .inr (.inr (.inl x0))] σ Q := w_ldc2 d163_114 (by decide +kernel) (by decide)
theorem d163_117 : adec m163 117 = some (.lrem, 1) := by decide +kernel
theorem s163_117 {l0 : Nat} {l1 : Int} {l2 : Int} {l3 : Int} {l4 : Int} {l5 : AV} {l6 : Int} {l7 : Int} {x0 : Int} {x1 : Int} : WP m163 117 [.inr (.inl l0), .inl l1, .inl l2, .inl l3, .inr (.inr (.inl l4)), l5, .inl l6, .inl l7] [.inr (.inr (.inl x1)), .inr (.inr (.inl x0))] σ Q = ((0 ≤ x0 ∧ 0 < x1 ∧ inL (x0 % x1)) ∧ WP m163 118 [.inr (.inl l0), .inl l1, .inl l2, .inl l3, .inr (.inr (.inl l4)), l5, .inl l6, .inl l7] [.inr (.inr (.inl (x0 % x1)))] σ Q) := w_lrem d163_117
theorem d163_118 : adec m163 118 = some (.lstore 4, 2) := by decide +kernel
theorem s163_118 {l0 : Nat} {l1 : Int} {l2 : Int} {l3 : Int} {l4 : Int} {l5 : AV} {l6 : Int} {l7 : Int} {x0 : Int} : WP m163 118 [.inr (.inl l0), .inl l1, .inl l2, .inl l3, .inr (.inr (.inl l4)), l5, .inl l6, .inl l7] [.inr (.inr (.inl x0))] σ Q = WP m163 120 [.inr (.inl l0), .inl l1, .inl l2, .inl l3, .inr (.inr (.inl x0)), vU, .inl l6, .inl l7] [] σ Q := w_stL (j := 4) d163_118 rfl (Nat.le_of_ble_eq_true rfl) rfl
theorem d163_120 : adec m163 120 = some (.aload_n 0, 1) := by decide +kernel
theorem s163_120 {l0 : Nat} {l1 : Int} {l2 : Int} {l3 : Int} {l4 : Int} {l5 : AV} {l6 : Int} {l7 : Int} : WP m163 120 [.inr (.inl l0), .inl l1, .inl l2, .inl l3, .inr (.inr (.inl l4)), l5, .inl l6, .inl l7] [] σ Q = WP m163 121 [.inr (.inl l0), .inl l1, .inl l2, .inl l3, .inr (.inr (.inl l4)), l5, .inl l6, .inl l7] [.inr (.inl l0)] σ Q := w_ld d163_120 rfl
theorem d163_121 : adec m163 121 = some (.iconst (0), 1) := by decide +kernel
theorem s163_121 {l0 : Nat} {l1 : Int} {l2 : Int} {l3 : Int} {l4 : Int} {l5 : AV} {l6 : Int} {l7 : Int} {x0 : Nat} : WP m163 121 [.inr (.inl l0), .inl l1, .inl l2, .inl l3, .inr (.inr (.inl l4)), l5, .inl l6, .inl l7] [.inr (.inl x0)] σ Q = WP m163 122 [.inr (.inl l0), .inl l1, .inl l2, .inl l3, .inr (.inr (.inl l4)), l5, .inl l6, .inl l7] [.inl (0), .inr (.inl x0)] σ Q := w_iconst d163_121 (by decide)
theorem d163_122 : adec m163 122 = some (.putfield 97, 3) := by decide +kernel
theorem s163_122 {l0 : Nat} {l1 : Int} {l2 : Int} {l3 : Int} {l4 : Int} {l5 : AV} {l6 : Int} {l7 : Int} {x1 : Int} : WP m163 122 [.inr (.inl l0), .inl l1, .inl l2, .inl l3, .inr (.inr (.inl l4)), l5, .inl l6, .inl l7] [.inl x1, .inr (.inl 130)] σ Q = WP m163 125 [.inr (.inl l0), .inl l1, .inl l2, .inl l3, .inr (.inr (.inl l4)), l5, .inl l6, .inl l7] [] (aup σ 130 9 x1) Q := (w_putI (c := 10) (n := 9) d163_122 (by decide +kernel) (by decide +kernel) (by decide +kernel)).trans (g_and (isO_dec (by decide +kernel)))
theorem d163_125 : adec m163 125 = some (.aload_n 0, 1) := by decide +kernel
theorem s163_125 {l0 : Nat} {l1 : Int} {l2 : Int} {l3 : Int} {l4 : Int} {l5 : AV} {l6 : Int} {l7 : Int} : WP m163 125 [.inr (.inl l0), .inl l1, .inl l2, .inl l3, .inr (.inr (.inl l4)), l5, .inl l6, .inl l7] [] σ Q = WP m163 126 [.inr (.inl l0), .inl l1, .inl l2, .inl l3, .inr (.inr (.inl l4)), l5, .inl l6, .inl l7] [.inr (.inl l0)] σ Q := w_ld d163_125 rfl
theorem d163_126 : adec m163 126 = some (.iconst (0), 1) := by decide +kernel
theorem s163_126 {l0 : Nat} {l1 : Int} {l2 : Int} {l3 : Int} {l4 : Int} {l5 : AV} {l6 : Int} {l7 : Int} {x0 : Nat} : WP m163 126 [.inr (.inl l0), .inl l1, .inl l2, .inl l3, .inr (.inr (.inl l4)), l5, .inl l6, .inl l7] [.inr (.inl x0)] σ Q = WP m163 127 [.inr (.inl l0), .inl l1, .inl l2, .inl l3, .inr (.inr (.inl l4)), l5, .inl l6, .inl l7] [.inl (0), .inr (.inl x0)] σ Q := w_iconst d163_126 (by decide)
theorem d163_127 : adec m163 127 = some (.invokevirtual 168, 3) := by decide +kernel
theorem s163_127 {l0 : Nat} {l1 : Int} {l2 : Int} {l3 : Int} {l4 : Int} {l5 : AV} {l6 : Int} {l7 : Int} {x1 : Int} : WP m163 127 [.inr (.inl l0), .inl l1, .inl l2, .inl l3, .inr (.inr (.inl l4)), l5, .inl l6, .inl l7] [.inl x1, .inr (.inl 130)] σ Q = CA m134 [.inr (.inl 130), .inl x1] σ (fun v σ2 => WP m163 130 [.inr (.inl l0), .inl l1, .inl l2, .inl l3, .inr (.inr (.inl l4)), l5, .inl l6, .inl l7] (v ++ []) σ2 Q) := (w_cV (k := 134) d163_127 (by decide +kernel) m134_at rfl rfl ⟨Nat.le_of_ble_eq_true rfl, Nat.le_of_ble_eq_true rfl, Nat.le_of_ble_eq_true rfl⟩ (by decide)).trans (g_and (isO_dec (by decide +kernel)))
theorem d163_130 : adec m163 130 = some (.iload 7, 2) := by decide +kernel
theorem s163_130 {l0 : Nat} {l1 : Int} {l2 : Int} {l3 : Int} {l4 : Int} {l5 : AV} {l6 : Int} {l7 : Int} : WP m163 130 [.inr (.inl l0), .inl l1, .inl l2, .inl l3, .inr (.inr (.inl l4)), l5, .inl l6, .inl l7] [] σ Q = WP m163 132 [.inr (.inl l0), .inl l1, .inl l2, .inl l3, .inr (.inr (.inl l4)), l5, .inl l6, .inl l7] [.inl l7] σ Q := w_ld d163_130 rfl
theorem d163_132 : adec m163 132 = some (.ifCond .eq (16), 3) := by decide +kernel
theorem s163_132 {l0 : Nat} {l1 : Int} {l2 : Int} {l3 : Int} {l4 : Int} {l5 : AV} {l6 : Int} {l7 : Int} {x0 : Int} : WP m163 132 [.inr (.inl l0), .inl l1, .inl l2, .inl l3, .inr (.inr (.inl l4)), l5, .inl l6, .inl l7] [.inl x0] σ Q = (if x0 = 0 then WP m163 148 [.inr (.inl l0), .inl l1, .inl l2, .inl l3, .inr (.inr (.inl l4)), l5, .inl l6, .inl l7] [] σ Q else WP m163 135 [.inr (.inl l0), .inl l1, .inl l2, .inl l3, .inr (.inr (.inl l4)), l5, .inl l6, .inl l7] [] σ Q) := w_ifeq d163_132 (by decide)
theorem d163_135 : adec m163 135 = some (.aload_n 0, 1) := by decide +kernel
theorem s163_135 {l0 : Nat} {l1 : Int} {l2 : Int} {l3 : Int} {l4 : Int} {l5 : AV} {l6 : Int} {l7 : Int} : WP m163 135 [.inr (.inl l0), .inl l1, .inl l2, .inl l3, .inr (.inr (.inl l4)), l5, .inl l6, .inl l7] [] σ Q = WP m163 136 [.inr (.inl l0), .inl l1, .inl l2, .inl l3, .inr (.inr (.inl l4)), l5, .inl l6, .inl l7] [.inr (.inl l0)] σ Q := w_ld d163_135 rfl
theorem d163_136 : adec m163 136 = some (.iconst (1), 1) := by decide +kernel
theorem s163_136 {l0 : Nat} {l1 : Int} {l2 : Int} {l3 : Int} {l4 : Int} {l5 : AV} {l6 : Int} {l7 : Int} {x0 : Nat} : WP m163 136 [.inr (.inl l0), .inl l1, .inl l2, .inl l3, .inr (.inr (.inl l4)), l5, .inl l6, .inl l7] [.inr (.inl x0)] σ Q = WP m163 137 [.inr (.inl l0), .inl l1, .inl l2, .inl l3, .inr (.inr (.inl l4)), l5, .inl l6, .inl l7] [.inl (1), .inr (.inl x0)] σ Q := w_iconst d163_136 (by decide)
theorem d163_137 : adec m163 137 = some (.lload 4, 2) := by decide +kernel
theorem s163_137 {l0 : Nat} {l1 : Int} {l2 : Int} {l3 : Int} {l4 : Int} {l5 : AV} {l6 : Int} {l7 : Int} {x0 : Nat} {x1 : Int} : WP m163 137 [.inr (.inl l0), .inl l1, .inl l2, .inl l3, .inr (.inr (.inl l4)), l5, .inl l6, .inl l7] [.inl x1, .inr (.inl x0)] σ Q = WP m163 139 [.inr (.inl l0), .inl l1, .inl l2, .inl l3, .inr (.inr (.inl l4)), l5, .inl l6, .inl l7] [.inr (.inr (.inl l4)), .inl x1, .inr (.inl x0)] σ Q := w_ld d163_137 rfl
theorem d163_139 : adec m163 139 = some (.ldc2_w 219, 3) := by decide +kernel
theorem s163_139 {l0 : Nat} {l1 : Int} {l2 : Int} {l3 : Int} {l4 : Int} {l5 : AV} {l6 : Int} {l7 : Int} {x0 : Nat} {x1 : Int} {x2 : Int} : WP m163 139 [.inr (.inl l0), .inl l1, .inl l2, .inl l3, .inr (.inr (.inl l4)), l5, .inl l6, .inl l7] [.inr (.inr (.inl x2)), .inl x1, .inr (.inl x0)] σ Q = WP m163 142 [.inr (.inl l0), .inl l1, .inl l2, .inl l3, .inr (.inr (.inl l4)), l5, .inl l6, .inl l7] [.inr (.inr (.inl (5))), .inr (.inr (.inl x2)), .inl x1, .inr (.inl x0)] σ Q := w_ldc2 d163_139 (by decide +kernel) (by decide)
theorem d163_142 : adec m163 142 = some (.lrem, 1) := by decide +kernel
theorem s163_142 {l0 : Nat} {l1 : Int} {l2 : Int} {l3 : Int} {l4 : Int} {l5 : AV} {l6 : Int} {l7 : Int} {x0 : Nat} {x1 : Int} {x2 : Int} {x3 : Int} : WP m163 142 [.inr (.inl l0), .inl l1, .inl l2, .inl l3, .inr (.inr (.inl l4)), l5, .inl l6, .inl l7] [.inr (.inr (.inl x3)), .inr (.inr (.inl x2)), .inl x1, .inr (.inl x0)] σ Q = ((0 ≤ x2 ∧ 0 < x3 ∧ inL (x2 % x3)) ∧ WP m163 143 [.inr (.inl l0), .inl l1, .inl l2, .inl l3, .inr (.inr (.inl l4)), l5, .inl l6, .inl l7] [.inr (.inr (.inl (x2 % x3))), .inl x1, .inr (.inl x0)] σ Q) := w_lrem d163_142
theorem d163_143 : adec m163 143 = some (.l2i, 1) := by decide +kernel
theorem s163_143 {l0 : Nat} {l1 : Int} {l2 : Int} {l3 : Int} {l4 : Int} {l5 : AV} {l6 : Int} {l7 : Int} {x0 : Nat} {x1 : Int} {x2 : Int} : WP m163 143 [.inr (.inl l0), .inl l1, .inl l2, .inl l3, .inr (.inr (.inl l4)), l5, .inl l6, .inl l7] [.inr (.inr (.inl x2)), .inl x1, .inr (.inl x0)] σ Q = (inI x2 ∧ WP m163 144 [.inr (.inl l0), .inl l1, .inl l2, .inl l3, .inr (.inr (.inl l4)), l5, .inl l6, .inl l7] [.inl x2, .inl x1, .inr (.inl x0)] σ Q) := w_l2i d163_143
theorem d163_144 : adec m163 144 = some (.iadd, 1) := by decide +kernel
theorem s163_144 {l0 : Nat} {l1 : Int} {l2 : Int} {l3 : Int} {l4 : Int} {l5 : AV} {l6 : Int} {l7 : Int} {x0 : Nat} {x1 : Int} {x2 : Int} : WP m163 144 [.inr (.inl l0), .inl l1, .inl l2, .inl l3, .inr (.inr (.inl l4)), l5, .inl l6, .inl l7] [.inl x2, .inl x1, .inr (.inl x0)] σ Q = (inI (x1 + x2) ∧ WP m163 145 [.inr (.inl l0), .inl l1, .inl l2, .inl l3, .inr (.inr (.inl l4)), l5, .inl l6, .inl l7] [.inl (x1 + x2), .inr (.inl x0)] σ Q) := w_iadd d163_144
theorem d163_145 : adec m163 145 = some (.invokevirtual 168, 3) := by decide +kernel
theorem s163_145 {l0 : Nat} {l1 : Int} {l2 : Int} {l3 : Int} {l4 : Int} {l5 : AV} {l6 : Int} {l7 : Int} {x1 : Int} : WP m163 145 [.inr (.inl l0), .inl l1, .inl l2, .inl l3, .inr (.inr (.inl l4)), l5, .inl l6, .inl l7] [.inl x1, .inr (.inl 130)] σ Q = CA m134 [.inr (.inl 130), .inl x1] σ (fun v σ2 => WP m163 148 [.inr (.inl l0), .inl l1, .inl l2, .inl l3, .inr (.inr (.inl l4)), l5, .inl l6, .inl l7] (v ++ []) σ2 Q) := (w_cV (k := 134) d163_145 (by decide +kernel) m134_at rfl rfl ⟨Nat.le_of_ble_eq_true rfl, Nat.le_of_ble_eq_true rfl, Nat.le_of_ble_eq_true rfl⟩ (by decide)).trans (g_and (isO_dec (by decide +kernel)))
theorem d163_148 : adec m163 148 = some (.aload_n 0, 1) := by decide +kernel
theorem s163_148 {l0 : Nat} {l1 : Int} {l2 : Int} {l3 : Int} {l4 : Int} {l5 : AV} {l6 : Int} {l7 : Int} : WP m163 148 [.inr (.inl l0), .inl l1, .inl l2, .inl l3, .inr (.inr (.inl l4)), l5, .inl l6, .inl l7] [] σ Q = WP m163 149 [.inr (.inl l0), .inl l1, .inl l2, .inl l3, .inr (.inr (.inl l4)), l5, .inl l6, .inl l7] [.inr (.inl l0)] σ Q := w_ld d163_148 rfl
theorem d163_149 : adec m163 149 = some (.iconst (0), 1) := by decide +kernel
theorem s163_149 {l0 : Nat} {l1 : Int} {l2 : Int} {l3 : Int} {l4 : Int} {l5 : AV} {l6 : Int} {l7 : Int} {x0 : Nat} : WP m163 149 [.inr (.inl l0), .inl l1, .inl l2, .inl l3, .inr (.inr (.inl l4)), l5, .inl l6, .inl l7] [.inr (.inl x0)] σ Q = WP m163 150 [.inr (.inl l0), .inl l1, .inl l2, .inl l3, .inr (.inr (.inl l4)), l5, .inl l6, .inl l7] [.inl (0), .inr (.inl x0)] σ Q := w_iconst d163_149 (by decide)
theorem d163_150 : adec m163 150 = some (.invokevirtual 179, 3) := by decide +kernel
theorem s163_150 {l0 : Nat} {l1 : Int} {l2 : Int} {l3 : Int} {l4 : Int} {l5 : AV} {l6 : Int} {l7 : Int} {x1 : Int} : WP m163 150 [.inr (.inl l0), .inl l1, .inl l2, .inl l3, .inr (.inr (.inl l4)), l5, .inl l6, .inl l7] [.inl x1, .inr (.inl 130)] σ Q = CA m151 [.inr (.inl 130), .inl x1] σ (fun v σ2 => WP m163 153 [.inr (.inl l0), .inl l1, .inl l2, .inl l3, .inr (.inr (.inl l4)), l5, .inl l6, .inl l7] (v ++ []) σ2 Q) := (w_cV (k := 151) d163_150 (by decide +kernel) m151_at rfl rfl ⟨Nat.le_of_ble_eq_true rfl, Nat.le_of_ble_eq_true rfl, Nat.le_of_ble_eq_true rfl⟩ (by decide)).trans (g_and (isO_dec (by decide +kernel)))
theorem d163_153 : adec m163 153 = some (.iload 7, 2) := by decide +kernel
theorem s163_153 {l0 : Nat} {l1 : Int} {l2 : Int} {l3 : Int} {l4 : Int} {l5 : AV} {l6 : Int} {l7 : Int} : WP m163 153 [.inr (.inl l0), .inl l1, .inl l2, .inl l3, .inr (.inr (.inl l4)), l5, .inl l6, .inl l7] [] σ Q = WP m163 155 [.inr (.inl l0), .inl l1, .inl l2, .inl l3, .inr (.inr (.inl l4)), l5, .inl l6, .inl l7] [.inl l7] σ Q := w_ld d163_153 rfl
theorem d163_155 : adec m163 155 = some (.ifCond .ne (16), 3) := by decide +kernel
theorem s163_155 {l0 : Nat} {l1 : Int} {l2 : Int} {l3 : Int} {l4 : Int} {l5 : AV} {l6 : Int} {l7 : Int} {x0 : Int} : WP m163 155 [.inr (.inl l0), .inl l1, .inl l2, .inl l3, .inr (.inr (.inl l4)), l5, .inl l6, .inl l7] [.inl x0] σ Q = (if x0 = 0 then WP m163 158 [.inr (.inl l0), .inl l1, .inl l2, .inl l3, .inr (.inr (.inl l4)), l5, .inl l6, .inl l7] [] σ Q else WP m163 171 [.inr (.inl l0), .inl l1, .inl l2, .inl l3, .inr (.inr (.inl l4)), l5, .inl l6, .inl l7] [] σ Q) := w_ifne d163_155 (by decide)
theorem d163_158 : adec m163 158 = some (.aload_n 0, 1) := by decide +kernel
theorem s163_158 {l0 : Nat} {l1 : Int} {l2 : Int} {l3 : Int} {l4 : Int} {l5 : AV} {l6 : Int} {l7 : Int} : WP m163 158 [.inr (.inl l0), .inl l1, .inl l2, .inl l3, .inr (.inr (.inl l4)), l5, .inl l6, .inl l7] [] σ Q = WP m163 159 [.inr (.inl l0), .inl l1, .inl l2, .inl l3, .inr (.inr (.inl l4)), l5, .inl l6, .inl l7] [.inr (.inl l0)] σ Q := w_ld d163_158 rfl
theorem d163_159 : adec m163 159 = some (.iconst (1), 1) := by decide +kernel
theorem s163_159 {l0 : Nat} {l1 : Int} {l2 : Int} {l3 : Int} {l4 : Int} {l5 : AV} {l6 : Int} {l7 : Int} {x0 : Nat} : WP m163 159 [.inr (.inl l0), .inl l1, .inl l2, .inl l3, .inr (.inr (.inl l4)), l5, .inl l6, .inl l7] [.inr (.inl x0)] σ Q = WP m163 160 [.inr (.inl l0), .inl l1, .inl l2, .inl l3, .inr (.inr (.inl l4)), l5, .inl l6, .inl l7] [.inl (1), .inr (.inl x0)] σ Q := w_iconst d163_159 (by decide)
theorem d163_160 : adec m163 160 = some (.lload 4, 2) := by decide +kernel
theorem s163_160 {l0 : Nat} {l1 : Int} {l2 : Int} {l3 : Int} {l4 : Int} {l5 : AV} {l6 : Int} {l7 : Int} {x0 : Nat} {x1 : Int} : WP m163 160 [.inr (.inl l0), .inl l1, .inl l2, .inl l3, .inr (.inr (.inl l4)), l5, .inl l6, .inl l7] [.inl x1, .inr (.inl x0)] σ Q = WP m163 162 [.inr (.inl l0), .inl l1, .inl l2, .inl l3, .inr (.inr (.inl l4)), l5, .inl l6, .inl l7] [.inr (.inr (.inl l4)), .inl x1, .inr (.inl x0)] σ Q := w_ld d163_160 rfl
theorem d163_162 : adec m163 162 = some (.ldc2_w 219, 3) := by decide +kernel
theorem s163_162 {l0 : Nat} {l1 : Int} {l2 : Int} {l3 : Int} {l4 : Int} {l5 : AV} {l6 : Int} {l7 : Int} {x0 : Nat} {x1 : Int} {x2 : Int} : WP m163 162 [.inr (.inl l0), .inl l1, .inl l2, .inl l3, .inr (.inr (.inl l4)), l5, .inl l6, .inl l7] [.inr (.inr (.inl x2)), .inl x1, .inr (.inl x0)] σ Q = WP m163 165 [.inr (.inl l0), .inl l1, .inl l2, .inl l3, .inr (.inr (.inl l4)), l5, .inl l6, .inl l7] [.inr (.inr (.inl (5))), .inr (.inr (.inl x2)), .inl x1, .inr (.inl x0)] σ Q := w_ldc2 d163_162 (by decide +kernel) (by decide)
theorem d163_165 : adec m163 165 = some (.lrem, 1) := by decide +kernel
theorem s163_165 {l0 : Nat} {l1 : Int} {l2 : Int} {l3 : Int} {l4 : Int} {l5 : AV} {l6 : Int} {l7 : Int} {x0 : Nat} {x1 : Int} {x2 : Int} {x3 : Int} : WP m163 165 [.inr (.inl l0), .inl l1, .inl l2, .inl l3, .inr (.inr (.inl l4)), l5, .inl l6, .inl l7] [.inr (.inr (.inl x3)), .inr (.inr (.inl x2)), .inl x1, .inr (.inl x0)] σ Q = ((0 ≤ x2 ∧ 0 < x3 ∧ inL (x2 % x3)) ∧ WP m163 166 [.inr (.inl l0), .inl l1, .inl l2, .inl l3, .inr (.inr (.inl l4)), l5, .inl l6, .inl l7] [.inr (.inr (.inl (x2 % x3))), .inl x1, .inr (.inl x0)] σ Q) := w_lrem d163_165
theorem d163_166 : adec m163 166 = some (.l2i, 1) := by decide +kernel
theorem s163_166 {l0 : Nat} {l1 : Int} {l2 : Int} {l3 : Int} {l4 : Int} {l5 : AV} {l6 : Int} {l7 : Int} {x0 : Nat} {x1 : Int} {x2 : Int} : WP m163 166 [.inr (.inl l0), .inl l1, .inl l2, .inl l3, .inr (.inr (.inl l4)), l5, .inl l6, .inl l7] [.inr (.inr (.inl x2)), .inl x1, .inr (.inl x0)] σ Q = (inI x2 ∧ WP m163 167 [.inr (.inl l0), .inl l1, .inl l2, .inl l3, .inr (.inr (.inl l4)), l5, .inl l6, .inl l7] [.inl x2, .inl x1, .inr (.inl x0)] σ Q) := w_l2i d163_166
theorem d163_167 : adec m163 167 = some (.iadd, 1) := by decide +kernel
theorem s163_167 {l0 : Nat} {l1 : Int} {l2 : Int} {l3 : Int} {l4 : Int} {l5 : AV} {l6 : Int} {l7 : Int} {x0 : Nat} {x1 : Int} {x2 : Int} : WP m163 167 [.inr (.inl l0), .inl l1, .inl l2, .inl l3, .inr (.inr (.inl l4)), l5, .inl l6, .inl l7] [.inl x2, .inl x1, .inr (.inl x0)] σ Q = (inI (x1 + x2) ∧ WP m163 168 [.inr (.inl l0), .inl l1, .inl l2, .inl l3, .inr (.inr (.inl l4)), l5, .inl l6, .inl l7] [.inl (x1 + x2), .inr (.inl x0)] σ Q) := w_iadd d163_167
theorem d163_168 : adec m163 168 = some (.invokevirtual 168, 3) := by decide +kernel
theorem s163_168 {l0 : Nat} {l1 : Int} {l2 : Int} {l3 : Int} {l4 : Int} {l5 : AV} {l6 : Int} {l7 : Int} {x1 : Int} : WP m163 168 [.inr (.inl l0), .inl l1, .inl l2, .inl l3, .inr (.inr (.inl l4)), l5, .inl l6, .inl l7] [.inl x1, .inr (.inl 130)] σ Q = CA m134 [.inr (.inl 130), .inl x1] σ (fun v σ2 => WP m163 171 [.inr (.inl l0), .inl l1, .inl l2, .inl l3, .inr (.inr (.inl l4)), l5, .inl l6, .inl l7] (v ++ []) σ2 Q) := (w_cV (k := 134) d163_168 (by decide +kernel) m134_at rfl rfl ⟨Nat.le_of_ble_eq_true rfl, Nat.le_of_ble_eq_true rfl, Nat.le_of_ble_eq_true rfl⟩ (by decide)).trans (g_and (isO_dec (by decide +kernel)))
theorem d163_171 : adec m163 171 = some (.aload_n 0, 1) := by decide +kernel
theorem s163_171 {l0 : Nat} {l1 : Int} {l2 : Int} {l3 : Int} {l4 : Int} {l5 : AV} {l6 : Int} {l7 : Int} : WP m163 171 [.inr (.inl l0), .inl l1, .inl l2, .inl l3, .inr (.inr (.inl l4)), l5, .inl l6, .inl l7] [] σ Q = WP m163 172 [.inr (.inl l0), .inl l1, .inl l2, .inl l3, .inr (.inr (.inl l4)), l5, .inl l6, .inl l7] [.inr (.inl l0)] σ Q := w_ld d163_171 rfl
theorem d163_172 : adec m163 172 = some (.invokevirtual 192, 3) := by decide +kernel
theorem s163_172 {l0 : Nat} {l1 : Int} {l2 : Int} {l3 : Int} {l4 : Int} {l5 : AV} {l6 : Int} {l7 : Int} : WP m163 172 [.inr (.inl l0), .inl l1, .inl l2, .inl l3, .inr (.inr (.inl l4)), l5, .inl l6, .inl l7] [.inr (.inl 130)] σ Q = CA m139 [.inr (.inl 130)] σ (fun v σ2 => WP m163 175 [.inr (.inl l0), .inl l1, .inl l2, .inl l3, .inr (.inr (.inl l4)), l5, .inl l6, .inl l7] (v ++ []) σ2 Q) := (w_cV (k := 139) d163_172 (by decide +kernel) m139_at rfl rfl ⟨Nat.le_of_ble_eq_true rfl, Nat.le_of_ble_eq_true rfl, Nat.le_of_ble_eq_true rfl⟩ (by decide)).trans (g_and (isO_dec (by decide +kernel)))
theorem d163_175 : adec m163 175 = some (.iinc 6 (1), 3) := by decide +kernel
theorem s163_175 {l0 : Nat} {l1 : Int} {l2 : Int} {l3 : Int} {l4 : Int} {l5 : AV} {l6 : Int} {l7 : Int} (hg : isL l5 = false) : WP m163 175 [.inr (.inl l0), .inl l1, .inl l2, .inl l3, .inr (.inr (.inl l4)), l5, .inl l6, .inl l7] [] σ Q = (inI (l6 + (1)) ∧ WP m163 178 [.inr (.inl l0), .inl l1, .inl l2, .inl l3, .inr (.inr (.inl l4)), l5, .inl (l6 + (1)), .inl l7] [] σ Q) := w_iinc d163_175 rfl (by simp [okSt, hg])
theorem d163_178 : adec m163 178 = some (.goto (-106), 3) := by decide +kernel
theorem s163_178 {l0 : Nat} {l1 : Int} {l2 : Int} {l3 : Int} {l4 : Int} {l5 : AV} {l6 : Int} {l7 : Int} : WP m163 178 [.inr (.inl l0), .inl l1, .inl l2, .inl l3, .inr (.inr (.inl l4)), l5, .inl l6, .inl l7] [] σ Q = WP m163 72 [.inr (.inl l0), .inl l1, .inl l2, .inl l3, .inr (.inr (.inl l4)), l5, .inl l6, .inl l7] [] σ Q := w_goto d163_178 (by decide)
theorem d163_181 : adec m163 181 = some (.aload_n 0, 1) := by decide +kernel
theorem s163_181 {l0 : Nat} {l1 : Int} {l2 : Int} {l3 : Int} {l4 : Int} {l5 : AV} {l6 : Int} {l7 : AV} : WP m163 181 [.inr (.inl l0), .inl l1, .inl l2, .inl l3, .inr (.inr (.inl l4)), l5, .inl l6, l7] [] σ Q = WP m163 182 [.inr (.inl l0), .inl l1, .inl l2, .inl l3, .inr (.inr (.inl l4)), l5, .inl l6, l7] [.inr (.inl l0)] σ Q := w_ld d163_181 rfl
theorem d163_182 : adec m163 182 = some (.iload_n 1, 1) := by decide +kernel
theorem s163_182 {l0 : Nat} {l1 : Int} {l2 : Int} {l3 : Int} {l4 : Int} {l5 : AV} {l6 : Int} {l7 : AV} {x0 : Nat} : WP m163 182 [.inr (.inl l0), .inl l1, .inl l2, .inl l3, .inr (.inr (.inl l4)), l5, .inl l6, l7] [.inr (.inl x0)] σ Q = WP m163 183 [.inr (.inl l0), .inl l1, .inl l2, .inl l3, .inr (.inr (.inl l4)), l5, .inl l6, l7] [.inl l1, .inr (.inl x0)] σ Q := w_ld d163_182 rfl
theorem d163_183 : adec m163 183 = some (.invokevirtual 159, 3) := by decide +kernel
theorem s163_183 {l0 : Nat} {l1 : Int} {l2 : Int} {l3 : Int} {l4 : Int} {l5 : AV} {l6 : Int} {l7 : AV} {x1 : Int} : WP m163 183 [.inr (.inl l0), .inl l1, .inl l2, .inl l3, .inr (.inr (.inl l4)), l5, .inl l6, l7] [.inl x1, .inr (.inl 130)] σ Q = CA m138 [.inr (.inl 130), .inl x1] σ (fun v σ2 => WP m163 186 [.inr (.inl l0), .inl l1, .inl l2, .inl l3, .inr (.inr (.inl l4)), l5, .inl l6, l7] (v ++ []) σ2 Q) := (w_cV (k := 138) d163_183 (by decide +kernel) m138_at rfl rfl ⟨Nat.le_of_ble_eq_true rfl, Nat.le_of_ble_eq_true rfl, Nat.le_of_ble_eq_true rfl⟩ (by decide)).trans (g_and (isO_dec (by decide +kernel)))
theorem d163_186 : adec m163 186 = some (.ireturn, 1) := by decide +kernel
theorem s163_186 {l0 : Nat} {l1 : Int} {l2 : Int} {l3 : Int} {l4 : Int} {l5 : AV} {l6 : Int} {l7 : AV} {x0 : Int} : WP m163 186 [.inr (.inl l0), .inl l1, .inl l2, .inl l3, .inr (.inr (.inl l4)), l5, .inl l6, l7] [.inl x0] σ Q = Q [.inl x0] σ := w_ri d163_186 rfl
theorem e163 {p0 : Nat} {p1 : Int} {p2 : Int} {p3 : Int} : CA m163 [.inr (.inl p0), .inl p1, .inl p2, .inl p3] σ Q = WP m163 0 [.inr (.inl p0), .inl p1, .inl p2, .inl p3, vU, vU, vU, vU] [] σ Q := rfl
-- BinderPressModel.undo()I
theorem d164_0 : adec m164 0 = some (.aload_n 0, 1) := by decide +kernel
theorem s164_0 {l0 : Nat} : WP m164 0 [.inr (.inl l0)] [] σ Q = WP m164 1 [.inr (.inl l0)] [.inr (.inl l0)] σ Q := w_ld d164_0 rfl
theorem d164_1 : adec m164 1 = some (.getfield 107, 3) := by decide +kernel
theorem s164_1 {l0 : Nat} : WP m164 1 [.inr (.inl l0)] [.inr (.inl 130)] σ Q = WP m164 4 [.inr (.inl l0)] [.inl (σ 130 1)] σ Q := (w_getI (c := 10) (n := 1) d164_1 (by decide +kernel) (by decide +kernel)).trans (g_and (isO_dec (by decide +kernel)))
theorem d164_4 : adec m164 4 = some (.ifCond .ne (6), 3) := by decide +kernel
theorem s164_4 {l0 : Nat} {x0 : Int} : WP m164 4 [.inr (.inl l0)] [.inl x0] σ Q = (if x0 = 0 then WP m164 7 [.inr (.inl l0)] [] σ Q else WP m164 10 [.inr (.inl l0)] [] σ Q) := w_ifne d164_4 (by decide)
theorem d164_7 : adec m164 7 = some (.ldc 195, 2) := by decide +kernel
theorem s164_7 {l0 : Nat} : WP m164 7 [.inr (.inl l0)] [] σ Q = WP m164 9 [.inr (.inl l0)] [.inl (-1000000003)] σ Q := w_ldc d164_7 (by decide +kernel) (by decide)
theorem d164_9 : adec m164 9 = some (.ireturn, 1) := by decide +kernel
theorem s164_9 {l0 : Nat} {x0 : Int} : WP m164 9 [.inr (.inl l0)] [.inl x0] σ Q = Q [.inl x0] σ := w_ri d164_9 rfl
theorem d164_10 : adec m164 10 = some (.aload_n 0, 1) := by decide +kernel
theorem s164_10 {l0 : Nat} : WP m164 10 [.inr (.inl l0)] [] σ Q = WP m164 11 [.inr (.inl l0)] [.inr (.inl l0)] σ Q := w_ld d164_10 rfl
theorem d164_11 : adec m164 11 = some (.dup, 1) := by decide +kernel
theorem s164_11 {l0 : Nat} {x0 : Nat} : WP m164 11 [.inr (.inl l0)] [.inr (.inl x0)] σ Q = WP m164 12 [.inr (.inl l0)] [.inr (.inl x0), .inr (.inl x0)] σ Q := w_ld d164_11 rfl
theorem d164_12 : adec m164 12 = some (.getfield 107, 3) := by decide +kernel
theorem s164_12 {l0 : Nat} {x0 : Nat} : WP m164 12 [.inr (.inl l0)] [.inr (.inl 130), .inr (.inl x0)] σ Q = WP m164 15 [.inr (.inl l0)] [.inl (σ 130 1), .inr (.inl x0)] σ Q := (w_getI (c := 10) (n := 1) d164_12 (by decide +kernel) (by decide +kernel)).trans (g_and (isO_dec (by decide +kernel)))
theorem d164_15 : adec m164 15 = some (.iconst (1), 1) := by decide +kernel
theorem s164_15 {l0 : Nat} {x0 : Nat} {x1 : Int} : WP m164 15 [.inr (.inl l0)] [.inl x1, .inr (.inl x0)] σ Q = WP m164 16 [.inr (.inl l0)] [.inl (1), .inl x1, .inr (.inl x0)] σ Q := w_iconst d164_15 (by decide)
theorem d164_16 : adec m164 16 = some (.isub, 1) := by decide +kernel
theorem s164_16 {l0 : Nat} {x0 : Nat} {x1 : Int} {x2 : Int} : WP m164 16 [.inr (.inl l0)] [.inl x2, .inl x1, .inr (.inl x0)] σ Q = (inI (x1 - x2) ∧ WP m164 17 [.inr (.inl l0)] [.inl (x1 - x2), .inr (.inl x0)] σ Q) := w_isub d164_16
theorem d164_17 : adec m164 17 = some (.putfield 107, 3) := by decide +kernel
theorem s164_17 {l0 : Nat} {x1 : Int} : WP m164 17 [.inr (.inl l0)] [.inl x1, .inr (.inl 130)] σ Q = WP m164 20 [.inr (.inl l0)] [] (aup σ 130 1 x1) Q := (w_putI (c := 10) (n := 1) d164_17 (by decide +kernel) (by decide +kernel) (by decide +kernel)).trans (g_and (isO_dec (by decide +kernel)))
theorem d164_20 : adec m164 20 = some (.aload_n 0, 1) := by decide +kernel
theorem s164_20 {l0 : Nat} : WP m164 20 [.inr (.inl l0)] [] σ Q = WP m164 21 [.inr (.inl l0)] [.inr (.inl l0)] σ Q := w_ld d164_20 rfl
theorem d164_21 : adec m164 21 = some (.sipush (484), 3) := by decide +kernel
theorem s164_21 {l0 : Nat} {x0 : Nat} : WP m164 21 [.inr (.inl l0)] [.inr (.inl x0)] σ Q = WP m164 24 [.inr (.inl l0)] [.inl (484), .inr (.inl x0)] σ Q := w_sipush d164_21 (by decide)
theorem d164_24 : adec m164 24 = some (.sipush (484), 3) := by decide +kernel
theorem s164_24 {l0 : Nat} {x0 : Nat} {x1 : Int} : WP m164 24 [.inr (.inl l0)] [.inl x1, .inr (.inl x0)] σ Q = WP m164 27 [.inr (.inl l0)] [.inl (484), .inl x1, .inr (.inl x0)] σ Q := w_sipush d164_24 (by decide)
theorem d164_27 : adec m164 27 = some (.aload_n 0, 1) := by decide +kernel
theorem s164_27 {l0 : Nat} {x0 : Nat} {x1 : Int} {x2 : Int} : WP m164 27 [.inr (.inl l0)] [.inl x2, .inl x1, .inr (.inl x0)] σ Q = WP m164 28 [.inr (.inl l0)] [.inr (.inl l0), .inl x2, .inl x1, .inr (.inl x0)] σ Q := w_ld d164_27 rfl
theorem d164_28 : adec m164 28 = some (.getfield 107, 3) := by decide +kernel
theorem s164_28 {l0 : Nat} {x0 : Nat} {x1 : Int} {x2 : Int} : WP m164 28 [.inr (.inl l0)] [.inr (.inl 130), .inl x2, .inl x1, .inr (.inl x0)] σ Q = WP m164 31 [.inr (.inl l0)] [.inl (σ 130 1), .inl x2, .inl x1, .inr (.inl x0)] σ Q := (w_getI (c := 10) (n := 1) d164_28 (by decide +kernel) (by decide +kernel)).trans (g_and (isO_dec (by decide +kernel)))
theorem d164_31 : adec m164 31 = some (.imul, 1) := by decide +kernel
theorem s164_31 {l0 : Nat} {x0 : Nat} {x1 : Int} {x2 : Int} {x3 : Int} : WP m164 31 [.inr (.inl l0)] [.inl x3, .inl x2, .inl x1, .inr (.inl x0)] σ Q = (inI (x2 * x3) ∧ WP m164 32 [.inr (.inl l0)] [.inl (x2 * x3), .inl x1, .inr (.inl x0)] σ Q) := w_imul d164_31
theorem d164_32 : adec m164 32 = some (.iadd, 1) := by decide +kernel
theorem s164_32 {l0 : Nat} {x0 : Nat} {x1 : Int} {x2 : Int} : WP m164 32 [.inr (.inl l0)] [.inl x2, .inl x1, .inr (.inl x0)] σ Q = (inI (x1 + x2) ∧ WP m164 33 [.inr (.inl l0)] [.inl (x1 + x2), .inr (.inl x0)] σ Q) := w_iadd d164_32
theorem d164_33 : adec m164 33 = some (.iconst (0), 1) := by decide +kernel
theorem s164_33 {l0 : Nat} {x0 : Nat} {x1 : Int} : WP m164 33 [.inr (.inl l0)] [.inl x1, .inr (.inl x0)] σ Q = WP m164 34 [.inr (.inl l0)] [.inl (0), .inl x1, .inr (.inl x0)] σ Q := w_iconst d164_33 (by decide)
theorem d164_34 : adec m164 34 = some (.invokevirtual 110, 3) := by decide +kernel
theorem s164_34 {l0 : Nat} {x1 : Int} {x2 : Int} : WP m164 34 [.inr (.inl l0)] [.inl x2, .inl x1, .inr (.inl 130)] σ Q = CA m135 [.inr (.inl 130), .inl x1, .inl x2] σ (fun v σ2 => WP m164 37 [.inr (.inl l0)] (v ++ []) σ2 Q) := (w_cV (k := 135) d164_34 (by decide +kernel) m135_at rfl rfl ⟨Nat.le_of_ble_eq_true rfl, Nat.le_of_ble_eq_true rfl, Nat.le_of_ble_eq_true rfl⟩ (by decide)).trans (g_and (isO_dec (by decide +kernel)))
theorem d164_37 : adec m164 37 = some (.aload_n 0, 1) := by decide +kernel
theorem s164_37 {l0 : Nat} : WP m164 37 [.inr (.inl l0)] [] σ Q = WP m164 38 [.inr (.inl l0)] [.inr (.inl l0)] σ Q := w_ld d164_37 rfl
theorem d164_38 : adec m164 38 = some (.getfield 107, 3) := by decide +kernel
theorem s164_38 {l0 : Nat} : WP m164 38 [.inr (.inl l0)] [.inr (.inl 130)] σ Q = WP m164 41 [.inr (.inl l0)] [.inl (σ 130 1)] σ Q := (w_getI (c := 10) (n := 1) d164_38 (by decide +kernel) (by decide +kernel)).trans (g_and (isO_dec (by decide +kernel)))
theorem d164_41 : adec m164 41 = some (.ireturn, 1) := by decide +kernel
theorem s164_41 {l0 : Nat} {x0 : Int} : WP m164 41 [.inr (.inl l0)] [.inl x0] σ Q = Q [.inl x0] σ := w_ri d164_41 rfl
theorem e164 {p0 : Nat} : CA m164 [.inr (.inl p0)] σ Q = WP m164 0 [.inr (.inl p0)] [] σ Q := rfl
end
