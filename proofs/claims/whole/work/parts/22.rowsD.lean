section
variable {σ : aSg} {Q : List AV → aSg → Prop}
-- BinderPress.feed(I)I
theorem d87_0 : adec m87 0 = some (.iload_n 1, 1) := by decide +kernel
theorem s87_0 {l0 : Nat} {l1 : Int} : WP m87 0 [.inr (.inl l0), .inl l1] [] σ Q = WP m87 1 [.inr (.inl l0), .inl l1] [.inl l1] σ Q := w_ld d87_0 rfl
theorem d87_1 : adec m87 1 = some (.ifCond .lt (10), 3) := by decide +kernel
theorem s87_1 {l0 : Nat} {l1 : Int} {x0 : Int} : WP m87 1 [.inr (.inl l0), .inl l1] [.inl x0] σ Q = (if x0 < 0 then WP m87 11 [.inr (.inl l0), .inl l1] [] σ Q else WP m87 4 [.inr (.inl l0), .inl l1] [] σ Q) := w_iflt d87_1 (by decide)
theorem d87_4 : adec m87 4 = some (.iload_n 1, 1) := by decide +kernel
theorem s87_4 {l0 : Nat} {l1 : Int} : WP m87 4 [.inr (.inl l0), .inl l1] [] σ Q = WP m87 5 [.inr (.inl l0), .inl l1] [.inl l1] σ Q := w_ld d87_4 rfl
theorem d87_5 : adec m87 5 = some (.sipush (255), 3) := by decide +kernel
theorem s87_5 {l0 : Nat} {l1 : Int} {x0 : Int} : WP m87 5 [.inr (.inl l0), .inl l1] [.inl x0] σ Q = WP m87 8 [.inr (.inl l0), .inl l1] [.inl (255), .inl x0] σ Q := w_sipush d87_5 (by decide)
theorem d87_8 : adec m87 8 = some (.if_icmp .le (6), 3) := by decide +kernel
theorem s87_8 {l0 : Nat} {l1 : Int} {x0 : Int} {x1 : Int} : WP m87 8 [.inr (.inl l0), .inl l1] [.inl x1, .inl x0] σ Q = (if x0 ≤ x1 then WP m87 14 [.inr (.inl l0), .inl l1] [] σ Q else WP m87 11 [.inr (.inl l0), .inl l1] [] σ Q) := w_icle d87_8 (by decide)
theorem d87_11 : adec m87 11 = some (.ldc 89, 2) := by decide +kernel
theorem s87_11 {l0 : Nat} {l1 : Int} : WP m87 11 [.inr (.inl l0), .inl l1] [] σ Q = WP m87 13 [.inr (.inl l0), .inl l1] [.inl (-1000000002)] σ Q := w_ldc d87_11 (by decide +kernel) (by decide)
theorem d87_13 : adec m87 13 = some (.ireturn, 1) := by decide +kernel
theorem s87_13 {l0 : Nat} {l1 : Int} {x0 : Int} : WP m87 13 [.inr (.inl l0), .inl l1] [.inl x0] σ Q = Q [.inl x0] σ := w_ri d87_13 rfl
theorem d87_14 : adec m87 14 = some (.aload_n 0, 1) := by decide +kernel
theorem s87_14 {l0 : Nat} {l1 : Int} : WP m87 14 [.inr (.inl l0), .inl l1] [] σ Q = WP m87 15 [.inr (.inl l0), .inl l1] [.inr (.inl l0)] σ Q := w_ld d87_14 rfl
theorem d87_15 : adec m87 15 = some (.getfield 14, 3) := by decide +kernel
theorem s87_15 {l0 : Nat} {l1 : Int} : WP m87 15 [.inr (.inl l0), .inl l1] [.inr (.inl 0)] σ Q = WP m87 18 [.inr (.inl l0), .inl l1] [.inr (.inl 1)] σ Q := (w_getR (c := 9) (n := 0) d87_15 (by decide +kernel) (by decide +kernel)).trans (g_and ⟨isO_dec (by decide +kernel), by decide +kernel⟩)
theorem d87_18 : adec m87 18 = some (.invokevirtual 90, 3) := by decide +kernel
theorem s87_18 {l0 : Nat} {l1 : Int} {x0 : Nat} : WP m87 18 [.inr (.inl l0), .inl l1] [.inr (.inl x0)] σ Q = (isO x0 3 ∧ CA m28 [.inr (.inl x0)] σ (fun v σ2 => WP m87 21 [.inr (.inl l0), .inl l1] (v ++ []) σ2 Q)) := w_cV (k := 28) d87_18 (by decide +kernel) m28_at rfl rfl ⟨Nat.le_of_ble_eq_true rfl, Nat.le_of_ble_eq_true rfl, Nat.le_of_ble_eq_true rfl⟩ (by decide)
theorem d87_21 : adec m87 21 = some (.sipush (240), 3) := by decide +kernel
theorem s87_21 {l0 : Nat} {l1 : Int} {x0 : Int} : WP m87 21 [.inr (.inl l0), .inl l1] [.inl x0] σ Q = WP m87 24 [.inr (.inl l0), .inl l1] [.inl (240), .inl x0] σ Q := w_sipush d87_21 (by decide)
theorem d87_24 : adec m87 24 = some (.if_icmp .lt (6), 3) := by decide +kernel
theorem s87_24 {l0 : Nat} {l1 : Int} {x0 : Int} {x1 : Int} : WP m87 24 [.inr (.inl l0), .inl l1] [.inl x1, .inl x0] σ Q = (if x0 < x1 then WP m87 30 [.inr (.inl l0), .inl l1] [] σ Q else WP m87 27 [.inr (.inl l0), .inl l1] [] σ Q) := w_iclt d87_24 (by decide)
theorem d87_27 : adec m87 27 = some (.ldc 94, 2) := by decide +kernel
theorem s87_27 {l0 : Nat} {l1 : Int} : WP m87 27 [.inr (.inl l0), .inl l1] [] σ Q = WP m87 29 [.inr (.inl l0), .inl l1] [.inl (-1000000004)] σ Q := w_ldc d87_27 (by decide +kernel) (by decide)
theorem d87_29 : adec m87 29 = some (.ireturn, 1) := by decide +kernel
theorem s87_29 {l0 : Nat} {l1 : Int} {x0 : Int} : WP m87 29 [.inr (.inl l0), .inl l1] [.inl x0] σ Q = Q [.inl x0] σ := w_ri d87_29 rfl
theorem d87_30 : adec m87 30 = some (.aload_n 0, 1) := by decide +kernel
theorem s87_30 {l0 : Nat} {l1 : Int} : WP m87 30 [.inr (.inl l0), .inl l1] [] σ Q = WP m87 31 [.inr (.inl l0), .inl l1] [.inr (.inl l0)] σ Q := w_ld d87_30 rfl
theorem d87_31 : adec m87 31 = some (.getfield 14, 3) := by decide +kernel
theorem s87_31 {l0 : Nat} {l1 : Int} : WP m87 31 [.inr (.inl l0), .inl l1] [.inr (.inl 0)] σ Q = WP m87 34 [.inr (.inl l0), .inl l1] [.inr (.inl 1)] σ Q := (w_getR (c := 9) (n := 0) d87_31 (by decide +kernel) (by decide +kernel)).trans (g_and ⟨isO_dec (by decide +kernel), by decide +kernel⟩)
theorem d87_34 : adec m87 34 = some (.iload_n 1, 1) := by decide +kernel
theorem s87_34 {l0 : Nat} {l1 : Int} {x0 : Nat} : WP m87 34 [.inr (.inl l0), .inl l1] [.inr (.inl x0)] σ Q = WP m87 35 [.inr (.inl l0), .inl l1] [.inl l1, .inr (.inl x0)] σ Q := w_ld d87_34 rfl
theorem d87_35 : adec m87 35 = some (.invokevirtual 95, 3) := by decide +kernel
theorem s87_35 {l0 : Nat} {l1 : Int} {x0 : Nat} {x1 : Int} : WP m87 35 [.inr (.inl l0), .inl l1] [.inl x1, .inr (.inl x0)] σ Q = (isO x0 3 ∧ CA m34 [.inr (.inl x0), .inl x1] σ (fun v σ2 => WP m87 38 [.inr (.inl l0), .inl l1] (v ++ []) σ2 Q)) := w_cV (k := 34) d87_35 (by decide +kernel) m34_at rfl rfl ⟨Nat.le_of_ble_eq_true rfl, Nat.le_of_ble_eq_true rfl, Nat.le_of_ble_eq_true rfl⟩ (by decide)
theorem d87_38 : adec m87 38 = some (.aload_n 0, 1) := by decide +kernel
theorem s87_38 {l0 : Nat} {l1 : Int} : WP m87 38 [.inr (.inl l0), .inl l1] [] σ Q = WP m87 39 [.inr (.inl l0), .inl l1] [.inr (.inl l0)] σ Q := w_ld d87_38 rfl
theorem d87_39 : adec m87 39 = some (.getfield 14, 3) := by decide +kernel
theorem s87_39 {l0 : Nat} {l1 : Int} : WP m87 39 [.inr (.inl l0), .inl l1] [.inr (.inl 0)] σ Q = WP m87 42 [.inr (.inl l0), .inl l1] [.inr (.inl 1)] σ Q := (w_getR (c := 9) (n := 0) d87_39 (by decide +kernel) (by decide +kernel)).trans (g_and ⟨isO_dec (by decide +kernel), by decide +kernel⟩)
theorem d87_42 : adec m87 42 = some (.invokevirtual 90, 3) := by decide +kernel
theorem s87_42 {l0 : Nat} {l1 : Int} {x0 : Nat} : WP m87 42 [.inr (.inl l0), .inl l1] [.inr (.inl x0)] σ Q = (isO x0 3 ∧ CA m28 [.inr (.inl x0)] σ (fun v σ2 => WP m87 45 [.inr (.inl l0), .inl l1] (v ++ []) σ2 Q)) := w_cV (k := 28) d87_42 (by decide +kernel) m28_at rfl rfl ⟨Nat.le_of_ble_eq_true rfl, Nat.le_of_ble_eq_true rfl, Nat.le_of_ble_eq_true rfl⟩ (by decide)
theorem d87_45 : adec m87 45 = some (.ireturn, 1) := by decide +kernel
theorem s87_45 {l0 : Nat} {l1 : Int} {x0 : Int} : WP m87 45 [.inr (.inl l0), .inl l1] [.inl x0] σ Q = Q [.inl x0] σ := w_ri d87_45 rfl
theorem e87 {p0 : Nat} {p1 : Int} : CA m87 [.inr (.inl p0), .inl p1] σ Q = WP m87 0 [.inr (.inl p0), .inl p1] [] σ Q := rfl
-- BinderPress.term(I)I
theorem d88_0 : adec m88 0 = some (.iload_n 1, 1) := by decide +kernel
theorem s88_0 {l0 : Nat} {l1 : Int} {l2 : AV} : WP m88 0 [.inr (.inl l0), .inl l1, l2] [] σ Q = WP m88 1 [.inr (.inl l0), .inl l1, l2] [.inl l1] σ Q := w_ld d88_0 rfl
theorem d88_1 : adec m88 1 = some (.invokestatic 98, 3) := by decide +kernel
theorem s88_1 {l0 : Nat} {l1 : Int} {l2 : AV} {x0 : Int} : WP m88 1 [.inr (.inl l0), .inl l1, l2] [.inl x0] σ Q = CA m113 [.inl x0] σ (fun v σ2 => WP m88 4 [.inr (.inl l0), .inl l1, l2] (v ++ []) σ2 Q) := w_cS (k := 113) d88_1 (by decide +kernel) (md := 1) (by decide +kernel) m113_at rfl rfl ⟨Nat.le_of_ble_eq_true rfl, Nat.le_of_ble_eq_true rfl, Nat.le_of_ble_eq_true rfl⟩ (by decide)
theorem d88_4 : adec m88 4 = some (.ifCond .ne (6), 3) := by decide +kernel
theorem s88_4 {l0 : Nat} {l1 : Int} {l2 : AV} {x0 : Int} : WP m88 4 [.inr (.inl l0), .inl l1, l2] [.inl x0] σ Q = (if x0 = 0 then WP m88 7 [.inr (.inl l0), .inl l1, l2] [] σ Q else WP m88 10 [.inr (.inl l0), .inl l1, l2] [] σ Q) := w_ifne d88_4 (by decide)
theorem d88_7 : adec m88 7 = some (.ldc 102, 2) := by decide +kernel
theorem s88_7 {l0 : Nat} {l1 : Int} {l2 : AV} : WP m88 7 [.inr (.inl l0), .inl l1, l2] [] σ Q = WP m88 9 [.inr (.inl l0), .inl l1, l2] [.inl (-1000000001)] σ Q := w_ldc d88_7 (by decide +kernel) (by decide)
theorem d88_9 : adec m88 9 = some (.ireturn, 1) := by decide +kernel
theorem s88_9 {l0 : Nat} {l1 : Int} {l2 : AV} {x0 : Int} : WP m88 9 [.inr (.inl l0), .inl l1, l2] [.inl x0] σ Q = Q [.inl x0] σ := w_ri d88_9 rfl
theorem d88_10 : adec m88 10 = some (.aload_n 0, 1) := by decide +kernel
theorem s88_10 {l0 : Nat} {l1 : Int} {l2 : AV} : WP m88 10 [.inr (.inl l0), .inl l1, l2] [] σ Q = WP m88 11 [.inr (.inl l0), .inl l1, l2] [.inr (.inl l0)] σ Q := w_ld d88_10 rfl
theorem d88_11 : adec m88 11 = some (.getfield 46, 3) := by decide +kernel
theorem s88_11 {l0 : Nat} {l1 : Int} {l2 : AV} : WP m88 11 [.inr (.inl l0), .inl l1, l2] [.inr (.inl 0)] σ Q = WP m88 14 [.inr (.inl l0), .inl l1, l2] [.inr (.inl 55)] σ Q := (w_getR (c := 9) (n := 6) d88_11 (by decide +kernel) (by decide +kernel)).trans (g_and ⟨isO_dec (by decide +kernel), by decide +kernel⟩)
theorem d88_14 : adec m88 14 = some (.aload_n 0, 1) := by decide +kernel
theorem s88_14 {l0 : Nat} {l1 : Int} {l2 : AV} {x0 : Nat} : WP m88 14 [.inr (.inl l0), .inl l1, l2] [.inr (.inl x0)] σ Q = WP m88 15 [.inr (.inl l0), .inl l1, l2] [.inr (.inl l0), .inr (.inl x0)] σ Q := w_ld d88_14 rfl
theorem d88_15 : adec m88 15 = some (.getfield 14, 3) := by decide +kernel
theorem s88_15 {l0 : Nat} {l1 : Int} {l2 : AV} {x0 : Nat} : WP m88 15 [.inr (.inl l0), .inl l1, l2] [.inr (.inl 0), .inr (.inl x0)] σ Q = WP m88 18 [.inr (.inl l0), .inl l1, l2] [.inr (.inl 1), .inr (.inl x0)] σ Q := (w_getR (c := 9) (n := 0) d88_15 (by decide +kernel) (by decide +kernel)).trans (g_and ⟨isO_dec (by decide +kernel), by decide +kernel⟩)
theorem d88_18 : adec m88 18 = some (.aload_n 0, 1) := by decide +kernel
theorem s88_18 {l0 : Nat} {l1 : Int} {l2 : AV} {x0 : Nat} {x1 : Nat} : WP m88 18 [.inr (.inl l0), .inl l1, l2] [.inr (.inl x1), .inr (.inl x0)] σ Q = WP m88 19 [.inr (.inl l0), .inl l1, l2] [.inr (.inl l0), .inr (.inl x1), .inr (.inl x0)] σ Q := w_ld d88_18 rfl
theorem d88_19 : adec m88 19 = some (.getfield 40, 3) := by decide +kernel
theorem s88_19 {l0 : Nat} {l1 : Int} {l2 : AV} {x0 : Nat} {x1 : Nat} : WP m88 19 [.inr (.inl l0), .inl l1, l2] [.inr (.inl 0), .inr (.inl x1), .inr (.inl x0)] σ Q = WP m88 22 [.inr (.inl l0), .inl l1, l2] [.inr (.inl 53), .inr (.inl x1), .inr (.inl x0)] σ Q := (w_getR (c := 9) (n := 5) d88_19 (by decide +kernel) (by decide +kernel)).trans (g_and ⟨isO_dec (by decide +kernel), by decide +kernel⟩)
theorem d88_22 : adec m88 22 = some (.invokevirtual 103, 3) := by decide +kernel
theorem s88_22 {l0 : Nat} {l1 : Int} {l2 : AV} {x1 : Nat} {x2 : Nat} : WP m88 22 [.inr (.inl l0), .inl l1, l2] [.inr (.inl x2), .inr (.inl x1), .inr (.inl 55)] σ Q = CA m17 [.inr (.inl 55), .inr (.inl x1), .inr (.inl x2)] σ (fun v σ2 => WP m88 25 [.inr (.inl l0), .inl l1, l2] (v ++ []) σ2 Q) := (w_cV (k := 17) d88_22 (by decide +kernel) m17_at rfl rfl ⟨Nat.le_of_ble_eq_true rfl, Nat.le_of_ble_eq_true rfl, Nat.le_of_ble_eq_true rfl⟩ (by decide)).trans (g_and (isO_dec (by decide +kernel)))
theorem d88_25 : adec m88 25 = some (.istore_n 2, 1) := by decide +kernel
theorem s88_25 {l0 : Nat} {l1 : Int} {l2 : AV} {x0 : Int} : WP m88 25 [.inr (.inl l0), .inl l1, l2] [.inl x0] σ Q = WP m88 26 [.inr (.inl l0), .inl l1, .inl x0] [] σ Q := w_st1 (j := 2) d88_25 rfl (Nat.le_of_ble_eq_true rfl) rfl
theorem d88_26 : adec m88 26 = some (.aload_n 0, 1) := by decide +kernel
theorem s88_26 {l0 : Nat} {l1 : Int} {l2 : Int} : WP m88 26 [.inr (.inl l0), .inl l1, .inl l2] [] σ Q = WP m88 27 [.inr (.inl l0), .inl l1, .inl l2] [.inr (.inl l0)] σ Q := w_ld d88_26 rfl
theorem d88_27 : adec m88 27 = some (.getfield 14, 3) := by decide +kernel
theorem s88_27 {l0 : Nat} {l1 : Int} {l2 : Int} : WP m88 27 [.inr (.inl l0), .inl l1, .inl l2] [.inr (.inl 0)] σ Q = WP m88 30 [.inr (.inl l0), .inl l1, .inl l2] [.inr (.inl 1)] σ Q := (w_getR (c := 9) (n := 0) d88_27 (by decide +kernel) (by decide +kernel)).trans (g_and ⟨isO_dec (by decide +kernel), by decide +kernel⟩)
theorem d88_30 : adec m88 30 = some (.invokevirtual 107, 3) := by decide +kernel
theorem s88_30 {l0 : Nat} {l1 : Int} {l2 : Int} {x0 : Nat} : WP m88 30 [.inr (.inl l0), .inl l1, .inl l2] [.inr (.inl x0)] σ Q = (isO x0 3 ∧ CA m29 [.inr (.inl x0)] σ (fun v σ2 => WP m88 33 [.inr (.inl l0), .inl l1, .inl l2] (v ++ []) σ2 Q)) := w_cV (k := 29) d88_30 (by decide +kernel) m29_at rfl rfl ⟨Nat.le_of_ble_eq_true rfl, Nat.le_of_ble_eq_true rfl, Nat.le_of_ble_eq_true rfl⟩ (by decide)
theorem d88_33 : adec m88 33 = some (.iload_n 2, 1) := by decide +kernel
theorem s88_33 {l0 : Nat} {l1 : Int} {l2 : Int} : WP m88 33 [.inr (.inl l0), .inl l1, .inl l2] [] σ Q = WP m88 34 [.inr (.inl l0), .inl l1, .inl l2] [.inl l2] σ Q := w_ld d88_33 rfl
theorem d88_34 : adec m88 34 = some (.ifCond .eq (19), 3) := by decide +kernel
theorem s88_34 {l0 : Nat} {l1 : Int} {l2 : Int} {x0 : Int} : WP m88 34 [.inr (.inl l0), .inl l1, .inl l2] [.inl x0] σ Q = (if x0 = 0 then WP m88 53 [.inr (.inl l0), .inl l1, .inl l2] [] σ Q else WP m88 37 [.inr (.inl l0), .inl l1, .inl l2] [] σ Q) := w_ifeq d88_34 (by decide)
theorem d88_37 : adec m88 37 = some (.aload_n 0, 1) := by decide +kernel
theorem s88_37 {l0 : Nat} {l1 : Int} {l2 : Int} : WP m88 37 [.inr (.inl l0), .inl l1, .inl l2] [] σ Q = WP m88 38 [.inr (.inl l0), .inl l1, .inl l2] [.inr (.inl l0)] σ Q := w_ld d88_37 rfl
theorem d88_38 : adec m88 38 = some (.aload_n 0, 1) := by decide +kernel
theorem s88_38 {l0 : Nat} {l1 : Int} {l2 : Int} {x0 : Nat} : WP m88 38 [.inr (.inl l0), .inl l1, .inl l2] [.inr (.inl x0)] σ Q = WP m88 39 [.inr (.inl l0), .inl l1, .inl l2] [.inr (.inl l0), .inr (.inl x0)] σ Q := w_ld d88_38 rfl
theorem d88_39 : adec m88 39 = some (.getfield 46, 3) := by decide +kernel
theorem s88_39 {l0 : Nat} {l1 : Int} {l2 : Int} {x0 : Nat} : WP m88 39 [.inr (.inl l0), .inl l1, .inl l2] [.inr (.inl 0), .inr (.inl x0)] σ Q = WP m88 42 [.inr (.inl l0), .inl l1, .inl l2] [.inr (.inl 55), .inr (.inl x0)] σ Q := (w_getR (c := 9) (n := 6) d88_39 (by decide +kernel) (by decide +kernel)).trans (g_and ⟨isO_dec (by decide +kernel), by decide +kernel⟩)
theorem d88_42 : adec m88 42 = some (.invokevirtual 110, 3) := by decide +kernel
theorem s88_42 {l0 : Nat} {l1 : Int} {l2 : Int} {x0 : Nat} : WP m88 42 [.inr (.inl l0), .inl l1, .inl l2] [.inr (.inl 55), .inr (.inl x0)] σ Q = CA m16 [.inr (.inl 55)] σ (fun v σ2 => WP m88 45 [.inr (.inl l0), .inl l1, .inl l2] (v ++ [.inr (.inl x0)]) σ2 Q) := (w_cV (k := 16) d88_42 (by decide +kernel) m16_at rfl rfl ⟨Nat.le_of_ble_eq_true rfl, Nat.le_of_ble_eq_true rfl, Nat.le_of_ble_eq_true rfl⟩ (by decide)).trans (g_and (isO_dec (by decide +kernel)))
theorem d88_45 : adec m88 45 = some (.putfield 85, 3) := by decide +kernel
theorem s88_45 {l0 : Nat} {l1 : Int} {l2 : Int} {x1 : Int} : WP m88 45 [.inr (.inl l0), .inl l1, .inl l2] [.inl x1, .inr (.inl 0)] σ Q = WP m88 48 [.inr (.inl l0), .inl l1, .inl l2] [] (aup σ 0 12 x1) Q := (w_putI (c := 9) (n := 12) d88_45 (by decide +kernel) (by decide +kernel) (by decide +kernel)).trans (g_and (isO_dec (by decide +kernel)))
theorem d88_48 : adec m88 48 = some (.bipush (-10), 2) := by decide +kernel
theorem s88_48 {l0 : Nat} {l1 : Int} {l2 : Int} : WP m88 48 [.inr (.inl l0), .inl l1, .inl l2] [] σ Q = WP m88 50 [.inr (.inl l0), .inl l1, .inl l2] [.inl (-10)] σ Q := w_bipush d88_48 (by decide)
theorem d88_50 : adec m88 50 = some (.iload_n 2, 1) := by decide +kernel
theorem s88_50 {l0 : Nat} {l1 : Int} {l2 : Int} {x0 : Int} : WP m88 50 [.inr (.inl l0), .inl l1, .inl l2] [.inl x0] σ Q = WP m88 51 [.inr (.inl l0), .inl l1, .inl l2] [.inl l2, .inl x0] σ Q := w_ld d88_50 rfl
theorem d88_51 : adec m88 51 = some (.isub, 1) := by decide +kernel
theorem s88_51 {l0 : Nat} {l1 : Int} {l2 : Int} {x0 : Int} {x1 : Int} : WP m88 51 [.inr (.inl l0), .inl l1, .inl l2] [.inl x1, .inl x0] σ Q = (inI (x0 - x1) ∧ WP m88 52 [.inr (.inl l0), .inl l1, .inl l2] [.inl (x0 - x1)] σ Q) := w_isub d88_51
theorem d88_52 : adec m88 52 = some (.ireturn, 1) := by decide +kernel
theorem s88_52 {l0 : Nat} {l1 : Int} {l2 : Int} {x0 : Int} : WP m88 52 [.inr (.inl l0), .inl l1, .inl l2] [.inl x0] σ Q = Q [.inl x0] σ := w_ri d88_52 rfl
theorem d88_53 : adec m88 53 = some (.aload_n 0, 1) := by decide +kernel
theorem s88_53 {l0 : Nat} {l1 : Int} {l2 : Int} : WP m88 53 [.inr (.inl l0), .inl l1, .inl l2] [] σ Q = WP m88 54 [.inr (.inl l0), .inl l1, .inl l2] [.inr (.inl l0)] σ Q := w_ld d88_53 rfl
theorem d88_54 : adec m88 54 = some (.iconst (-1), 1) := by decide +kernel
theorem s88_54 {l0 : Nat} {l1 : Int} {l2 : Int} {x0 : Nat} : WP m88 54 [.inr (.inl l0), .inl l1, .inl l2] [.inr (.inl x0)] σ Q = WP m88 55 [.inr (.inl l0), .inl l1, .inl l2] [.inl (-1), .inr (.inl x0)] σ Q := w_iconst d88_54 (by decide)
theorem d88_55 : adec m88 55 = some (.putfield 85, 3) := by decide +kernel
theorem s88_55 {l0 : Nat} {l1 : Int} {l2 : Int} {x1 : Int} : WP m88 55 [.inr (.inl l0), .inl l1, .inl l2] [.inl x1, .inr (.inl 0)] σ Q = WP m88 58 [.inr (.inl l0), .inl l1, .inl l2] [] (aup σ 0 12 x1) Q := (w_putI (c := 9) (n := 12) d88_55 (by decide +kernel) (by decide +kernel) (by decide +kernel)).trans (g_and (isO_dec (by decide +kernel)))
theorem d88_58 : adec m88 58 = some (.aload_n 0, 1) := by decide +kernel
theorem s88_58 {l0 : Nat} {l1 : Int} {l2 : Int} : WP m88 58 [.inr (.inl l0), .inl l1, .inl l2] [] σ Q = WP m88 59 [.inr (.inl l0), .inl l1, .inl l2] [.inr (.inl l0)] σ Q := w_ld d88_58 rfl
theorem d88_59 : adec m88 59 = some (.iload_n 1, 1) := by decide +kernel
theorem s88_59 {l0 : Nat} {l1 : Int} {l2 : Int} {x0 : Nat} : WP m88 59 [.inr (.inl l0), .inl l1, .inl l2] [.inr (.inl x0)] σ Q = WP m88 60 [.inr (.inl l0), .inl l1, .inl l2] [.inl l1, .inr (.inl x0)] σ Q := w_ld d88_59 rfl
theorem d88_60 : adec m88 60 = some (.invokevirtual 113, 3) := by decide +kernel
theorem s88_60 {l0 : Nat} {l1 : Int} {l2 : Int} {x1 : Int} : WP m88 60 [.inr (.inl l0), .inl l1, .inl l2] [.inl x1, .inr (.inl 0)] σ Q = CA m107 [.inr (.inl 0), .inl x1] σ (fun v σ2 => WP m88 63 [.inr (.inl l0), .inl l1, .inl l2] (v ++ []) σ2 Q) := (w_cV (k := 107) d88_60 (by decide +kernel) m107_at rfl rfl ⟨Nat.le_of_ble_eq_true rfl, Nat.le_of_ble_eq_true rfl, Nat.le_of_ble_eq_true rfl⟩ (by decide)).trans (g_and (isO_dec (by decide +kernel)))
theorem d88_63 : adec m88 63 = some (.ireturn, 1) := by decide +kernel
theorem s88_63 {l0 : Nat} {l1 : Int} {l2 : Int} {x0 : Int} : WP m88 63 [.inr (.inl l0), .inl l1, .inl l2] [.inl x0] σ Q = Q [.inl x0] σ := w_ri d88_63 rfl
theorem e88 {p0 : Nat} {p1 : Int} : CA m88 [.inr (.inl p0), .inl p1] σ Q = WP m88 0 [.inr (.inl p0), .inl p1, vU] [] σ Q := rfl
-- BinderPress.fault()I
theorem d89_0 : adec m89 0 = some (.aload_n 0, 1) := by decide +kernel
theorem s89_0 {l0 : Nat} : WP m89 0 [.inr (.inl l0)] [] σ Q = WP m89 1 [.inr (.inl l0)] [.inr (.inl l0)] σ Q := w_ld d89_0 rfl
theorem d89_1 : adec m89 1 = some (.getfield 85, 3) := by decide +kernel
theorem s89_1 {l0 : Nat} : WP m89 1 [.inr (.inl l0)] [.inr (.inl 0)] σ Q = WP m89 4 [.inr (.inl l0)] [.inl (σ 0 12)] σ Q := (w_getI (c := 9) (n := 12) d89_1 (by decide +kernel) (by decide +kernel)).trans (g_and (isO_dec (by decide +kernel)))
theorem d89_4 : adec m89 4 = some (.ireturn, 1) := by decide +kernel
theorem s89_4 {l0 : Nat} {x0 : Int} : WP m89 4 [.inr (.inl l0)] [.inl x0] σ Q = Q [.inl x0] σ := w_ri d89_4 rfl
theorem e89 {p0 : Nat} : CA m89 [.inr (.inl p0)] σ Q = WP m89 0 [.inr (.inl p0)] [] σ Q := rfl
-- BinderPress.compile(I)I
theorem d90_0 : adec m90 0 = some (.iload_n 1, 1) := by decide +kernel
theorem s90_0 {l0 : Nat} {l1 : Int} : WP m90 0 [.inr (.inl l0), .inl l1] [] σ Q = WP m90 1 [.inr (.inl l0), .inl l1] [.inl l1] σ Q := w_ld d90_0 rfl
theorem d90_1 : adec m90 1 = some (.invokestatic 98, 3) := by decide +kernel
theorem s90_1 {l0 : Nat} {l1 : Int} {x0 : Int} : WP m90 1 [.inr (.inl l0), .inl l1] [.inl x0] σ Q = CA m113 [.inl x0] σ (fun v σ2 => WP m90 4 [.inr (.inl l0), .inl l1] (v ++ []) σ2 Q) := w_cS (k := 113) d90_1 (by decide +kernel) (md := 1) (by decide +kernel) m113_at rfl rfl ⟨Nat.le_of_ble_eq_true rfl, Nat.le_of_ble_eq_true rfl, Nat.le_of_ble_eq_true rfl⟩ (by decide)
theorem d90_4 : adec m90 4 = some (.ifCond .ne (6), 3) := by decide +kernel
theorem s90_4 {l0 : Nat} {l1 : Int} {x0 : Int} : WP m90 4 [.inr (.inl l0), .inl l1] [.inl x0] σ Q = (if x0 = 0 then WP m90 7 [.inr (.inl l0), .inl l1] [] σ Q else WP m90 10 [.inr (.inl l0), .inl l1] [] σ Q) := w_ifne d90_4 (by decide)
theorem d90_7 : adec m90 7 = some (.ldc 102, 2) := by decide +kernel
theorem s90_7 {l0 : Nat} {l1 : Int} : WP m90 7 [.inr (.inl l0), .inl l1] [] σ Q = WP m90 9 [.inr (.inl l0), .inl l1] [.inl (-1000000001)] σ Q := w_ldc d90_7 (by decide +kernel) (by decide)
theorem d90_9 : adec m90 9 = some (.ireturn, 1) := by decide +kernel
theorem s90_9 {l0 : Nat} {l1 : Int} {x0 : Int} : WP m90 9 [.inr (.inl l0), .inl l1] [.inl x0] σ Q = Q [.inl x0] σ := w_ri d90_9 rfl
theorem d90_10 : adec m90 10 = some (.aload_n 0, 1) := by decide +kernel
theorem s90_10 {l0 : Nat} {l1 : Int} : WP m90 10 [.inr (.inl l0), .inl l1] [] σ Q = WP m90 11 [.inr (.inl l0), .inl l1] [.inr (.inl l0)] σ Q := w_ld d90_10 rfl
theorem d90_11 : adec m90 11 = some (.iload_n 1, 1) := by decide +kernel
theorem s90_11 {l0 : Nat} {l1 : Int} {x0 : Nat} : WP m90 11 [.inr (.inl l0), .inl l1] [.inr (.inl x0)] σ Q = WP m90 12 [.inr (.inl l0), .inl l1] [.inl l1, .inr (.inl x0)] σ Q := w_ld d90_11 rfl
theorem d90_12 : adec m90 12 = some (.invokevirtual 117, 3) := by decide +kernel
theorem s90_12 {l0 : Nat} {l1 : Int} {x1 : Int} : WP m90 12 [.inr (.inl l0), .inl l1] [.inl x1, .inr (.inl 0)] σ Q = CA m111 [.inr (.inl 0), .inl x1] σ (fun v σ2 => WP m90 15 [.inr (.inl l0), .inl l1] (v ++ []) σ2 Q) := (w_cV (k := 111) d90_12 (by decide +kernel) m111_at rfl rfl ⟨Nat.le_of_ble_eq_true rfl, Nat.le_of_ble_eq_true rfl, Nat.le_of_ble_eq_true rfl⟩ (by decide)).trans (g_and (isO_dec (by decide +kernel)))
theorem d90_15 : adec m90 15 = some (.ifCond .eq (6), 3) := by decide +kernel
theorem s90_15 {l0 : Nat} {l1 : Int} {x0 : Int} : WP m90 15 [.inr (.inl l0), .inl l1] [.inl x0] σ Q = (if x0 = 0 then WP m90 21 [.inr (.inl l0), .inl l1] [] σ Q else WP m90 18 [.inr (.inl l0), .inl l1] [] σ Q) := w_ifeq d90_15 (by decide)
theorem d90_18 : adec m90 18 = some (.ldc 120, 2) := by decide +kernel
theorem s90_18 {l0 : Nat} {l1 : Int} : WP m90 18 [.inr (.inl l0), .inl l1] [] σ Q = WP m90 20 [.inr (.inl l0), .inl l1] [.inl (-1000000003)] σ Q := w_ldc d90_18 (by decide +kernel) (by decide)
theorem d90_20 : adec m90 20 = some (.ireturn, 1) := by decide +kernel
theorem s90_20 {l0 : Nat} {l1 : Int} {x0 : Int} : WP m90 20 [.inr (.inl l0), .inl l1] [.inl x0] σ Q = Q [.inl x0] σ := w_ri d90_20 rfl
theorem d90_21 : adec m90 21 = some (.aload_n 0, 1) := by decide +kernel
theorem s90_21 {l0 : Nat} {l1 : Int} : WP m90 21 [.inr (.inl l0), .inl l1] [] σ Q = WP m90 22 [.inr (.inl l0), .inl l1] [.inr (.inl l0)] σ Q := w_ld d90_21 rfl
theorem d90_22 : adec m90 22 = some (.getfield 60, 3) := by decide +kernel
theorem s90_22 {l0 : Nat} {l1 : Int} : WP m90 22 [.inr (.inl l0), .inl l1] [.inr (.inl 0)] σ Q = WP m90 25 [.inr (.inl l0), .inl l1] [.inr (.inl 65)] σ Q := (w_getR (c := 9) (n := 8) d90_22 (by decide +kernel) (by decide +kernel)).trans (g_and ⟨isO_dec (by decide +kernel), by decide +kernel⟩)
theorem d90_25 : adec m90 25 = some (.aload_n 0, 1) := by decide +kernel
theorem s90_25 {l0 : Nat} {l1 : Int} {x0 : Nat} : WP m90 25 [.inr (.inl l0), .inl l1] [.inr (.inl x0)] σ Q = WP m90 26 [.inr (.inl l0), .inl l1] [.inr (.inl l0), .inr (.inl x0)] σ Q := w_ld d90_25 rfl
theorem d90_26 : adec m90 26 = some (.getfield 22, 3) := by decide +kernel
theorem s90_26 {l0 : Nat} {l1 : Int} {x0 : Nat} : WP m90 26 [.inr (.inl l0), .inl l1] [.inr (.inl 0), .inr (.inl x0)] σ Q = WP m90 29 [.inr (.inl l0), .inl l1] [.inr (.inl 3), .inr (.inl x0)] σ Q := (w_getR (c := 9) (n := 1) d90_26 (by decide +kernel) (by decide +kernel)).trans (g_and ⟨isO_dec (by decide +kernel), by decide +kernel⟩)
theorem d90_29 : adec m90 29 = some (.iload_n 1, 1) := by decide +kernel
theorem s90_29 {l0 : Nat} {l1 : Int} {x0 : Nat} {x1 : Nat} : WP m90 29 [.inr (.inl l0), .inl l1] [.inr (.inl x1), .inr (.inl x0)] σ Q = WP m90 30 [.inr (.inl l0), .inl l1] [.inl l1, .inr (.inl x1), .inr (.inl x0)] σ Q := w_ld d90_29 rfl
theorem d90_30 : adec m90 30 = some (.aaload, 1) := by decide +kernel
theorem s90_30 {l0 : Nat} {l1 : Int} {x0 : Nat} {x1 : Nat} {x2 : Int} (h31 : x1 ≠ 31) : WP m90 30 [.inr (.inl l0), .inl l1] [.inl x2, .inr (.inl x1), .inr (.inl x0)] σ Q = ((kdS x1 = 22 ∧ 0 ≤ x2 ∧ x2 < ln x1 ∧ 0 ≤ PT x1 x2.toNat) ∧ WP m90 31 [.inr (.inl l0), .inl l1] [.inr (.inl (pt x1 x2.toNat)), .inr (.inl x0)] σ Q) := w_aald d90_30 h31
theorem d90_31 : adec m90 31 = some (.aload_n 0, 1) := by decide +kernel
theorem s90_31 {l0 : Nat} {l1 : Int} {x0 : Nat} {x1 : Nat} : WP m90 31 [.inr (.inl l0), .inl l1] [.inr (.inl x1), .inr (.inl x0)] σ Q = WP m90 32 [.inr (.inl l0), .inl l1] [.inr (.inl l0), .inr (.inl x1), .inr (.inl x0)] σ Q := w_ld d90_31 rfl
theorem d90_32 : adec m90 32 = some (.getfield 40, 3) := by decide +kernel
theorem s90_32 {l0 : Nat} {l1 : Int} {x0 : Nat} {x1 : Nat} : WP m90 32 [.inr (.inl l0), .inl l1] [.inr (.inl 0), .inr (.inl x1), .inr (.inl x0)] σ Q = WP m90 35 [.inr (.inl l0), .inl l1] [.inr (.inl 53), .inr (.inl x1), .inr (.inl x0)] σ Q := (w_getR (c := 9) (n := 5) d90_32 (by decide +kernel) (by decide +kernel)).trans (g_and ⟨isO_dec (by decide +kernel), by decide +kernel⟩)
theorem d90_35 : adec m90 35 = some (.invokevirtual 121, 3) := by decide +kernel
theorem s90_35 {l0 : Nat} {l1 : Int} {x1 : Nat} {x2 : Nat} : WP m90 35 [.inr (.inl l0), .inl l1] [.inr (.inl x2), .inr (.inl x1), .inr (.inl 65)] σ Q = CA m73 [.inr (.inl 65), .inr (.inl x1), .inr (.inl x2)] σ (fun v σ2 => WP m90 38 [.inr (.inl l0), .inl l1] (v ++ []) σ2 Q) := (w_cV (k := 73) d90_35 (by decide +kernel) m73_at rfl rfl ⟨Nat.le_of_ble_eq_true rfl, Nat.le_of_ble_eq_true rfl, Nat.le_of_ble_eq_true rfl⟩ (by decide)).trans (g_and (isO_dec (by decide +kernel)))
theorem d90_38 : adec m90 38 = some (.aload_n 0, 1) := by decide +kernel
theorem s90_38 {l0 : Nat} {l1 : Int} : WP m90 38 [.inr (.inl l0), .inl l1] [] σ Q = WP m90 39 [.inr (.inl l0), .inl l1] [.inr (.inl l0)] σ Q := w_ld d90_38 rfl
theorem d90_39 : adec m90 39 = some (.iload_n 1, 1) := by decide +kernel
theorem s90_39 {l0 : Nat} {l1 : Int} {x0 : Nat} : WP m90 39 [.inr (.inl l0), .inl l1] [.inr (.inl x0)] σ Q = WP m90 40 [.inr (.inl l0), .inl l1] [.inl l1, .inr (.inl x0)] σ Q := w_ld d90_39 rfl
theorem d90_40 : adec m90 40 = some (.invokevirtual 113, 3) := by decide +kernel
theorem s90_40 {l0 : Nat} {l1 : Int} {x1 : Int} : WP m90 40 [.inr (.inl l0), .inl l1] [.inl x1, .inr (.inl 0)] σ Q = CA m107 [.inr (.inl 0), .inl x1] σ (fun v σ2 => WP m90 43 [.inr (.inl l0), .inl l1] (v ++ []) σ2 Q) := (w_cV (k := 107) d90_40 (by decide +kernel) m107_at rfl rfl ⟨Nat.le_of_ble_eq_true rfl, Nat.le_of_ble_eq_true rfl, Nat.le_of_ble_eq_true rfl⟩ (by decide)).trans (g_and (isO_dec (by decide +kernel)))
theorem d90_43 : adec m90 43 = some (.ireturn, 1) := by decide +kernel
theorem s90_43 {l0 : Nat} {l1 : Int} {x0 : Int} : WP m90 43 [.inr (.inl l0), .inl l1] [.inl x0] σ Q = Q [.inl x0] σ := w_ri d90_43 rfl
theorem e90 {p0 : Nat} {p1 : Int} : CA m90 [.inr (.inl p0), .inl p1] σ Q = WP m90 0 [.inr (.inl p0), .inl p1] [] σ Q := rfl
-- BinderPress.takeOut(II)I
theorem d91_0 : adec m91 0 = some (.iload_n 1, 1) := by decide +kernel
theorem s91_0 {l0 : Nat} {l1 : Int} {l2 : Int} : WP m91 0 [.inr (.inl l0), .inl l1, .inl l2] [] σ Q = WP m91 1 [.inr (.inl l0), .inl l1, .inl l2] [.inl l1] σ Q := w_ld d91_0 rfl
theorem d91_1 : adec m91 1 = some (.invokestatic 98, 3) := by decide +kernel
theorem s91_1 {l0 : Nat} {l1 : Int} {l2 : Int} {x0 : Int} : WP m91 1 [.inr (.inl l0), .inl l1, .inl l2] [.inl x0] σ Q = CA m113 [.inl x0] σ (fun v σ2 => WP m91 4 [.inr (.inl l0), .inl l1, .inl l2] (v ++ []) σ2 Q) := w_cS (k := 113) d91_1 (by decide +kernel) (md := 1) (by decide +kernel) m113_at rfl rfl ⟨Nat.le_of_ble_eq_true rfl, Nat.le_of_ble_eq_true rfl, Nat.le_of_ble_eq_true rfl⟩ (by decide)
theorem d91_4 : adec m91 4 = some (.ifCond .ne (6), 3) := by decide +kernel
theorem s91_4 {l0 : Nat} {l1 : Int} {l2 : Int} {x0 : Int} : WP m91 4 [.inr (.inl l0), .inl l1, .inl l2] [.inl x0] σ Q = (if x0 = 0 then WP m91 7 [.inr (.inl l0), .inl l1, .inl l2] [] σ Q else WP m91 10 [.inr (.inl l0), .inl l1, .inl l2] [] σ Q) := w_ifne d91_4 (by decide)
theorem d91_7 : adec m91 7 = some (.ldc 102, 2) := by decide +kernel
theorem s91_7 {l0 : Nat} {l1 : Int} {l2 : Int} : WP m91 7 [.inr (.inl l0), .inl l1, .inl l2] [] σ Q = WP m91 9 [.inr (.inl l0), .inl l1, .inl l2] [.inl (-1000000001)] σ Q := w_ldc d91_7 (by decide +kernel) (by decide)
theorem d91_9 : adec m91 9 = some (.ireturn, 1) := by decide +kernel
theorem s91_9 {l0 : Nat} {l1 : Int} {l2 : Int} {x0 : Int} : WP m91 9 [.inr (.inl l0), .inl l1, .inl l2] [.inl x0] σ Q = Q [.inl x0] σ := w_ri d91_9 rfl
theorem d91_10 : adec m91 10 = some (.iload_n 2, 1) := by decide +kernel
theorem s91_10 {l0 : Nat} {l1 : Int} {l2 : Int} : WP m91 10 [.inr (.inl l0), .inl l1, .inl l2] [] σ Q = WP m91 11 [.inr (.inl l0), .inl l1, .inl l2] [.inl l2] σ Q := w_ld d91_10 rfl
theorem d91_11 : adec m91 11 = some (.invokestatic 125, 3) := by decide +kernel
theorem s91_11 {l0 : Nat} {l1 : Int} {l2 : Int} {x0 : Int} : WP m91 11 [.inr (.inl l0), .inl l1, .inl l2] [.inl x0] σ Q = CA m116 [.inl x0] σ (fun v σ2 => WP m91 14 [.inr (.inl l0), .inl l1, .inl l2] (v ++ []) σ2 Q) := w_cS (k := 116) d91_11 (by decide +kernel) (md := 1) (by decide +kernel) m116_at rfl rfl ⟨Nat.le_of_ble_eq_true rfl, Nat.le_of_ble_eq_true rfl, Nat.le_of_ble_eq_true rfl⟩ (by decide)
theorem d91_14 : adec m91 14 = some (.ifCond .ne (6), 3) := by decide +kernel
theorem s91_14 {l0 : Nat} {l1 : Int} {l2 : Int} {x0 : Int} : WP m91 14 [.inr (.inl l0), .inl l1, .inl l2] [.inl x0] σ Q = (if x0 = 0 then WP m91 17 [.inr (.inl l0), .inl l1, .inl l2] [] σ Q else WP m91 20 [.inr (.inl l0), .inl l1, .inl l2] [] σ Q) := w_ifne d91_14 (by decide)
theorem d91_17 : adec m91 17 = some (.ldc 89, 2) := by decide +kernel
theorem s91_17 {l0 : Nat} {l1 : Int} {l2 : Int} : WP m91 17 [.inr (.inl l0), .inl l1, .inl l2] [] σ Q = WP m91 19 [.inr (.inl l0), .inl l1, .inl l2] [.inl (-1000000002)] σ Q := w_ldc d91_17 (by decide +kernel) (by decide)
theorem d91_19 : adec m91 19 = some (.ireturn, 1) := by decide +kernel
theorem s91_19 {l0 : Nat} {l1 : Int} {l2 : Int} {x0 : Int} : WP m91 19 [.inr (.inl l0), .inl l1, .inl l2] [.inl x0] σ Q = Q [.inl x0] σ := w_ri d91_19 rfl
theorem d91_20 : adec m91 20 = some (.aload_n 0, 1) := by decide +kernel
theorem s91_20 {l0 : Nat} {l1 : Int} {l2 : Int} : WP m91 20 [.inr (.inl l0), .inl l1, .inl l2] [] σ Q = WP m91 21 [.inr (.inl l0), .inl l1, .inl l2] [.inr (.inl l0)] σ Q := w_ld d91_20 rfl
theorem d91_21 : adec m91 21 = some (.iload_n 1, 1) := by decide +kernel
theorem s91_21 {l0 : Nat} {l1 : Int} {l2 : Int} {x0 : Nat} : WP m91 21 [.inr (.inl l0), .inl l1, .inl l2] [.inr (.inl x0)] σ Q = WP m91 22 [.inr (.inl l0), .inl l1, .inl l2] [.inl l1, .inr (.inl x0)] σ Q := w_ld d91_21 rfl
theorem d91_22 : adec m91 22 = some (.invokevirtual 117, 3) := by decide +kernel
theorem s91_22 {l0 : Nat} {l1 : Int} {l2 : Int} {x1 : Int} : WP m91 22 [.inr (.inl l0), .inl l1, .inl l2] [.inl x1, .inr (.inl 0)] σ Q = CA m111 [.inr (.inl 0), .inl x1] σ (fun v σ2 => WP m91 25 [.inr (.inl l0), .inl l1, .inl l2] (v ++ []) σ2 Q) := (w_cV (k := 111) d91_22 (by decide +kernel) m111_at rfl rfl ⟨Nat.le_of_ble_eq_true rfl, Nat.le_of_ble_eq_true rfl, Nat.le_of_ble_eq_true rfl⟩ (by decide)).trans (g_and (isO_dec (by decide +kernel)))
theorem d91_25 : adec m91 25 = some (.ifCond .eq (6), 3) := by decide +kernel
theorem s91_25 {l0 : Nat} {l1 : Int} {l2 : Int} {x0 : Int} : WP m91 25 [.inr (.inl l0), .inl l1, .inl l2] [.inl x0] σ Q = (if x0 = 0 then WP m91 31 [.inr (.inl l0), .inl l1, .inl l2] [] σ Q else WP m91 28 [.inr (.inl l0), .inl l1, .inl l2] [] σ Q) := w_ifeq d91_25 (by decide)
theorem d91_28 : adec m91 28 = some (.ldc 120, 2) := by decide +kernel
theorem s91_28 {l0 : Nat} {l1 : Int} {l2 : Int} : WP m91 28 [.inr (.inl l0), .inl l1, .inl l2] [] σ Q = WP m91 30 [.inr (.inl l0), .inl l1, .inl l2] [.inl (-1000000003)] σ Q := w_ldc d91_28 (by decide +kernel) (by decide)
theorem d91_30 : adec m91 30 = some (.ireturn, 1) := by decide +kernel
theorem s91_30 {l0 : Nat} {l1 : Int} {l2 : Int} {x0 : Int} : WP m91 30 [.inr (.inl l0), .inl l1, .inl l2] [.inl x0] σ Q = Q [.inl x0] σ := w_ri d91_30 rfl
theorem d91_31 : adec m91 31 = some (.aload_n 0, 1) := by decide +kernel
theorem s91_31 {l0 : Nat} {l1 : Int} {l2 : Int} : WP m91 31 [.inr (.inl l0), .inl l1, .inl l2] [] σ Q = WP m91 32 [.inr (.inl l0), .inl l1, .inl l2] [.inr (.inl l0)] σ Q := w_ld d91_31 rfl
theorem d91_32 : adec m91 32 = some (.getfield 60, 3) := by decide +kernel
theorem s91_32 {l0 : Nat} {l1 : Int} {l2 : Int} : WP m91 32 [.inr (.inl l0), .inl l1, .inl l2] [.inr (.inl 0)] σ Q = WP m91 35 [.inr (.inl l0), .inl l1, .inl l2] [.inr (.inl 65)] σ Q := (w_getR (c := 9) (n := 8) d91_32 (by decide +kernel) (by decide +kernel)).trans (g_and ⟨isO_dec (by decide +kernel), by decide +kernel⟩)
theorem d91_35 : adec m91 35 = some (.aload_n 0, 1) := by decide +kernel
theorem s91_35 {l0 : Nat} {l1 : Int} {l2 : Int} {x0 : Nat} : WP m91 35 [.inr (.inl l0), .inl l1, .inl l2] [.inr (.inl x0)] σ Q = WP m91 36 [.inr (.inl l0), .inl l1, .inl l2] [.inr (.inl l0), .inr (.inl x0)] σ Q := w_ld d91_35 rfl
theorem d91_36 : adec m91 36 = some (.getfield 22, 3) := by decide +kernel
theorem s91_36 {l0 : Nat} {l1 : Int} {l2 : Int} {x0 : Nat} : WP m91 36 [.inr (.inl l0), .inl l1, .inl l2] [.inr (.inl 0), .inr (.inl x0)] σ Q = WP m91 39 [.inr (.inl l0), .inl l1, .inl l2] [.inr (.inl 3), .inr (.inl x0)] σ Q := (w_getR (c := 9) (n := 1) d91_36 (by decide +kernel) (by decide +kernel)).trans (g_and ⟨isO_dec (by decide +kernel), by decide +kernel⟩)
theorem d91_39 : adec m91 39 = some (.iload_n 1, 1) := by decide +kernel
theorem s91_39 {l0 : Nat} {l1 : Int} {l2 : Int} {x0 : Nat} {x1 : Nat} : WP m91 39 [.inr (.inl l0), .inl l1, .inl l2] [.inr (.inl x1), .inr (.inl x0)] σ Q = WP m91 40 [.inr (.inl l0), .inl l1, .inl l2] [.inl l1, .inr (.inl x1), .inr (.inl x0)] σ Q := w_ld d91_39 rfl
theorem d91_40 : adec m91 40 = some (.aaload, 1) := by decide +kernel
theorem s91_40 {l0 : Nat} {l1 : Int} {l2 : Int} {x0 : Nat} {x1 : Nat} {x2 : Int} (h31 : x1 ≠ 31) : WP m91 40 [.inr (.inl l0), .inl l1, .inl l2] [.inl x2, .inr (.inl x1), .inr (.inl x0)] σ Q = ((kdS x1 = 22 ∧ 0 ≤ x2 ∧ x2 < ln x1 ∧ 0 ≤ PT x1 x2.toNat) ∧ WP m91 41 [.inr (.inl l0), .inl l1, .inl l2] [.inr (.inl (pt x1 x2.toNat)), .inr (.inl x0)] σ Q) := w_aald d91_40 h31
theorem d91_41 : adec m91 41 = some (.aload_n 0, 1) := by decide +kernel
theorem s91_41 {l0 : Nat} {l1 : Int} {l2 : Int} {x0 : Nat} {x1 : Nat} : WP m91 41 [.inr (.inl l0), .inl l1, .inl l2] [.inr (.inl x1), .inr (.inl x0)] σ Q = WP m91 42 [.inr (.inl l0), .inl l1, .inl l2] [.inr (.inl l0), .inr (.inl x1), .inr (.inl x0)] σ Q := w_ld d91_41 rfl
theorem d91_42 : adec m91 42 = some (.getfield 40, 3) := by decide +kernel
theorem s91_42 {l0 : Nat} {l1 : Int} {l2 : Int} {x0 : Nat} {x1 : Nat} : WP m91 42 [.inr (.inl l0), .inl l1, .inl l2] [.inr (.inl 0), .inr (.inl x1), .inr (.inl x0)] σ Q = WP m91 45 [.inr (.inl l0), .inl l1, .inl l2] [.inr (.inl 53), .inr (.inl x1), .inr (.inl x0)] σ Q := (w_getR (c := 9) (n := 5) d91_42 (by decide +kernel) (by decide +kernel)).trans (g_and ⟨isO_dec (by decide +kernel), by decide +kernel⟩)
theorem d91_45 : adec m91 45 = some (.invokevirtual 121, 3) := by decide +kernel
theorem s91_45 {l0 : Nat} {l1 : Int} {l2 : Int} {x1 : Nat} {x2 : Nat} : WP m91 45 [.inr (.inl l0), .inl l1, .inl l2] [.inr (.inl x2), .inr (.inl x1), .inr (.inl 65)] σ Q = CA m73 [.inr (.inl 65), .inr (.inl x1), .inr (.inl x2)] σ (fun v σ2 => WP m91 48 [.inr (.inl l0), .inl l1, .inl l2] (v ++ []) σ2 Q) := (w_cV (k := 73) d91_45 (by decide +kernel) m73_at rfl rfl ⟨Nat.le_of_ble_eq_true rfl, Nat.le_of_ble_eq_true rfl, Nat.le_of_ble_eq_true rfl⟩ (by decide)).trans (g_and (isO_dec (by decide +kernel)))
theorem d91_48 : adec m91 48 = some (.aload_n 0, 1) := by decide +kernel
theorem s91_48 {l0 : Nat} {l1 : Int} {l2 : Int} : WP m91 48 [.inr (.inl l0), .inl l1, .inl l2] [] σ Q = WP m91 49 [.inr (.inl l0), .inl l1, .inl l2] [.inr (.inl l0)] σ Q := w_ld d91_48 rfl
theorem d91_49 : adec m91 49 = some (.getfield 60, 3) := by decide +kernel
theorem s91_49 {l0 : Nat} {l1 : Int} {l2 : Int} : WP m91 49 [.inr (.inl l0), .inl l1, .inl l2] [.inr (.inl 0)] σ Q = WP m91 52 [.inr (.inl l0), .inl l1, .inl l2] [.inr (.inl 65)] σ Q := (w_getR (c := 9) (n := 8) d91_49 (by decide +kernel) (by decide +kernel)).trans (g_and ⟨isO_dec (by decide +kernel), by decide +kernel⟩)
theorem d91_52 : adec m91 52 = some (.aload_n 0, 1) := by decide +kernel
theorem s91_52 {l0 : Nat} {l1 : Int} {l2 : Int} {x0 : Nat} : WP m91 52 [.inr (.inl l0), .inl l1, .inl l2] [.inr (.inl x0)] σ Q = WP m91 53 [.inr (.inl l0), .inl l1, .inl l2] [.inr (.inl l0), .inr (.inl x0)] σ Q := w_ld d91_52 rfl
theorem d91_53 : adec m91 53 = some (.getfield 40, 3) := by decide +kernel
theorem s91_53 {l0 : Nat} {l1 : Int} {l2 : Int} {x0 : Nat} : WP m91 53 [.inr (.inl l0), .inl l1, .inl l2] [.inr (.inl 0), .inr (.inl x0)] σ Q = WP m91 56 [.inr (.inl l0), .inl l1, .inl l2] [.inr (.inl 53), .inr (.inl x0)] σ Q := (w_getR (c := 9) (n := 5) d91_53 (by decide +kernel) (by decide +kernel)).trans (g_and ⟨isO_dec (by decide +kernel), by decide +kernel⟩)
theorem d91_56 : adec m91 56 = some (.iload_n 2, 1) := by decide +kernel
theorem s91_56 {l0 : Nat} {l1 : Int} {l2 : Int} {x0 : Nat} {x1 : Nat} : WP m91 56 [.inr (.inl l0), .inl l1, .inl l2] [.inr (.inl x1), .inr (.inl x0)] σ Q = WP m91 57 [.inr (.inl l0), .inl l1, .inl l2] [.inl l2, .inr (.inl x1), .inr (.inl x0)] σ Q := w_ld d91_56 rfl
theorem d91_57 : adec m91 57 = some (.invokevirtual 128, 3) := by decide +kernel
theorem s91_57 {l0 : Nat} {l1 : Int} {l2 : Int} {x1 : Nat} {x2 : Int} : WP m91 57 [.inr (.inl l0), .inl l1, .inl l2] [.inl x2, .inr (.inl x1), .inr (.inl 65)] σ Q = CA m74 [.inr (.inl 65), .inr (.inl x1), .inl x2] σ (fun v σ2 => WP m91 60 [.inr (.inl l0), .inl l1, .inl l2] (v ++ []) σ2 Q) := (w_cV (k := 74) d91_57 (by decide +kernel) m74_at rfl rfl ⟨Nat.le_of_ble_eq_true rfl, Nat.le_of_ble_eq_true rfl, Nat.le_of_ble_eq_true rfl⟩ (by decide)).trans (g_and (isO_dec (by decide +kernel)))
theorem d91_60 : adec m91 60 = some (.aload_n 0, 1) := by decide +kernel
theorem s91_60 {l0 : Nat} {l1 : Int} {l2 : Int} : WP m91 60 [.inr (.inl l0), .inl l1, .inl l2] [] σ Q = WP m91 61 [.inr (.inl l0), .inl l1, .inl l2] [.inr (.inl l0)] σ Q := w_ld d91_60 rfl
theorem d91_61 : adec m91 61 = some (.iload_n 1, 1) := by decide +kernel
theorem s91_61 {l0 : Nat} {l1 : Int} {l2 : Int} {x0 : Nat} : WP m91 61 [.inr (.inl l0), .inl l1, .inl l2] [.inr (.inl x0)] σ Q = WP m91 62 [.inr (.inl l0), .inl l1, .inl l2] [.inl l1, .inr (.inl x0)] σ Q := w_ld d91_61 rfl
theorem d91_62 : adec m91 62 = some (.invokevirtual 113, 3) := by decide +kernel
theorem s91_62 {l0 : Nat} {l1 : Int} {l2 : Int} {x1 : Int} : WP m91 62 [.inr (.inl l0), .inl l1, .inl l2] [.inl x1, .inr (.inl 0)] σ Q = CA m107 [.inr (.inl 0), .inl x1] σ (fun v σ2 => WP m91 65 [.inr (.inl l0), .inl l1, .inl l2] (v ++ []) σ2 Q) := (w_cV (k := 107) d91_62 (by decide +kernel) m107_at rfl rfl ⟨Nat.le_of_ble_eq_true rfl, Nat.le_of_ble_eq_true rfl, Nat.le_of_ble_eq_true rfl⟩ (by decide)).trans (g_and (isO_dec (by decide +kernel)))
theorem d91_65 : adec m91 65 = some (.ireturn, 1) := by decide +kernel
theorem s91_65 {l0 : Nat} {l1 : Int} {l2 : Int} {x0 : Int} : WP m91 65 [.inr (.inl l0), .inl l1, .inl l2] [.inl x0] σ Q = Q [.inl x0] σ := w_ri d91_65 rfl
theorem e91 {p0 : Nat} {p1 : Int} {p2 : Int} : CA m91 [.inr (.inl p0), .inl p1, .inl p2] σ Q = WP m91 0 [.inr (.inl p0), .inl p1, .inl p2] [] σ Q := rfl
-- BinderPress.put(III)I
theorem d92_0 : adec m92 0 = some (.iload_n 1, 1) := by decide +kernel
theorem s92_0 {l0 : Nat} {l1 : Int} {l2 : Int} {l3 : Int} : WP m92 0 [.inr (.inl l0), .inl l1, .inl l2, .inl l3] [] σ Q = WP m92 1 [.inr (.inl l0), .inl l1, .inl l2, .inl l3] [.inl l1] σ Q := w_ld d92_0 rfl
theorem d92_1 : adec m92 1 = some (.invokestatic 98, 3) := by decide +kernel
theorem s92_1 {l0 : Nat} {l1 : Int} {l2 : Int} {l3 : Int} {x0 : Int} : WP m92 1 [.inr (.inl l0), .inl l1, .inl l2, .inl l3] [.inl x0] σ Q = CA m113 [.inl x0] σ (fun v σ2 => WP m92 4 [.inr (.inl l0), .inl l1, .inl l2, .inl l3] (v ++ []) σ2 Q) := w_cS (k := 113) d92_1 (by decide +kernel) (md := 1) (by decide +kernel) m113_at rfl rfl ⟨Nat.le_of_ble_eq_true rfl, Nat.le_of_ble_eq_true rfl, Nat.le_of_ble_eq_true rfl⟩ (by decide)
theorem d92_4 : adec m92 4 = some (.ifCond .eq (17), 3) := by decide +kernel
theorem s92_4 {l0 : Nat} {l1 : Int} {l2 : Int} {l3 : Int} {x0 : Int} : WP m92 4 [.inr (.inl l0), .inl l1, .inl l2, .inl l3] [.inl x0] σ Q = (if x0 = 0 then WP m92 21 [.inr (.inl l0), .inl l1, .inl l2, .inl l3] [] σ Q else WP m92 7 [.inr (.inl l0), .inl l1, .inl l2, .inl l3] [] σ Q) := w_ifeq d92_4 (by decide)
theorem d92_7 : adec m92 7 = some (.iload_n 2, 1) := by decide +kernel
theorem s92_7 {l0 : Nat} {l1 : Int} {l2 : Int} {l3 : Int} : WP m92 7 [.inr (.inl l0), .inl l1, .inl l2, .inl l3] [] σ Q = WP m92 8 [.inr (.inl l0), .inl l1, .inl l2, .inl l3] [.inl l2] σ Q := w_ld d92_7 rfl
theorem d92_8 : adec m92 8 = some (.invokestatic 98, 3) := by decide +kernel
theorem s92_8 {l0 : Nat} {l1 : Int} {l2 : Int} {l3 : Int} {x0 : Int} : WP m92 8 [.inr (.inl l0), .inl l1, .inl l2, .inl l3] [.inl x0] σ Q = CA m113 [.inl x0] σ (fun v σ2 => WP m92 11 [.inr (.inl l0), .inl l1, .inl l2, .inl l3] (v ++ []) σ2 Q) := w_cS (k := 113) d92_8 (by decide +kernel) (md := 1) (by decide +kernel) m113_at rfl rfl ⟨Nat.le_of_ble_eq_true rfl, Nat.le_of_ble_eq_true rfl, Nat.le_of_ble_eq_true rfl⟩ (by decide)
theorem d92_11 : adec m92 11 = some (.ifCond .eq (10), 3) := by decide +kernel
theorem s92_11 {l0 : Nat} {l1 : Int} {l2 : Int} {l3 : Int} {x0 : Int} : WP m92 11 [.inr (.inl l0), .inl l1, .inl l2, .inl l3] [.inl x0] σ Q = (if x0 = 0 then WP m92 21 [.inr (.inl l0), .inl l1, .inl l2, .inl l3] [] σ Q else WP m92 14 [.inr (.inl l0), .inl l1, .inl l2, .inl l3] [] σ Q) := w_ifeq d92_11 (by decide)
theorem d92_14 : adec m92 14 = some (.iload_n 3, 1) := by decide +kernel
theorem s92_14 {l0 : Nat} {l1 : Int} {l2 : Int} {l3 : Int} : WP m92 14 [.inr (.inl l0), .inl l1, .inl l2, .inl l3] [] σ Q = WP m92 15 [.inr (.inl l0), .inl l1, .inl l2, .inl l3] [.inl l3] σ Q := w_ld d92_14 rfl
theorem d92_15 : adec m92 15 = some (.invokestatic 98, 3) := by decide +kernel
theorem s92_15 {l0 : Nat} {l1 : Int} {l2 : Int} {l3 : Int} {x0 : Int} : WP m92 15 [.inr (.inl l0), .inl l1, .inl l2, .inl l3] [.inl x0] σ Q = CA m113 [.inl x0] σ (fun v σ2 => WP m92 18 [.inr (.inl l0), .inl l1, .inl l2, .inl l3] (v ++ []) σ2 Q) := w_cS (k := 113) d92_15 (by decide +kernel) (md := 1) (by decide +kernel) m113_at rfl rfl ⟨Nat.le_of_ble_eq_true rfl, Nat.le_of_ble_eq_true rfl, Nat.le_of_ble_eq_true rfl⟩ (by decide)
theorem d92_18 : adec m92 18 = some (.ifCond .ne (6), 3) := by decide +kernel
theorem s92_18 {l0 : Nat} {l1 : Int} {l2 : Int} {l3 : Int} {x0 : Int} : WP m92 18 [.inr (.inl l0), .inl l1, .inl l2, .inl l3] [.inl x0] σ Q = (if x0 = 0 then WP m92 21 [.inr (.inl l0), .inl l1, .inl l2, .inl l3] [] σ Q else WP m92 24 [.inr (.inl l0), .inl l1, .inl l2, .inl l3] [] σ Q) := w_ifne d92_18 (by decide)
theorem d92_21 : adec m92 21 = some (.ldc 102, 2) := by decide +kernel
theorem s92_21 {l0 : Nat} {l1 : Int} {l2 : Int} {l3 : Int} : WP m92 21 [.inr (.inl l0), .inl l1, .inl l2, .inl l3] [] σ Q = WP m92 23 [.inr (.inl l0), .inl l1, .inl l2, .inl l3] [.inl (-1000000001)] σ Q := w_ldc d92_21 (by decide +kernel) (by decide)
theorem d92_23 : adec m92 23 = some (.ireturn, 1) := by decide +kernel
theorem s92_23 {l0 : Nat} {l1 : Int} {l2 : Int} {l3 : Int} {x0 : Int} : WP m92 23 [.inr (.inl l0), .inl l1, .inl l2, .inl l3] [.inl x0] σ Q = Q [.inl x0] σ := w_ri d92_23 rfl
theorem d92_24 : adec m92 24 = some (.aload_n 0, 1) := by decide +kernel
theorem s92_24 {l0 : Nat} {l1 : Int} {l2 : Int} {l3 : Int} : WP m92 24 [.inr (.inl l0), .inl l1, .inl l2, .inl l3] [] σ Q = WP m92 25 [.inr (.inl l0), .inl l1, .inl l2, .inl l3] [.inr (.inl l0)] σ Q := w_ld d92_24 rfl
theorem d92_25 : adec m92 25 = some (.iload_n 2, 1) := by decide +kernel
theorem s92_25 {l0 : Nat} {l1 : Int} {l2 : Int} {l3 : Int} {x0 : Nat} : WP m92 25 [.inr (.inl l0), .inl l1, .inl l2, .inl l3] [.inr (.inl x0)] σ Q = WP m92 26 [.inr (.inl l0), .inl l1, .inl l2, .inl l3] [.inl l2, .inr (.inl x0)] σ Q := w_ld d92_25 rfl
theorem d92_26 : adec m92 26 = some (.invokevirtual 117, 3) := by decide +kernel
theorem s92_26 {l0 : Nat} {l1 : Int} {l2 : Int} {l3 : Int} {x1 : Int} : WP m92 26 [.inr (.inl l0), .inl l1, .inl l2, .inl l3] [.inl x1, .inr (.inl 0)] σ Q = CA m111 [.inr (.inl 0), .inl x1] σ (fun v σ2 => WP m92 29 [.inr (.inl l0), .inl l1, .inl l2, .inl l3] (v ++ []) σ2 Q) := (w_cV (k := 111) d92_26 (by decide +kernel) m111_at rfl rfl ⟨Nat.le_of_ble_eq_true rfl, Nat.le_of_ble_eq_true rfl, Nat.le_of_ble_eq_true rfl⟩ (by decide)).trans (g_and (isO_dec (by decide +kernel)))
theorem d92_29 : adec m92 29 = some (.ifCond .ne (11), 3) := by decide +kernel
theorem s92_29 {l0 : Nat} {l1 : Int} {l2 : Int} {l3 : Int} {x0 : Int} : WP m92 29 [.inr (.inl l0), .inl l1, .inl l2, .inl l3] [.inl x0] σ Q = (if x0 = 0 then WP m92 32 [.inr (.inl l0), .inl l1, .inl l2, .inl l3] [] σ Q else WP m92 40 [.inr (.inl l0), .inl l1, .inl l2, .inl l3] [] σ Q) := w_ifne d92_29 (by decide)
theorem d92_32 : adec m92 32 = some (.aload_n 0, 1) := by decide +kernel
theorem s92_32 {l0 : Nat} {l1 : Int} {l2 : Int} {l3 : Int} : WP m92 32 [.inr (.inl l0), .inl l1, .inl l2, .inl l3] [] σ Q = WP m92 33 [.inr (.inl l0), .inl l1, .inl l2, .inl l3] [.inr (.inl l0)] σ Q := w_ld d92_32 rfl
theorem d92_33 : adec m92 33 = some (.iload_n 3, 1) := by decide +kernel
theorem s92_33 {l0 : Nat} {l1 : Int} {l2 : Int} {l3 : Int} {x0 : Nat} : WP m92 33 [.inr (.inl l0), .inl l1, .inl l2, .inl l3] [.inr (.inl x0)] σ Q = WP m92 34 [.inr (.inl l0), .inl l1, .inl l2, .inl l3] [.inl l3, .inr (.inl x0)] σ Q := w_ld d92_33 rfl
theorem d92_34 : adec m92 34 = some (.invokevirtual 117, 3) := by decide +kernel
theorem s92_34 {l0 : Nat} {l1 : Int} {l2 : Int} {l3 : Int} {x1 : Int} : WP m92 34 [.inr (.inl l0), .inl l1, .inl l2, .inl l3] [.inl x1, .inr (.inl 0)] σ Q = CA m111 [.inr (.inl 0), .inl x1] σ (fun v σ2 => WP m92 37 [.inr (.inl l0), .inl l1, .inl l2, .inl l3] (v ++ []) σ2 Q) := (w_cV (k := 111) d92_34 (by decide +kernel) m111_at rfl rfl ⟨Nat.le_of_ble_eq_true rfl, Nat.le_of_ble_eq_true rfl, Nat.le_of_ble_eq_true rfl⟩ (by decide)).trans (g_and (isO_dec (by decide +kernel)))
theorem d92_37 : adec m92 37 = some (.ifCond .eq (6), 3) := by decide +kernel
theorem s92_37 {l0 : Nat} {l1 : Int} {l2 : Int} {l3 : Int} {x0 : Int} : WP m92 37 [.inr (.inl l0), .inl l1, .inl l2, .inl l3] [.inl x0] σ Q = (if x0 = 0 then WP m92 43 [.inr (.inl l0), .inl l1, .inl l2, .inl l3] [] σ Q else WP m92 40 [.inr (.inl l0), .inl l1, .inl l2, .inl l3] [] σ Q) := w_ifeq d92_37 (by decide)
theorem d92_40 : adec m92 40 = some (.ldc 120, 2) := by decide +kernel
theorem s92_40 {l0 : Nat} {l1 : Int} {l2 : Int} {l3 : Int} : WP m92 40 [.inr (.inl l0), .inl l1, .inl l2, .inl l3] [] σ Q = WP m92 42 [.inr (.inl l0), .inl l1, .inl l2, .inl l3] [.inl (-1000000003)] σ Q := w_ldc d92_40 (by decide +kernel) (by decide)
theorem d92_42 : adec m92 42 = some (.ireturn, 1) := by decide +kernel
theorem s92_42 {l0 : Nat} {l1 : Int} {l2 : Int} {l3 : Int} {x0 : Int} : WP m92 42 [.inr (.inl l0), .inl l1, .inl l2, .inl l3] [.inl x0] σ Q = Q [.inl x0] σ := w_ri d92_42 rfl
theorem d92_43 : adec m92 43 = some (.aload_n 0, 1) := by decide +kernel
theorem s92_43 {l0 : Nat} {l1 : Int} {l2 : Int} {l3 : Int} : WP m92 43 [.inr (.inl l0), .inl l1, .inl l2, .inl l3] [] σ Q = WP m92 44 [.inr (.inl l0), .inl l1, .inl l2, .inl l3] [.inr (.inl l0)] σ Q := w_ld d92_43 rfl
theorem d92_44 : adec m92 44 = some (.getfield 40, 3) := by decide +kernel
theorem s92_44 {l0 : Nat} {l1 : Int} {l2 : Int} {l3 : Int} : WP m92 44 [.inr (.inl l0), .inl l1, .inl l2, .inl l3] [.inr (.inl 0)] σ Q = WP m92 47 [.inr (.inl l0), .inl l1, .inl l2, .inl l3] [.inr (.inl 53)] σ Q := (w_getR (c := 9) (n := 5) d92_44 (by decide +kernel) (by decide +kernel)).trans (g_and ⟨isO_dec (by decide +kernel), by decide +kernel⟩)
theorem d92_47 : adec m92 47 = some (.invokevirtual 107, 3) := by decide +kernel
theorem s92_47 {l0 : Nat} {l1 : Int} {l2 : Int} {l3 : Int} {x0 : Nat} : WP m92 47 [.inr (.inl l0), .inl l1, .inl l2, .inl l3] [.inr (.inl x0)] σ Q = (isO x0 3 ∧ CA m29 [.inr (.inl x0)] σ (fun v σ2 => WP m92 50 [.inr (.inl l0), .inl l1, .inl l2, .inl l3] (v ++ []) σ2 Q)) := w_cV (k := 29) d92_47 (by decide +kernel) m29_at rfl rfl ⟨Nat.le_of_ble_eq_true rfl, Nat.le_of_ble_eq_true rfl, Nat.le_of_ble_eq_true rfl⟩ (by decide)
theorem d92_50 : adec m92 50 = some (.aload_n 0, 1) := by decide +kernel
theorem s92_50 {l0 : Nat} {l1 : Int} {l2 : Int} {l3 : Int} : WP m92 50 [.inr (.inl l0), .inl l1, .inl l2, .inl l3] [] σ Q = WP m92 51 [.inr (.inl l0), .inl l1, .inl l2, .inl l3] [.inr (.inl l0)] σ Q := w_ld d92_50 rfl
theorem d92_51 : adec m92 51 = some (.getfield 40, 3) := by decide +kernel
theorem s92_51 {l0 : Nat} {l1 : Int} {l2 : Int} {l3 : Int} : WP m92 51 [.inr (.inl l0), .inl l1, .inl l2, .inl l3] [.inr (.inl 0)] σ Q = WP m92 54 [.inr (.inl l0), .inl l1, .inl l2, .inl l3] [.inr (.inl 53)] σ Q := (w_getR (c := 9) (n := 5) d92_51 (by decide +kernel) (by decide +kernel)).trans (g_and ⟨isO_dec (by decide +kernel), by decide +kernel⟩)
theorem d92_54 : adec m92 54 = some (.iconst (1), 1) := by decide +kernel
theorem s92_54 {l0 : Nat} {l1 : Int} {l2 : Int} {l3 : Int} {x0 : Nat} : WP m92 54 [.inr (.inl l0), .inl l1, .inl l2, .inl l3] [.inr (.inl x0)] σ Q = WP m92 55 [.inr (.inl l0), .inl l1, .inl l2, .inl l3] [.inl (1), .inr (.inl x0)] σ Q := w_iconst d92_54 (by decide)
theorem d92_55 : adec m92 55 = some (.invokevirtual 95, 3) := by decide +kernel
theorem s92_55 {l0 : Nat} {l1 : Int} {l2 : Int} {l3 : Int} {x0 : Nat} {x1 : Int} : WP m92 55 [.inr (.inl l0), .inl l1, .inl l2, .inl l3] [.inl x1, .inr (.inl x0)] σ Q = (isO x0 3 ∧ CA m34 [.inr (.inl x0), .inl x1] σ (fun v σ2 => WP m92 58 [.inr (.inl l0), .inl l1, .inl l2, .inl l3] (v ++ []) σ2 Q)) := w_cV (k := 34) d92_55 (by decide +kernel) m34_at rfl rfl ⟨Nat.le_of_ble_eq_true rfl, Nat.le_of_ble_eq_true rfl, Nat.le_of_ble_eq_true rfl⟩ (by decide)
theorem d92_58 : adec m92 58 = some (.aload_n 0, 1) := by decide +kernel
theorem s92_58 {l0 : Nat} {l1 : Int} {l2 : Int} {l3 : Int} : WP m92 58 [.inr (.inl l0), .inl l1, .inl l2, .inl l3] [] σ Q = WP m92 59 [.inr (.inl l0), .inl l1, .inl l2, .inl l3] [.inr (.inl l0)] σ Q := w_ld d92_58 rfl
theorem d92_59 : adec m92 59 = some (.getfield 40, 3) := by decide +kernel
theorem s92_59 {l0 : Nat} {l1 : Int} {l2 : Int} {l3 : Int} : WP m92 59 [.inr (.inl l0), .inl l1, .inl l2, .inl l3] [.inr (.inl 0)] σ Q = WP m92 62 [.inr (.inl l0), .inl l1, .inl l2, .inl l3] [.inr (.inl 53)] σ Q := (w_getR (c := 9) (n := 5) d92_59 (by decide +kernel) (by decide +kernel)).trans (g_and ⟨isO_dec (by decide +kernel), by decide +kernel⟩)
theorem d92_62 : adec m92 62 = some (.aload_n 0, 1) := by decide +kernel
theorem s92_62 {l0 : Nat} {l1 : Int} {l2 : Int} {l3 : Int} {x0 : Nat} : WP m92 62 [.inr (.inl l0), .inl l1, .inl l2, .inl l3] [.inr (.inl x0)] σ Q = WP m92 63 [.inr (.inl l0), .inl l1, .inl l2, .inl l3] [.inr (.inl l0), .inr (.inl x0)] σ Q := w_ld d92_62 rfl
theorem d92_63 : adec m92 63 = some (.getfield 22, 3) := by decide +kernel
theorem s92_63 {l0 : Nat} {l1 : Int} {l2 : Int} {l3 : Int} {x0 : Nat} : WP m92 63 [.inr (.inl l0), .inl l1, .inl l2, .inl l3] [.inr (.inl 0), .inr (.inl x0)] σ Q = WP m92 66 [.inr (.inl l0), .inl l1, .inl l2, .inl l3] [.inr (.inl 3), .inr (.inl x0)] σ Q := (w_getR (c := 9) (n := 1) d92_63 (by decide +kernel) (by decide +kernel)).trans (g_and ⟨isO_dec (by decide +kernel), by decide +kernel⟩)
theorem d92_66 : adec m92 66 = some (.iload_n 2, 1) := by decide +kernel
theorem s92_66 {l0 : Nat} {l1 : Int} {l2 : Int} {l3 : Int} {x0 : Nat} {x1 : Nat} : WP m92 66 [.inr (.inl l0), .inl l1, .inl l2, .inl l3] [.inr (.inl x1), .inr (.inl x0)] σ Q = WP m92 67 [.inr (.inl l0), .inl l1, .inl l2, .inl l3] [.inl l2, .inr (.inl x1), .inr (.inl x0)] σ Q := w_ld d92_66 rfl
theorem d92_67 : adec m92 67 = some (.aaload, 1) := by decide +kernel
theorem s92_67 {l0 : Nat} {l1 : Int} {l2 : Int} {l3 : Int} {x0 : Nat} {x1 : Nat} {x2 : Int} (h31 : x1 ≠ 31) : WP m92 67 [.inr (.inl l0), .inl l1, .inl l2, .inl l3] [.inl x2, .inr (.inl x1), .inr (.inl x0)] σ Q = ((kdS x1 = 22 ∧ 0 ≤ x2 ∧ x2 < ln x1 ∧ 0 ≤ PT x1 x2.toNat) ∧ WP m92 68 [.inr (.inl l0), .inl l1, .inl l2, .inl l3] [.inr (.inl (pt x1 x2.toNat)), .inr (.inl x0)] σ Q) := w_aald d92_67 h31
theorem d92_68 : adec m92 68 = some (.invokevirtual 132, 3) := by decide +kernel
theorem s92_68 {l0 : Nat} {l1 : Int} {l2 : Int} {l3 : Int} {x0 : Nat} {x1 : Nat} : WP m92 68 [.inr (.inl l0), .inl l1, .inl l2, .inl l3] [.inr (.inl x1), .inr (.inl x0)] σ Q = (isO x0 3 ∧ CA m38 [.inr (.inl x0), .inr (.inl x1)] σ (fun v σ2 => WP m92 71 [.inr (.inl l0), .inl l1, .inl l2, .inl l3] (v ++ []) σ2 Q)) := w_cV (k := 38) d92_68 (by decide +kernel) m38_at rfl rfl ⟨Nat.le_of_ble_eq_true rfl, Nat.le_of_ble_eq_true rfl, Nat.le_of_ble_eq_true rfl⟩ (by decide)
theorem d92_71 : adec m92 71 = some (.aload_n 0, 1) := by decide +kernel
theorem s92_71 {l0 : Nat} {l1 : Int} {l2 : Int} {l3 : Int} : WP m92 71 [.inr (.inl l0), .inl l1, .inl l2, .inl l3] [] σ Q = WP m92 72 [.inr (.inl l0), .inl l1, .inl l2, .inl l3] [.inr (.inl l0)] σ Q := w_ld d92_71 rfl
theorem d92_72 : adec m92 72 = some (.getfield 40, 3) := by decide +kernel
theorem s92_72 {l0 : Nat} {l1 : Int} {l2 : Int} {l3 : Int} : WP m92 72 [.inr (.inl l0), .inl l1, .inl l2, .inl l3] [.inr (.inl 0)] σ Q = WP m92 75 [.inr (.inl l0), .inl l1, .inl l2, .inl l3] [.inr (.inl 53)] σ Q := (w_getR (c := 9) (n := 5) d92_72 (by decide +kernel) (by decide +kernel)).trans (g_and ⟨isO_dec (by decide +kernel), by decide +kernel⟩)
theorem d92_75 : adec m92 75 = some (.aload_n 0, 1) := by decide +kernel
theorem s92_75 {l0 : Nat} {l1 : Int} {l2 : Int} {l3 : Int} {x0 : Nat} : WP m92 75 [.inr (.inl l0), .inl l1, .inl l2, .inl l3] [.inr (.inl x0)] σ Q = WP m92 76 [.inr (.inl l0), .inl l1, .inl l2, .inl l3] [.inr (.inl l0), .inr (.inl x0)] σ Q := w_ld d92_75 rfl
theorem d92_76 : adec m92 76 = some (.getfield 22, 3) := by decide +kernel
theorem s92_76 {l0 : Nat} {l1 : Int} {l2 : Int} {l3 : Int} {x0 : Nat} : WP m92 76 [.inr (.inl l0), .inl l1, .inl l2, .inl l3] [.inr (.inl 0), .inr (.inl x0)] σ Q = WP m92 79 [.inr (.inl l0), .inl l1, .inl l2, .inl l3] [.inr (.inl 3), .inr (.inl x0)] σ Q := (w_getR (c := 9) (n := 1) d92_76 (by decide +kernel) (by decide +kernel)).trans (g_and ⟨isO_dec (by decide +kernel), by decide +kernel⟩)
theorem d92_79 : adec m92 79 = some (.iload_n 3, 1) := by decide +kernel
theorem s92_79 {l0 : Nat} {l1 : Int} {l2 : Int} {l3 : Int} {x0 : Nat} {x1 : Nat} : WP m92 79 [.inr (.inl l0), .inl l1, .inl l2, .inl l3] [.inr (.inl x1), .inr (.inl x0)] σ Q = WP m92 80 [.inr (.inl l0), .inl l1, .inl l2, .inl l3] [.inl l3, .inr (.inl x1), .inr (.inl x0)] σ Q := w_ld d92_79 rfl
theorem d92_80 : adec m92 80 = some (.aaload, 1) := by decide +kernel
theorem s92_80 {l0 : Nat} {l1 : Int} {l2 : Int} {l3 : Int} {x0 : Nat} {x1 : Nat} {x2 : Int} (h31 : x1 ≠ 31) : WP m92 80 [.inr (.inl l0), .inl l1, .inl l2, .inl l3] [.inl x2, .inr (.inl x1), .inr (.inl x0)] σ Q = ((kdS x1 = 22 ∧ 0 ≤ x2 ∧ x2 < ln x1 ∧ 0 ≤ PT x1 x2.toNat) ∧ WP m92 81 [.inr (.inl l0), .inl l1, .inl l2, .inl l3] [.inr (.inl (pt x1 x2.toNat)), .inr (.inl x0)] σ Q) := w_aald d92_80 h31
theorem d92_81 : adec m92 81 = some (.invokevirtual 132, 3) := by decide +kernel
theorem s92_81 {l0 : Nat} {l1 : Int} {l2 : Int} {l3 : Int} {x0 : Nat} {x1 : Nat} : WP m92 81 [.inr (.inl l0), .inl l1, .inl l2, .inl l3] [.inr (.inl x1), .inr (.inl x0)] σ Q = (isO x0 3 ∧ CA m38 [.inr (.inl x0), .inr (.inl x1)] σ (fun v σ2 => WP m92 84 [.inr (.inl l0), .inl l1, .inl l2, .inl l3] (v ++ []) σ2 Q)) := w_cV (k := 38) d92_81 (by decide +kernel) m38_at rfl rfl ⟨Nat.le_of_ble_eq_true rfl, Nat.le_of_ble_eq_true rfl, Nat.le_of_ble_eq_true rfl⟩ (by decide)
theorem d92_84 : adec m92 84 = some (.aload_n 0, 1) := by decide +kernel
theorem s92_84 {l0 : Nat} {l1 : Int} {l2 : Int} {l3 : Int} : WP m92 84 [.inr (.inl l0), .inl l1, .inl l2, .inl l3] [] σ Q = WP m92 85 [.inr (.inl l0), .inl l1, .inl l2, .inl l3] [.inr (.inl l0)] σ Q := w_ld d92_84 rfl
theorem d92_85 : adec m92 85 = some (.iload_n 1, 1) := by decide +kernel
theorem s92_85 {l0 : Nat} {l1 : Int} {l2 : Int} {l3 : Int} {x0 : Nat} : WP m92 85 [.inr (.inl l0), .inl l1, .inl l2, .inl l3] [.inr (.inl x0)] σ Q = WP m92 86 [.inr (.inl l0), .inl l1, .inl l2, .inl l3] [.inl l1, .inr (.inl x0)] σ Q := w_ld d92_85 rfl
theorem d92_86 : adec m92 86 = some (.invokevirtual 113, 3) := by decide +kernel
theorem s92_86 {l0 : Nat} {l1 : Int} {l2 : Int} {l3 : Int} {x1 : Int} : WP m92 86 [.inr (.inl l0), .inl l1, .inl l2, .inl l3] [.inl x1, .inr (.inl 0)] σ Q = CA m107 [.inr (.inl 0), .inl x1] σ (fun v σ2 => WP m92 89 [.inr (.inl l0), .inl l1, .inl l2, .inl l3] (v ++ []) σ2 Q) := (w_cV (k := 107) d92_86 (by decide +kernel) m107_at rfl rfl ⟨Nat.le_of_ble_eq_true rfl, Nat.le_of_ble_eq_true rfl, Nat.le_of_ble_eq_true rfl⟩ (by decide)).trans (g_and (isO_dec (by decide +kernel)))
theorem d92_89 : adec m92 89 = some (.ireturn, 1) := by decide +kernel
theorem s92_89 {l0 : Nat} {l1 : Int} {l2 : Int} {l3 : Int} {x0 : Int} : WP m92 89 [.inr (.inl l0), .inl l1, .inl l2, .inl l3] [.inl x0] σ Q = Q [.inl x0] σ := w_ri d92_89 rfl
theorem e92 {p0 : Nat} {p1 : Int} {p2 : Int} {p3 : Int} : CA m92 [.inr (.inl p0), .inl p1, .inl p2, .inl p3] σ Q = WP m92 0 [.inr (.inl p0), .inl p1, .inl p2, .inl p3] [] σ Q := rfl
-- BinderPress.putIn(III)I
theorem d93_0 : adec m93 0 = some (.iload_n 1, 1) := by decide +kernel
theorem s93_0 {l0 : Nat} {l1 : Int} {l2 : Int} {l3 : Int} : WP m93 0 [.inr (.inl l0), .inl l1, .inl l2, .inl l3] [] σ Q = WP m93 1 [.inr (.inl l0), .inl l1, .inl l2, .inl l3] [.inl l1] σ Q := w_ld d93_0 rfl
theorem d93_1 : adec m93 1 = some (.invokestatic 98, 3) := by decide +kernel
theorem s93_1 {l0 : Nat} {l1 : Int} {l2 : Int} {l3 : Int} {x0 : Int} : WP m93 1 [.inr (.inl l0), .inl l1, .inl l2, .inl l3] [.inl x0] σ Q = CA m113 [.inl x0] σ (fun v σ2 => WP m93 4 [.inr (.inl l0), .inl l1, .inl l2, .inl l3] (v ++ []) σ2 Q) := w_cS (k := 113) d93_1 (by decide +kernel) (md := 1) (by decide +kernel) m113_at rfl rfl ⟨Nat.le_of_ble_eq_true rfl, Nat.le_of_ble_eq_true rfl, Nat.le_of_ble_eq_true rfl⟩ (by decide)
theorem d93_4 : adec m93 4 = some (.ifCond .eq (10), 3) := by decide +kernel
theorem s93_4 {l0 : Nat} {l1 : Int} {l2 : Int} {l3 : Int} {x0 : Int} : WP m93 4 [.inr (.inl l0), .inl l1, .inl l2, .inl l3] [.inl x0] σ Q = (if x0 = 0 then WP m93 14 [.inr (.inl l0), .inl l1, .inl l2, .inl l3] [] σ Q else WP m93 7 [.inr (.inl l0), .inl l1, .inl l2, .inl l3] [] σ Q) := w_ifeq d93_4 (by decide)
theorem d93_7 : adec m93 7 = some (.iload_n 3, 1) := by decide +kernel
theorem s93_7 {l0 : Nat} {l1 : Int} {l2 : Int} {l3 : Int} : WP m93 7 [.inr (.inl l0), .inl l1, .inl l2, .inl l3] [] σ Q = WP m93 8 [.inr (.inl l0), .inl l1, .inl l2, .inl l3] [.inl l3] σ Q := w_ld d93_7 rfl
theorem d93_8 : adec m93 8 = some (.invokestatic 98, 3) := by decide +kernel
theorem s93_8 {l0 : Nat} {l1 : Int} {l2 : Int} {l3 : Int} {x0 : Int} : WP m93 8 [.inr (.inl l0), .inl l1, .inl l2, .inl l3] [.inl x0] σ Q = CA m113 [.inl x0] σ (fun v σ2 => WP m93 11 [.inr (.inl l0), .inl l1, .inl l2, .inl l3] (v ++ []) σ2 Q) := w_cS (k := 113) d93_8 (by decide +kernel) (md := 1) (by decide +kernel) m113_at rfl rfl ⟨Nat.le_of_ble_eq_true rfl, Nat.le_of_ble_eq_true rfl, Nat.le_of_ble_eq_true rfl⟩ (by decide)
theorem d93_11 : adec m93 11 = some (.ifCond .ne (6), 3) := by decide +kernel
theorem s93_11 {l0 : Nat} {l1 : Int} {l2 : Int} {l3 : Int} {x0 : Int} : WP m93 11 [.inr (.inl l0), .inl l1, .inl l2, .inl l3] [.inl x0] σ Q = (if x0 = 0 then WP m93 14 [.inr (.inl l0), .inl l1, .inl l2, .inl l3] [] σ Q else WP m93 17 [.inr (.inl l0), .inl l1, .inl l2, .inl l3] [] σ Q) := w_ifne d93_11 (by decide)
theorem d93_14 : adec m93 14 = some (.ldc 102, 2) := by decide +kernel
theorem s93_14 {l0 : Nat} {l1 : Int} {l2 : Int} {l3 : Int} : WP m93 14 [.inr (.inl l0), .inl l1, .inl l2, .inl l3] [] σ Q = WP m93 16 [.inr (.inl l0), .inl l1, .inl l2, .inl l3] [.inl (-1000000001)] σ Q := w_ldc d93_14 (by decide +kernel) (by decide)
theorem d93_16 : adec m93 16 = some (.ireturn, 1) := by decide +kernel
theorem s93_16 {l0 : Nat} {l1 : Int} {l2 : Int} {l3 : Int} {x0 : Int} : WP m93 16 [.inr (.inl l0), .inl l1, .inl l2, .inl l3] [.inl x0] σ Q = Q [.inl x0] σ := w_ri d93_16 rfl
theorem d93_17 : adec m93 17 = some (.iload_n 2, 1) := by decide +kernel
theorem s93_17 {l0 : Nat} {l1 : Int} {l2 : Int} {l3 : Int} : WP m93 17 [.inr (.inl l0), .inl l1, .inl l2, .inl l3] [] σ Q = WP m93 18 [.inr (.inl l0), .inl l1, .inl l2, .inl l3] [.inl l2] σ Q := w_ld d93_17 rfl
theorem d93_18 : adec m93 18 = some (.invokestatic 125, 3) := by decide +kernel
theorem s93_18 {l0 : Nat} {l1 : Int} {l2 : Int} {l3 : Int} {x0 : Int} : WP m93 18 [.inr (.inl l0), .inl l1, .inl l2, .inl l3] [.inl x0] σ Q = CA m116 [.inl x0] σ (fun v σ2 => WP m93 21 [.inr (.inl l0), .inl l1, .inl l2, .inl l3] (v ++ []) σ2 Q) := w_cS (k := 116) d93_18 (by decide +kernel) (md := 1) (by decide +kernel) m116_at rfl rfl ⟨Nat.le_of_ble_eq_true rfl, Nat.le_of_ble_eq_true rfl, Nat.le_of_ble_eq_true rfl⟩ (by decide)
theorem d93_21 : adec m93 21 = some (.ifCond .ne (6), 3) := by decide +kernel
theorem s93_21 {l0 : Nat} {l1 : Int} {l2 : Int} {l3 : Int} {x0 : Int} : WP m93 21 [.inr (.inl l0), .inl l1, .inl l2, .inl l3] [.inl x0] σ Q = (if x0 = 0 then WP m93 24 [.inr (.inl l0), .inl l1, .inl l2, .inl l3] [] σ Q else WP m93 27 [.inr (.inl l0), .inl l1, .inl l2, .inl l3] [] σ Q) := w_ifne d93_21 (by decide)
theorem d93_24 : adec m93 24 = some (.ldc 89, 2) := by decide +kernel
theorem s93_24 {l0 : Nat} {l1 : Int} {l2 : Int} {l3 : Int} : WP m93 24 [.inr (.inl l0), .inl l1, .inl l2, .inl l3] [] σ Q = WP m93 26 [.inr (.inl l0), .inl l1, .inl l2, .inl l3] [.inl (-1000000002)] σ Q := w_ldc d93_24 (by decide +kernel) (by decide)
theorem d93_26 : adec m93 26 = some (.ireturn, 1) := by decide +kernel
theorem s93_26 {l0 : Nat} {l1 : Int} {l2 : Int} {l3 : Int} {x0 : Int} : WP m93 26 [.inr (.inl l0), .inl l1, .inl l2, .inl l3] [.inl x0] σ Q = Q [.inl x0] σ := w_ri d93_26 rfl
theorem d93_27 : adec m93 27 = some (.aload_n 0, 1) := by decide +kernel
theorem s93_27 {l0 : Nat} {l1 : Int} {l2 : Int} {l3 : Int} : WP m93 27 [.inr (.inl l0), .inl l1, .inl l2, .inl l3] [] σ Q = WP m93 28 [.inr (.inl l0), .inl l1, .inl l2, .inl l3] [.inr (.inl l0)] σ Q := w_ld d93_27 rfl
theorem d93_28 : adec m93 28 = some (.iload_n 1, 1) := by decide +kernel
theorem s93_28 {l0 : Nat} {l1 : Int} {l2 : Int} {l3 : Int} {x0 : Nat} : WP m93 28 [.inr (.inl l0), .inl l1, .inl l2, .inl l3] [.inr (.inl x0)] σ Q = WP m93 29 [.inr (.inl l0), .inl l1, .inl l2, .inl l3] [.inl l1, .inr (.inl x0)] σ Q := w_ld d93_28 rfl
theorem d93_29 : adec m93 29 = some (.invokevirtual 117, 3) := by decide +kernel
theorem s93_29 {l0 : Nat} {l1 : Int} {l2 : Int} {l3 : Int} {x1 : Int} : WP m93 29 [.inr (.inl l0), .inl l1, .inl l2, .inl l3] [.inl x1, .inr (.inl 0)] σ Q = CA m111 [.inr (.inl 0), .inl x1] σ (fun v σ2 => WP m93 32 [.inr (.inl l0), .inl l1, .inl l2, .inl l3] (v ++ []) σ2 Q) := (w_cV (k := 111) d93_29 (by decide +kernel) m111_at rfl rfl ⟨Nat.le_of_ble_eq_true rfl, Nat.le_of_ble_eq_true rfl, Nat.le_of_ble_eq_true rfl⟩ (by decide)).trans (g_and (isO_dec (by decide +kernel)))
theorem d93_32 : adec m93 32 = some (.ifCond .ne (27), 3) := by decide +kernel
theorem s93_32 {l0 : Nat} {l1 : Int} {l2 : Int} {l3 : Int} {x0 : Int} : WP m93 32 [.inr (.inl l0), .inl l1, .inl l2, .inl l3] [.inl x0] σ Q = (if x0 = 0 then WP m93 35 [.inr (.inl l0), .inl l1, .inl l2, .inl l3] [] σ Q else WP m93 59 [.inr (.inl l0), .inl l1, .inl l2, .inl l3] [] σ Q) := w_ifne d93_32 (by decide)
theorem d93_35 : adec m93 35 = some (.aload_n 0, 1) := by decide +kernel
theorem s93_35 {l0 : Nat} {l1 : Int} {l2 : Int} {l3 : Int} : WP m93 35 [.inr (.inl l0), .inl l1, .inl l2, .inl l3] [] σ Q = WP m93 36 [.inr (.inl l0), .inl l1, .inl l2, .inl l3] [.inr (.inl l0)] σ Q := w_ld d93_35 rfl
theorem d93_36 : adec m93 36 = some (.iload_n 3, 1) := by decide +kernel
theorem s93_36 {l0 : Nat} {l1 : Int} {l2 : Int} {l3 : Int} {x0 : Nat} : WP m93 36 [.inr (.inl l0), .inl l1, .inl l2, .inl l3] [.inr (.inl x0)] σ Q = WP m93 37 [.inr (.inl l0), .inl l1, .inl l2, .inl l3] [.inl l3, .inr (.inl x0)] σ Q := w_ld d93_36 rfl
theorem d93_37 : adec m93 37 = some (.invokevirtual 117, 3) := by decide +kernel
theorem s93_37 {l0 : Nat} {l1 : Int} {l2 : Int} {l3 : Int} {x1 : Int} : WP m93 37 [.inr (.inl l0), .inl l1, .inl l2, .inl l3] [.inl x1, .inr (.inl 0)] σ Q = CA m111 [.inr (.inl 0), .inl x1] σ (fun v σ2 => WP m93 40 [.inr (.inl l0), .inl l1, .inl l2, .inl l3] (v ++ []) σ2 Q) := (w_cV (k := 111) d93_37 (by decide +kernel) m111_at rfl rfl ⟨Nat.le_of_ble_eq_true rfl, Nat.le_of_ble_eq_true rfl, Nat.le_of_ble_eq_true rfl⟩ (by decide)).trans (g_and (isO_dec (by decide +kernel)))
theorem d93_40 : adec m93 40 = some (.ifCond .ne (19), 3) := by decide +kernel
theorem s93_40 {l0 : Nat} {l1 : Int} {l2 : Int} {l3 : Int} {x0 : Int} : WP m93 40 [.inr (.inl l0), .inl l1, .inl l2, .inl l3] [.inl x0] σ Q = (if x0 = 0 then WP m93 43 [.inr (.inl l0), .inl l1, .inl l2, .inl l3] [] σ Q else WP m93 59 [.inr (.inl l0), .inl l1, .inl l2, .inl l3] [] σ Q) := w_ifne d93_40 (by decide)
theorem d93_43 : adec m93 43 = some (.aload_n 0, 1) := by decide +kernel
theorem s93_43 {l0 : Nat} {l1 : Int} {l2 : Int} {l3 : Int} : WP m93 43 [.inr (.inl l0), .inl l1, .inl l2, .inl l3] [] σ Q = WP m93 44 [.inr (.inl l0), .inl l1, .inl l2, .inl l3] [.inr (.inl l0)] σ Q := w_ld d93_43 rfl
theorem d93_44 : adec m93 44 = some (.iload_n 1, 1) := by decide +kernel
theorem s93_44 {l0 : Nat} {l1 : Int} {l2 : Int} {l3 : Int} {x0 : Nat} : WP m93 44 [.inr (.inl l0), .inl l1, .inl l2, .inl l3] [.inr (.inl x0)] σ Q = WP m93 45 [.inr (.inl l0), .inl l1, .inl l2, .inl l3] [.inl l1, .inr (.inl x0)] σ Q := w_ld d93_44 rfl
theorem d93_45 : adec m93 45 = some (.invokevirtual 136, 3) := by decide +kernel
theorem s93_45 {l0 : Nat} {l1 : Int} {l2 : Int} {l3 : Int} {x1 : Int} : WP m93 45 [.inr (.inl l0), .inl l1, .inl l2, .inl l3] [.inl x1, .inr (.inl 0)] σ Q = CA m112 [.inr (.inl 0), .inl x1] σ (fun v σ2 => WP m93 48 [.inr (.inl l0), .inl l1, .inl l2, .inl l3] (v ++ []) σ2 Q) := (w_cV (k := 112) d93_45 (by decide +kernel) m112_at rfl rfl ⟨Nat.le_of_ble_eq_true rfl, Nat.le_of_ble_eq_true rfl, Nat.le_of_ble_eq_true rfl⟩ (by decide)).trans (g_and (isO_dec (by decide +kernel)))
theorem d93_48 : adec m93 48 = some (.ifCond .ne (11), 3) := by decide +kernel
theorem s93_48 {l0 : Nat} {l1 : Int} {l2 : Int} {l3 : Int} {x0 : Int} : WP m93 48 [.inr (.inl l0), .inl l1, .inl l2, .inl l3] [.inl x0] σ Q = (if x0 = 0 then WP m93 51 [.inr (.inl l0), .inl l1, .inl l2, .inl l3] [] σ Q else WP m93 59 [.inr (.inl l0), .inl l1, .inl l2, .inl l3] [] σ Q) := w_ifne d93_48 (by decide)
theorem d93_51 : adec m93 51 = some (.aload_n 0, 1) := by decide +kernel
theorem s93_51 {l0 : Nat} {l1 : Int} {l2 : Int} {l3 : Int} : WP m93 51 [.inr (.inl l0), .inl l1, .inl l2, .inl l3] [] σ Q = WP m93 52 [.inr (.inl l0), .inl l1, .inl l2, .inl l3] [.inr (.inl l0)] σ Q := w_ld d93_51 rfl
theorem d93_52 : adec m93 52 = some (.iload_n 3, 1) := by decide +kernel
theorem s93_52 {l0 : Nat} {l1 : Int} {l2 : Int} {l3 : Int} {x0 : Nat} : WP m93 52 [.inr (.inl l0), .inl l1, .inl l2, .inl l3] [.inr (.inl x0)] σ Q = WP m93 53 [.inr (.inl l0), .inl l1, .inl l2, .inl l3] [.inl l3, .inr (.inl x0)] σ Q := w_ld d93_52 rfl
theorem d93_53 : adec m93 53 = some (.invokevirtual 136, 3) := by decide +kernel
theorem s93_53 {l0 : Nat} {l1 : Int} {l2 : Int} {l3 : Int} {x1 : Int} : WP m93 53 [.inr (.inl l0), .inl l1, .inl l2, .inl l3] [.inl x1, .inr (.inl 0)] σ Q = CA m112 [.inr (.inl 0), .inl x1] σ (fun v σ2 => WP m93 56 [.inr (.inl l0), .inl l1, .inl l2, .inl l3] (v ++ []) σ2 Q) := (w_cV (k := 112) d93_53 (by decide +kernel) m112_at rfl rfl ⟨Nat.le_of_ble_eq_true rfl, Nat.le_of_ble_eq_true rfl, Nat.le_of_ble_eq_true rfl⟩ (by decide)).trans (g_and (isO_dec (by decide +kernel)))
theorem d93_56 : adec m93 56 = some (.ifCond .eq (6), 3) := by decide +kernel
theorem s93_56 {l0 : Nat} {l1 : Int} {l2 : Int} {l3 : Int} {x0 : Int} : WP m93 56 [.inr (.inl l0), .inl l1, .inl l2, .inl l3] [.inl x0] σ Q = (if x0 = 0 then WP m93 62 [.inr (.inl l0), .inl l1, .inl l2, .inl l3] [] σ Q else WP m93 59 [.inr (.inl l0), .inl l1, .inl l2, .inl l3] [] σ Q) := w_ifeq d93_56 (by decide)
theorem d93_59 : adec m93 59 = some (.ldc 120, 2) := by decide +kernel
theorem s93_59 {l0 : Nat} {l1 : Int} {l2 : Int} {l3 : Int} : WP m93 59 [.inr (.inl l0), .inl l1, .inl l2, .inl l3] [] σ Q = WP m93 61 [.inr (.inl l0), .inl l1, .inl l2, .inl l3] [.inl (-1000000003)] σ Q := w_ldc d93_59 (by decide +kernel) (by decide)
theorem d93_61 : adec m93 61 = some (.ireturn, 1) := by decide +kernel
theorem s93_61 {l0 : Nat} {l1 : Int} {l2 : Int} {l3 : Int} {x0 : Int} : WP m93 61 [.inr (.inl l0), .inl l1, .inl l2, .inl l3] [.inl x0] σ Q = Q [.inl x0] σ := w_ri d93_61 rfl
theorem d93_62 : adec m93 62 = some (.aload_n 0, 1) := by decide +kernel
theorem s93_62 {l0 : Nat} {l1 : Int} {l2 : Int} {l3 : Int} : WP m93 62 [.inr (.inl l0), .inl l1, .inl l2, .inl l3] [] σ Q = WP m93 63 [.inr (.inl l0), .inl l1, .inl l2, .inl l3] [.inr (.inl l0)] σ Q := w_ld d93_62 rfl
theorem d93_63 : adec m93 63 = some (.aload_n 0, 1) := by decide +kernel
theorem s93_63 {l0 : Nat} {l1 : Int} {l2 : Int} {l3 : Int} {x0 : Nat} : WP m93 63 [.inr (.inl l0), .inl l1, .inl l2, .inl l3] [.inr (.inl x0)] σ Q = WP m93 64 [.inr (.inl l0), .inl l1, .inl l2, .inl l3] [.inr (.inl l0), .inr (.inl x0)] σ Q := w_ld d93_63 rfl
theorem d93_64 : adec m93 64 = some (.getfield 22, 3) := by decide +kernel
theorem s93_64 {l0 : Nat} {l1 : Int} {l2 : Int} {l3 : Int} {x0 : Nat} : WP m93 64 [.inr (.inl l0), .inl l1, .inl l2, .inl l3] [.inr (.inl 0), .inr (.inl x0)] σ Q = WP m93 67 [.inr (.inl l0), .inl l1, .inl l2, .inl l3] [.inr (.inl 3), .inr (.inl x0)] σ Q := (w_getR (c := 9) (n := 1) d93_64 (by decide +kernel) (by decide +kernel)).trans (g_and ⟨isO_dec (by decide +kernel), by decide +kernel⟩)
theorem d93_67 : adec m93 67 = some (.iload_n 1, 1) := by decide +kernel
theorem s93_67 {l0 : Nat} {l1 : Int} {l2 : Int} {l3 : Int} {x0 : Nat} {x1 : Nat} : WP m93 67 [.inr (.inl l0), .inl l1, .inl l2, .inl l3] [.inr (.inl x1), .inr (.inl x0)] σ Q = WP m93 68 [.inr (.inl l0), .inl l1, .inl l2, .inl l3] [.inl l1, .inr (.inl x1), .inr (.inl x0)] σ Q := w_ld d93_67 rfl
theorem d93_68 : adec m93 68 = some (.aaload, 1) := by decide +kernel
theorem s93_68 {l0 : Nat} {l1 : Int} {l2 : Int} {l3 : Int} {x0 : Nat} {x1 : Nat} {x2 : Int} (h31 : x1 ≠ 31) : WP m93 68 [.inr (.inl l0), .inl l1, .inl l2, .inl l3] [.inl x2, .inr (.inl x1), .inr (.inl x0)] σ Q = ((kdS x1 = 22 ∧ 0 ≤ x2 ∧ x2 < ln x1 ∧ 0 ≤ PT x1 x2.toNat) ∧ WP m93 69 [.inr (.inl l0), .inl l1, .inl l2, .inl l3] [.inr (.inl (pt x1 x2.toNat)), .inr (.inl x0)] σ Q) := w_aald d93_68 h31
theorem d93_69 : adec m93 69 = some (.iload_n 2, 1) := by decide +kernel
theorem s93_69 {l0 : Nat} {l1 : Int} {l2 : Int} {l3 : Int} {x0 : Nat} {x1 : Nat} : WP m93 69 [.inr (.inl l0), .inl l1, .inl l2, .inl l3] [.inr (.inl x1), .inr (.inl x0)] σ Q = WP m93 70 [.inr (.inl l0), .inl l1, .inl l2, .inl l3] [.inl l2, .inr (.inl x1), .inr (.inl x0)] σ Q := w_ld d93_69 rfl
theorem d93_70 : adec m93 70 = some (.aload_n 0, 1) := by decide +kernel
theorem s93_70 {l0 : Nat} {l1 : Int} {l2 : Int} {l3 : Int} {x0 : Nat} {x1 : Nat} {x2 : Int} : WP m93 70 [.inr (.inl l0), .inl l1, .inl l2, .inl l3] [.inl x2, .inr (.inl x1), .inr (.inl x0)] σ Q = WP m93 71 [.inr (.inl l0), .inl l1, .inl l2, .inl l3] [.inr (.inl l0), .inl x2, .inr (.inl x1), .inr (.inl x0)] σ Q := w_ld d93_70 rfl
theorem d93_71 : adec m93 71 = some (.getfield 22, 3) := by decide +kernel
theorem s93_71 {l0 : Nat} {l1 : Int} {l2 : Int} {l3 : Int} {x0 : Nat} {x1 : Nat} {x2 : Int} : WP m93 71 [.inr (.inl l0), .inl l1, .inl l2, .inl l3] [.inr (.inl 0), .inl x2, .inr (.inl x1), .inr (.inl x0)] σ Q = WP m93 74 [.inr (.inl l0), .inl l1, .inl l2, .inl l3] [.inr (.inl 3), .inl x2, .inr (.inl x1), .inr (.inl x0)] σ Q := (w_getR (c := 9) (n := 1) d93_71 (by decide +kernel) (by decide +kernel)).trans (g_and ⟨isO_dec (by decide +kernel), by decide +kernel⟩)
theorem d93_74 : adec m93 74 = some (.iload_n 3, 1) := by decide +kernel
theorem s93_74 {l0 : Nat} {l1 : Int} {l2 : Int} {l3 : Int} {x0 : Nat} {x1 : Nat} {x2 : Int} {x3 : Nat} : WP m93 74 [.inr (.inl l0), .inl l1, .inl l2, .inl l3] [.inr (.inl x3), .inl x2, .inr (.inl x1), .inr (.inl x0)] σ Q = WP m93 75 [.inr (.inl l0), .inl l1, .inl l2, .inl l3] [.inl l3, .inr (.inl x3), .inl x2, .inr (.inl x1), .inr (.inl x0)] σ Q := w_ld d93_74 rfl
theorem d93_75 : adec m93 75 = some (.aaload, 1) := by decide +kernel
theorem s93_75 {l0 : Nat} {l1 : Int} {l2 : Int} {l3 : Int} {x0 : Nat} {x1 : Nat} {x2 : Int} {x3 : Nat} {x4 : Int} (h31 : x3 ≠ 31) : WP m93 75 [.inr (.inl l0), .inl l1, .inl l2, .inl l3] [.inl x4, .inr (.inl x3), .inl x2, .inr (.inl x1), .inr (.inl x0)] σ Q = ((kdS x3 = 22 ∧ 0 ≤ x4 ∧ x4 < ln x3 ∧ 0 ≤ PT x3 x4.toNat) ∧ WP m93 76 [.inr (.inl l0), .inl l1, .inl l2, .inl l3] [.inr (.inl (pt x3 x4.toNat)), .inl x2, .inr (.inl x1), .inr (.inl x0)] σ Q) := w_aald d93_75 h31
theorem d93_76 : adec m93 76 = some (.invokevirtual 139, 3) := by decide +kernel
theorem s93_76 {l0 : Nat} {l1 : Int} {l2 : Int} {l3 : Int} {x1 : Nat} {x2 : Int} {x3 : Nat} : WP m93 76 [.inr (.inl l0), .inl l1, .inl l2, .inl l3] [.inr (.inl x3), .inl x2, .inr (.inl x1), .inr (.inl 0)] σ Q = CA m108 [.inr (.inl 0), .inr (.inl x1), .inl x2, .inr (.inl x3)] σ (fun v σ2 => WP m93 79 [.inr (.inl l0), .inl l1, .inl l2, .inl l3] (v ++ []) σ2 Q) := (w_cV (k := 108) d93_76 (by decide +kernel) m108_at rfl rfl ⟨Nat.le_of_ble_eq_true rfl, Nat.le_of_ble_eq_true rfl, Nat.le_of_ble_eq_true rfl⟩ (by decide)).trans (g_and (isO_dec (by decide +kernel)))
theorem d93_79 : adec m93 79 = some (.aload_n 0, 1) := by decide +kernel
theorem s93_79 {l0 : Nat} {l1 : Int} {l2 : Int} {l3 : Int} : WP m93 79 [.inr (.inl l0), .inl l1, .inl l2, .inl l3] [] σ Q = WP m93 80 [.inr (.inl l0), .inl l1, .inl l2, .inl l3] [.inr (.inl l0)] σ Q := w_ld d93_79 rfl
theorem d93_80 : adec m93 80 = some (.iload_n 1, 1) := by decide +kernel
theorem s93_80 {l0 : Nat} {l1 : Int} {l2 : Int} {l3 : Int} {x0 : Nat} : WP m93 80 [.inr (.inl l0), .inl l1, .inl l2, .inl l3] [.inr (.inl x0)] σ Q = WP m93 81 [.inr (.inl l0), .inl l1, .inl l2, .inl l3] [.inl l1, .inr (.inl x0)] σ Q := w_ld d93_80 rfl
theorem d93_81 : adec m93 81 = some (.invokevirtual 113, 3) := by decide +kernel
theorem s93_81 {l0 : Nat} {l1 : Int} {l2 : Int} {l3 : Int} {x1 : Int} : WP m93 81 [.inr (.inl l0), .inl l1, .inl l2, .inl l3] [.inl x1, .inr (.inl 0)] σ Q = CA m107 [.inr (.inl 0), .inl x1] σ (fun v σ2 => WP m93 84 [.inr (.inl l0), .inl l1, .inl l2, .inl l3] (v ++ []) σ2 Q) := (w_cV (k := 107) d93_81 (by decide +kernel) m107_at rfl rfl ⟨Nat.le_of_ble_eq_true rfl, Nat.le_of_ble_eq_true rfl, Nat.le_of_ble_eq_true rfl⟩ (by decide)).trans (g_and (isO_dec (by decide +kernel)))
theorem d93_84 : adec m93 84 = some (.ireturn, 1) := by decide +kernel
theorem s93_84 {l0 : Nat} {l1 : Int} {l2 : Int} {l3 : Int} {x0 : Int} : WP m93 84 [.inr (.inl l0), .inl l1, .inl l2, .inl l3] [.inl x0] σ Q = Q [.inl x0] σ := w_ri d93_84 rfl
theorem e93 {p0 : Nat} {p1 : Int} {p2 : Int} {p3 : Int} : CA m93 [.inr (.inl p0), .inl p1, .inl p2, .inl p3] σ Q = WP m93 0 [.inr (.inl p0), .inl p1, .inl p2, .inl p3] [] σ Q := rfl
-- BinderPress.work(III)I
theorem d94_0 : adec m94 0 = some (.iload_n 1, 1) := by decide +kernel
theorem s94_0 {l0 : Nat} {l1 : Int} {l2 : Int} {l3 : Int} {l4 : AV} {l5 : AV} : WP m94 0 [.inr (.inl l0), .inl l1, .inl l2, .inl l3, l4, l5] [] σ Q = WP m94 1 [.inr (.inl l0), .inl l1, .inl l2, .inl l3, l4, l5] [.inl l1] σ Q := w_ld d94_0 rfl
theorem d94_1 : adec m94 1 = some (.invokestatic 98, 3) := by decide +kernel
theorem s94_1 {l0 : Nat} {l1 : Int} {l2 : Int} {l3 : Int} {l4 : AV} {l5 : AV} {x0 : Int} : WP m94 1 [.inr (.inl l0), .inl l1, .inl l2, .inl l3, l4, l5] [.inl x0] σ Q = CA m113 [.inl x0] σ (fun v σ2 => WP m94 4 [.inr (.inl l0), .inl l1, .inl l2, .inl l3, l4, l5] (v ++ []) σ2 Q) := w_cS (k := 113) d94_1 (by decide +kernel) (md := 1) (by decide +kernel) m113_at rfl rfl ⟨Nat.le_of_ble_eq_true rfl, Nat.le_of_ble_eq_true rfl, Nat.le_of_ble_eq_true rfl⟩ (by decide)
theorem d94_4 : adec m94 4 = some (.ifCond .ne (6), 3) := by decide +kernel
theorem s94_4 {l0 : Nat} {l1 : Int} {l2 : Int} {l3 : Int} {l4 : AV} {l5 : AV} {x0 : Int} : WP m94 4 [.inr (.inl l0), .inl l1, .inl l2, .inl l3, l4, l5] [.inl x0] σ Q = (if x0 = 0 then WP m94 7 [.inr (.inl l0), .inl l1, .inl l2, .inl l3, l4, l5] [] σ Q else WP m94 10 [.inr (.inl l0), .inl l1, .inl l2, .inl l3, l4, l5] [] σ Q) := w_ifne d94_4 (by decide)
theorem d94_7 : adec m94 7 = some (.ldc 102, 2) := by decide +kernel
theorem s94_7 {l0 : Nat} {l1 : Int} {l2 : Int} {l3 : Int} {l4 : AV} {l5 : AV} : WP m94 7 [.inr (.inl l0), .inl l1, .inl l2, .inl l3, l4, l5] [] σ Q = WP m94 9 [.inr (.inl l0), .inl l1, .inl l2, .inl l3, l4, l5] [.inl (-1000000001)] σ Q := w_ldc d94_7 (by decide +kernel) (by decide)
theorem d94_9 : adec m94 9 = some (.ireturn, 1) := by decide +kernel
theorem s94_9 {l0 : Nat} {l1 : Int} {l2 : Int} {l3 : Int} {l4 : AV} {l5 : AV} {x0 : Int} : WP m94 9 [.inr (.inl l0), .inl l1, .inl l2, .inl l3, l4, l5] [.inl x0] σ Q = Q [.inl x0] σ := w_ri d94_9 rfl
theorem d94_10 : adec m94 10 = some (.iload_n 2, 1) := by decide +kernel
theorem s94_10 {l0 : Nat} {l1 : Int} {l2 : Int} {l3 : Int} {l4 : AV} {l5 : AV} : WP m94 10 [.inr (.inl l0), .inl l1, .inl l2, .inl l3, l4, l5] [] σ Q = WP m94 11 [.inr (.inl l0), .inl l1, .inl l2, .inl l3, l4, l5] [.inl l2] σ Q := w_ld d94_10 rfl
theorem d94_11 : adec m94 11 = some (.invokestatic 143, 3) := by decide +kernel
theorem s94_11 {l0 : Nat} {l1 : Int} {l2 : Int} {l3 : Int} {l4 : AV} {l5 : AV} {x0 : Int} : WP m94 11 [.inr (.inl l0), .inl l1, .inl l2, .inl l3, l4, l5] [.inl x0] σ Q = CA m115 [.inl x0] σ (fun v σ2 => WP m94 14 [.inr (.inl l0), .inl l1, .inl l2, .inl l3, l4, l5] (v ++ []) σ2 Q) := w_cS (k := 115) d94_11 (by decide +kernel) (md := 1) (by decide +kernel) m115_at rfl rfl ⟨Nat.le_of_ble_eq_true rfl, Nat.le_of_ble_eq_true rfl, Nat.le_of_ble_eq_true rfl⟩ (by decide)
theorem d94_14 : adec m94 14 = some (.ifCond .eq (14), 3) := by decide +kernel
theorem s94_14 {l0 : Nat} {l1 : Int} {l2 : Int} {l3 : Int} {l4 : AV} {l5 : AV} {x0 : Int} : WP m94 14 [.inr (.inl l0), .inl l1, .inl l2, .inl l3, l4, l5] [.inl x0] σ Q = (if x0 = 0 then WP m94 28 [.inr (.inl l0), .inl l1, .inl l2, .inl l3, l4, l5] [] σ Q else WP m94 17 [.inr (.inl l0), .inl l1, .inl l2, .inl l3, l4, l5] [] σ Q) := w_ifeq d94_14 (by decide)
theorem d94_17 : adec m94 17 = some (.iload_n 3, 1) := by decide +kernel
theorem s94_17 {l0 : Nat} {l1 : Int} {l2 : Int} {l3 : Int} {l4 : AV} {l5 : AV} : WP m94 17 [.inr (.inl l0), .inl l1, .inl l2, .inl l3, l4, l5] [] σ Q = WP m94 18 [.inr (.inl l0), .inl l1, .inl l2, .inl l3, l4, l5] [.inl l3] σ Q := w_ld d94_17 rfl
theorem d94_18 : adec m94 18 = some (.ifCond .lt (10), 3) := by decide +kernel
theorem s94_18 {l0 : Nat} {l1 : Int} {l2 : Int} {l3 : Int} {l4 : AV} {l5 : AV} {x0 : Int} : WP m94 18 [.inr (.inl l0), .inl l1, .inl l2, .inl l3, l4, l5] [.inl x0] σ Q = (if x0 < 0 then WP m94 28 [.inr (.inl l0), .inl l1, .inl l2, .inl l3, l4, l5] [] σ Q else WP m94 21 [.inr (.inl l0), .inl l1, .inl l2, .inl l3, l4, l5] [] σ Q) := w_iflt d94_18 (by decide)
theorem d94_21 : adec m94 21 = some (.iload_n 3, 1) := by decide +kernel
theorem s94_21 {l0 : Nat} {l1 : Int} {l2 : Int} {l3 : Int} {l4 : AV} {l5 : AV} : WP m94 21 [.inr (.inl l0), .inl l1, .inl l2, .inl l3, l4, l5] [] σ Q = WP m94 22 [.inr (.inl l0), .inl l1, .inl l2, .inl l3, l4, l5] [.inl l3] σ Q := w_ld d94_21 rfl
theorem d94_22 : adec m94 22 = some (.sipush (200), 3) := by decide +kernel
theorem s94_22 {l0 : Nat} {l1 : Int} {l2 : Int} {l3 : Int} {l4 : AV} {l5 : AV} {x0 : Int} : WP m94 22 [.inr (.inl l0), .inl l1, .inl l2, .inl l3, l4, l5] [.inl x0] σ Q = WP m94 25 [.inr (.inl l0), .inl l1, .inl l2, .inl l3, l4, l5] [.inl (200), .inl x0] σ Q := w_sipush d94_22 (by decide)
theorem d94_25 : adec m94 25 = some (.if_icmp .le (6), 3) := by decide +kernel
theorem s94_25 {l0 : Nat} {l1 : Int} {l2 : Int} {l3 : Int} {l4 : AV} {l5 : AV} {x0 : Int} {x1 : Int} : WP m94 25 [.inr (.inl l0), .inl l1, .inl l2, .inl l3, l4, l5] [.inl x1, .inl x0] σ Q = (if x0 ≤ x1 then WP m94 31 [.inr (.inl l0), .inl l1, .inl l2, .inl l3, l4, l5] [] σ Q else WP m94 28 [.inr (.inl l0), .inl l1, .inl l2, .inl l3, l4, l5] [] σ Q) := w_icle d94_25 (by decide)
theorem d94_28 : adec m94 28 = some (.ldc 89, 2) := by decide +kernel
theorem s94_28 {l0 : Nat} {l1 : Int} {l2 : Int} {l3 : Int} {l4 : AV} {l5 : AV} : WP m94 28 [.inr (.inl l0), .inl l1, .inl l2, .inl l3, l4, l5] [] σ Q = WP m94 30 [.inr (.inl l0), .inl l1, .inl l2, .inl l3, l4, l5] [.inl (-1000000002)] σ Q := w_ldc d94_28 (by decide +kernel) (by decide)
theorem d94_30 : adec m94 30 = some (.ireturn, 1) := by decide +kernel
theorem s94_30 {l0 : Nat} {l1 : Int} {l2 : Int} {l3 : Int} {l4 : AV} {l5 : AV} {x0 : Int} : WP m94 30 [.inr (.inl l0), .inl l1, .inl l2, .inl l3, l4, l5] [.inl x0] σ Q = Q [.inl x0] σ := w_ri d94_30 rfl
theorem d94_31 : adec m94 31 = some (.aload_n 0, 1) := by decide +kernel
theorem s94_31 {l0 : Nat} {l1 : Int} {l2 : Int} {l3 : Int} {l4 : AV} {l5 : AV} : WP m94 31 [.inr (.inl l0), .inl l1, .inl l2, .inl l3, l4, l5] [] σ Q = WP m94 32 [.inr (.inl l0), .inl l1, .inl l2, .inl l3, l4, l5] [.inr (.inl l0)] σ Q := w_ld d94_31 rfl
theorem d94_32 : adec m94 32 = some (.iload_n 1, 1) := by decide +kernel
theorem s94_32 {l0 : Nat} {l1 : Int} {l2 : Int} {l3 : Int} {l4 : AV} {l5 : AV} {x0 : Nat} : WP m94 32 [.inr (.inl l0), .inl l1, .inl l2, .inl l3, l4, l5] [.inr (.inl x0)] σ Q = WP m94 33 [.inr (.inl l0), .inl l1, .inl l2, .inl l3, l4, l5] [.inl l1, .inr (.inl x0)] σ Q := w_ld d94_32 rfl
theorem d94_33 : adec m94 33 = some (.invokevirtual 117, 3) := by decide +kernel
theorem s94_33 {l0 : Nat} {l1 : Int} {l2 : Int} {l3 : Int} {l4 : AV} {l5 : AV} {x1 : Int} : WP m94 33 [.inr (.inl l0), .inl l1, .inl l2, .inl l3, l4, l5] [.inl x1, .inr (.inl 0)] σ Q = CA m111 [.inr (.inl 0), .inl x1] σ (fun v σ2 => WP m94 36 [.inr (.inl l0), .inl l1, .inl l2, .inl l3, l4, l5] (v ++ []) σ2 Q) := (w_cV (k := 111) d94_33 (by decide +kernel) m111_at rfl rfl ⟨Nat.le_of_ble_eq_true rfl, Nat.le_of_ble_eq_true rfl, Nat.le_of_ble_eq_true rfl⟩ (by decide)).trans (g_and (isO_dec (by decide +kernel)))
theorem d94_36 : adec m94 36 = some (.ifCond .ne (11), 3) := by decide +kernel
theorem s94_36 {l0 : Nat} {l1 : Int} {l2 : Int} {l3 : Int} {l4 : AV} {l5 : AV} {x0 : Int} : WP m94 36 [.inr (.inl l0), .inl l1, .inl l2, .inl l3, l4, l5] [.inl x0] σ Q = (if x0 = 0 then WP m94 39 [.inr (.inl l0), .inl l1, .inl l2, .inl l3, l4, l5] [] σ Q else WP m94 47 [.inr (.inl l0), .inl l1, .inl l2, .inl l3, l4, l5] [] σ Q) := w_ifne d94_36 (by decide)
theorem d94_39 : adec m94 39 = some (.aload_n 0, 1) := by decide +kernel
theorem s94_39 {l0 : Nat} {l1 : Int} {l2 : Int} {l3 : Int} {l4 : AV} {l5 : AV} : WP m94 39 [.inr (.inl l0), .inl l1, .inl l2, .inl l3, l4, l5] [] σ Q = WP m94 40 [.inr (.inl l0), .inl l1, .inl l2, .inl l3, l4, l5] [.inr (.inl l0)] σ Q := w_ld d94_39 rfl
theorem d94_40 : adec m94 40 = some (.iload_n 1, 1) := by decide +kernel
theorem s94_40 {l0 : Nat} {l1 : Int} {l2 : Int} {l3 : Int} {l4 : AV} {l5 : AV} {x0 : Nat} : WP m94 40 [.inr (.inl l0), .inl l1, .inl l2, .inl l3, l4, l5] [.inr (.inl x0)] σ Q = WP m94 41 [.inr (.inl l0), .inl l1, .inl l2, .inl l3, l4, l5] [.inl l1, .inr (.inl x0)] σ Q := w_ld d94_40 rfl
theorem d94_41 : adec m94 41 = some (.invokevirtual 136, 3) := by decide +kernel
theorem s94_41 {l0 : Nat} {l1 : Int} {l2 : Int} {l3 : Int} {l4 : AV} {l5 : AV} {x1 : Int} : WP m94 41 [.inr (.inl l0), .inl l1, .inl l2, .inl l3, l4, l5] [.inl x1, .inr (.inl 0)] σ Q = CA m112 [.inr (.inl 0), .inl x1] σ (fun v σ2 => WP m94 44 [.inr (.inl l0), .inl l1, .inl l2, .inl l3, l4, l5] (v ++ []) σ2 Q) := (w_cV (k := 112) d94_41 (by decide +kernel) m112_at rfl rfl ⟨Nat.le_of_ble_eq_true rfl, Nat.le_of_ble_eq_true rfl, Nat.le_of_ble_eq_true rfl⟩ (by decide)).trans (g_and (isO_dec (by decide +kernel)))
theorem d94_44 : adec m94 44 = some (.ifCond .eq (6), 3) := by decide +kernel
theorem s94_44 {l0 : Nat} {l1 : Int} {l2 : Int} {l3 : Int} {l4 : AV} {l5 : AV} {x0 : Int} : WP m94 44 [.inr (.inl l0), .inl l1, .inl l2, .inl l3, l4, l5] [.inl x0] σ Q = (if x0 = 0 then WP m94 50 [.inr (.inl l0), .inl l1, .inl l2, .inl l3, l4, l5] [] σ Q else WP m94 47 [.inr (.inl l0), .inl l1, .inl l2, .inl l3, l4, l5] [] σ Q) := w_ifeq d94_44 (by decide)
theorem d94_47 : adec m94 47 = some (.ldc 120, 2) := by decide +kernel
theorem s94_47 {l0 : Nat} {l1 : Int} {l2 : Int} {l3 : Int} {l4 : AV} {l5 : AV} : WP m94 47 [.inr (.inl l0), .inl l1, .inl l2, .inl l3, l4, l5] [] σ Q = WP m94 49 [.inr (.inl l0), .inl l1, .inl l2, .inl l3, l4, l5] [.inl (-1000000003)] σ Q := w_ldc d94_47 (by decide +kernel) (by decide)
theorem d94_49 : adec m94 49 = some (.ireturn, 1) := by decide +kernel
theorem s94_49 {l0 : Nat} {l1 : Int} {l2 : Int} {l3 : Int} {l4 : AV} {l5 : AV} {x0 : Int} : WP m94 49 [.inr (.inl l0), .inl l1, .inl l2, .inl l3, l4, l5] [.inl x0] σ Q = Q [.inl x0] σ := w_ri d94_49 rfl
theorem d94_50 : adec m94 50 = some (.aload_n 0, 1) := by decide +kernel
theorem s94_50 {l0 : Nat} {l1 : Int} {l2 : Int} {l3 : Int} {l4 : AV} {l5 : AV} : WP m94 50 [.inr (.inl l0), .inl l1, .inl l2, .inl l3, l4, l5] [] σ Q = WP m94 51 [.inr (.inl l0), .inl l1, .inl l2, .inl l3, l4, l5] [.inr (.inl l0)] σ Q := w_ld d94_50 rfl
theorem d94_51 : adec m94 51 = some (.getfield 67, 3) := by decide +kernel
theorem s94_51 {l0 : Nat} {l1 : Int} {l2 : Int} {l3 : Int} {l4 : AV} {l5 : AV} : WP m94 51 [.inr (.inl l0), .inl l1, .inl l2, .inl l3, l4, l5] [.inr (.inl 0)] σ Q = WP m94 54 [.inr (.inl l0), .inl l1, .inl l2, .inl l3, l4, l5] [.inr (.inl 77)] σ Q := (w_getR (c := 9) (n := 9) d94_51 (by decide +kernel) (by decide +kernel)).trans (g_and ⟨isO_dec (by decide +kernel), by decide +kernel⟩)
theorem d94_54 : adec m94 54 = some (.aload_n 0, 1) := by decide +kernel
theorem s94_54 {l0 : Nat} {l1 : Int} {l2 : Int} {l3 : Int} {l4 : AV} {l5 : AV} {x0 : Nat} : WP m94 54 [.inr (.inl l0), .inl l1, .inl l2, .inl l3, l4, l5] [.inr (.inl x0)] σ Q = WP m94 55 [.inr (.inl l0), .inl l1, .inl l2, .inl l3, l4, l5] [.inr (.inl l0), .inr (.inl x0)] σ Q := w_ld d94_54 rfl
theorem d94_55 : adec m94 55 = some (.getfield 22, 3) := by decide +kernel
theorem s94_55 {l0 : Nat} {l1 : Int} {l2 : Int} {l3 : Int} {l4 : AV} {l5 : AV} {x0 : Nat} : WP m94 55 [.inr (.inl l0), .inl l1, .inl l2, .inl l3, l4, l5] [.inr (.inl 0), .inr (.inl x0)] σ Q = WP m94 58 [.inr (.inl l0), .inl l1, .inl l2, .inl l3, l4, l5] [.inr (.inl 3), .inr (.inl x0)] σ Q := (w_getR (c := 9) (n := 1) d94_55 (by decide +kernel) (by decide +kernel)).trans (g_and ⟨isO_dec (by decide +kernel), by decide +kernel⟩)
theorem d94_58 : adec m94 58 = some (.iload_n 1, 1) := by decide +kernel
theorem s94_58 {l0 : Nat} {l1 : Int} {l2 : Int} {l3 : Int} {l4 : AV} {l5 : AV} {x0 : Nat} {x1 : Nat} : WP m94 58 [.inr (.inl l0), .inl l1, .inl l2, .inl l3, l4, l5] [.inr (.inl x1), .inr (.inl x0)] σ Q = WP m94 59 [.inr (.inl l0), .inl l1, .inl l2, .inl l3, l4, l5] [.inl l1, .inr (.inl x1), .inr (.inl x0)] σ Q := w_ld d94_58 rfl
theorem d94_59 : adec m94 59 = some (.aaload, 1) := by decide +kernel
theorem s94_59 {l0 : Nat} {l1 : Int} {l2 : Int} {l3 : Int} {l4 : AV} {l5 : AV} {x0 : Nat} {x1 : Nat} {x2 : Int} (h31 : x1 ≠ 31) : WP m94 59 [.inr (.inl l0), .inl l1, .inl l2, .inl l3, l4, l5] [.inl x2, .inr (.inl x1), .inr (.inl x0)] σ Q = ((kdS x1 = 22 ∧ 0 ≤ x2 ∧ x2 < ln x1 ∧ 0 ≤ PT x1 x2.toNat) ∧ WP m94 60 [.inr (.inl l0), .inl l1, .inl l2, .inl l3, l4, l5] [.inr (.inl (pt x1 x2.toNat)), .inr (.inl x0)] σ Q) := w_aald d94_59 h31
theorem d94_60 : adec m94 60 = some (.iload_n 2, 1) := by decide +kernel
theorem s94_60 {l0 : Nat} {l1 : Int} {l2 : Int} {l3 : Int} {l4 : AV} {l5 : AV} {x0 : Nat} {x1 : Nat} : WP m94 60 [.inr (.inl l0), .inl l1, .inl l2, .inl l3, l4, l5] [.inr (.inl x1), .inr (.inl x0)] σ Q = WP m94 61 [.inr (.inl l0), .inl l1, .inl l2, .inl l3, l4, l5] [.inl l2, .inr (.inl x1), .inr (.inl x0)] σ Q := w_ld d94_60 rfl
theorem d94_61 : adec m94 61 = some (.iconst (1), 1) := by decide +kernel
theorem s94_61 {l0 : Nat} {l1 : Int} {l2 : Int} {l3 : Int} {l4 : AV} {l5 : AV} {x0 : Nat} {x1 : Nat} {x2 : Int} : WP m94 61 [.inr (.inl l0), .inl l1, .inl l2, .inl l3, l4, l5] [.inl x2, .inr (.inl x1), .inr (.inl x0)] σ Q = WP m94 62 [.inr (.inl l0), .inl l1, .inl l2, .inl l3, l4, l5] [.inl (1), .inl x2, .inr (.inl x1), .inr (.inl x0)] σ Q := w_iconst d94_61 (by decide)
theorem d94_62 : adec m94 62 = some (.if_icmp .ne (7), 3) := by decide +kernel
theorem s94_62 {l0 : Nat} {l1 : Int} {l2 : Int} {l3 : Int} {l4 : AV} {l5 : AV} {x0 : Nat} {x1 : Nat} {x2 : Int} {x3 : Int} : WP m94 62 [.inr (.inl l0), .inl l1, .inl l2, .inl l3, l4, l5] [.inl x3, .inl x2, .inr (.inl x1), .inr (.inl x0)] σ Q = (if x2 = x3 then WP m94 65 [.inr (.inl l0), .inl l1, .inl l2, .inl l3, l4, l5] [.inr (.inl x1), .inr (.inl x0)] σ Q else WP m94 69 [.inr (.inl l0), .inl l1, .inl l2, .inl l3, l4, l5] [.inr (.inl x1), .inr (.inl x0)] σ Q) := w_icne d94_62 (by decide)
theorem d94_65 : adec m94 65 = some (.iconst (1), 1) := by decide +kernel
theorem s94_65 {l0 : Nat} {l1 : Int} {l2 : Int} {l3 : Int} {l4 : AV} {l5 : AV} {x0 : Nat} {x1 : Nat} : WP m94 65 [.inr (.inl l0), .inl l1, .inl l2, .inl l3, l4, l5] [.inr (.inl x1), .inr (.inl x0)] σ Q = WP m94 66 [.inr (.inl l0), .inl l1, .inl l2, .inl l3, l4, l5] [.inl (1), .inr (.inl x1), .inr (.inl x0)] σ Q := w_iconst d94_65 (by decide)
theorem d94_66 : adec m94 66 = some (.goto (4), 3) := by decide +kernel
theorem s94_66 {l0 : Nat} {l1 : Int} {l2 : Int} {l3 : Int} {l4 : AV} {l5 : AV} {x0 : Nat} {x1 : Nat} {x2 : Int} : WP m94 66 [.inr (.inl l0), .inl l1, .inl l2, .inl l3, l4, l5] [.inl x2, .inr (.inl x1), .inr (.inl x0)] σ Q = WP m94 70 [.inr (.inl l0), .inl l1, .inl l2, .inl l3, l4, l5] [.inl x2, .inr (.inl x1), .inr (.inl x0)] σ Q := w_goto d94_66 (by decide)
theorem d94_69 : adec m94 69 = some (.iconst (0), 1) := by decide +kernel
theorem s94_69 {l0 : Nat} {l1 : Int} {l2 : Int} {l3 : Int} {l4 : AV} {l5 : AV} {x0 : Nat} {x1 : Nat} : WP m94 69 [.inr (.inl l0), .inl l1, .inl l2, .inl l3, l4, l5] [.inr (.inl x1), .inr (.inl x0)] σ Q = WP m94 70 [.inr (.inl l0), .inl l1, .inl l2, .inl l3, l4, l5] [.inl (0), .inr (.inl x1), .inr (.inl x0)] σ Q := w_iconst d94_69 (by decide)
theorem d94_70 : adec m94 70 = some (.iload_n 3, 1) := by decide +kernel
theorem s94_70 {l0 : Nat} {l1 : Int} {l2 : Int} {l3 : Int} {l4 : AV} {l5 : AV} {x0 : Nat} {x1 : Nat} {x2 : Int} : WP m94 70 [.inr (.inl l0), .inl l1, .inl l2, .inl l3, l4, l5] [.inl x2, .inr (.inl x1), .inr (.inl x0)] σ Q = WP m94 71 [.inr (.inl l0), .inl l1, .inl l2, .inl l3, l4, l5] [.inl l3, .inl x2, .inr (.inl x1), .inr (.inl x0)] σ Q := w_ld d94_70 rfl
theorem d94_71 : adec m94 71 = some (.invokevirtual 146, 3) := by decide +kernel
theorem s94_71 {l0 : Nat} {l1 : Int} {l2 : Int} {l3 : Int} {l4 : AV} {l5 : AV} {x1 : Nat} {x2 : Int} {x3 : Int} : WP m94 71 [.inr (.inl l0), .inl l1, .inl l2, .inl l3, l4, l5] [.inl x3, .inl x2, .inr (.inl x1), .inr (.inl 77)] σ Q = CA m1 [.inr (.inl 77), .inr (.inl x1), .inl x2, .inl x3] σ (fun v σ2 => WP m94 74 [.inr (.inl l0), .inl l1, .inl l2, .inl l3, l4, l5] (v ++ []) σ2 Q) := (w_cV (k := 1) d94_71 (by decide +kernel) m1_at rfl rfl ⟨Nat.le_of_ble_eq_true rfl, Nat.le_of_ble_eq_true rfl, Nat.le_of_ble_eq_true rfl⟩ (by decide)).trans (g_and (isO_dec (by decide +kernel)))
theorem d94_74 : adec m94 74 = some (.istore 4, 2) := by decide +kernel
theorem s94_74 {l0 : Nat} {l1 : Int} {l2 : Int} {l3 : Int} {l4 : AV} {l5 : AV} {x0 : Int} : WP m94 74 [.inr (.inl l0), .inl l1, .inl l2, .inl l3, l4, l5] [.inl x0] σ Q = WP m94 76 [.inr (.inl l0), .inl l1, .inl l2, .inl l3, .inl x0, l5] [] σ Q := w_st1 (j := 4) d94_74 rfl (Nat.le_of_ble_eq_true rfl) rfl
theorem d94_76 : adec m94 76 = some (.aload_n 0, 1) := by decide +kernel
theorem s94_76 {l0 : Nat} {l1 : Int} {l2 : Int} {l3 : Int} {l4 : Int} {l5 : AV} : WP m94 76 [.inr (.inl l0), .inl l1, .inl l2, .inl l3, .inl l4, l5] [] σ Q = WP m94 77 [.inr (.inl l0), .inl l1, .inl l2, .inl l3, .inl l4, l5] [.inr (.inl l0)] σ Q := w_ld d94_76 rfl
theorem d94_77 : adec m94 77 = some (.getfield 40, 3) := by decide +kernel
theorem s94_77 {l0 : Nat} {l1 : Int} {l2 : Int} {l3 : Int} {l4 : Int} {l5 : AV} : WP m94 77 [.inr (.inl l0), .inl l1, .inl l2, .inl l3, .inl l4, l5] [.inr (.inl 0)] σ Q = WP m94 80 [.inr (.inl l0), .inl l1, .inl l2, .inl l3, .inl l4, l5] [.inr (.inl 53)] σ Q := (w_getR (c := 9) (n := 5) d94_77 (by decide +kernel) (by decide +kernel)).trans (g_and ⟨isO_dec (by decide +kernel), by decide +kernel⟩)
theorem d94_80 : adec m94 80 = some (.aload_n 0, 1) := by decide +kernel
theorem s94_80 {l0 : Nat} {l1 : Int} {l2 : Int} {l3 : Int} {l4 : Int} {l5 : AV} {x0 : Nat} : WP m94 80 [.inr (.inl l0), .inl l1, .inl l2, .inl l3, .inl l4, l5] [.inr (.inl x0)] σ Q = WP m94 81 [.inr (.inl l0), .inl l1, .inl l2, .inl l3, .inl l4, l5] [.inr (.inl l0), .inr (.inl x0)] σ Q := w_ld d94_80 rfl
theorem d94_81 : adec m94 81 = some (.getfield 67, 3) := by decide +kernel
theorem s94_81 {l0 : Nat} {l1 : Int} {l2 : Int} {l3 : Int} {l4 : Int} {l5 : AV} {x0 : Nat} : WP m94 81 [.inr (.inl l0), .inl l1, .inl l2, .inl l3, .inl l4, l5] [.inr (.inl 0), .inr (.inl x0)] σ Q = WP m94 84 [.inr (.inl l0), .inl l1, .inl l2, .inl l3, .inl l4, l5] [.inr (.inl 77), .inr (.inl x0)] σ Q := (w_getR (c := 9) (n := 9) d94_81 (by decide +kernel) (by decide +kernel)).trans (g_and ⟨isO_dec (by decide +kernel), by decide +kernel⟩)
theorem d94_84 : adec m94 84 = some (.invokevirtual 150, 3) := by decide +kernel
theorem s94_84 {l0 : Nat} {l1 : Int} {l2 : Int} {l3 : Int} {l4 : Int} {l5 : AV} {x0 : Nat} : WP m94 84 [.inr (.inl l0), .inl l1, .inl l2, .inl l3, .inl l4, l5] [.inr (.inl 77), .inr (.inl x0)] σ Q = CA m2 [.inr (.inl 77)] σ (fun v σ2 => WP m94 87 [.inr (.inl l0), .inl l1, .inl l2, .inl l3, .inl l4, l5] (v ++ [.inr (.inl x0)]) σ2 Q) := (w_cV (k := 2) d94_84 (by decide +kernel) m2_at rfl rfl ⟨Nat.le_of_ble_eq_true rfl, Nat.le_of_ble_eq_true rfl, Nat.le_of_ble_eq_true rfl⟩ (by decide)).trans (g_and (isO_dec (by decide +kernel)))
theorem d94_87 : adec m94 87 = some (.invokevirtual 154, 3) := by decide +kernel
theorem s94_87 {l0 : Nat} {l1 : Int} {l2 : Int} {l3 : Int} {l4 : Int} {l5 : AV} {x0 : Nat} {x1 : Nat} : WP m94 87 [.inr (.inl l0), .inl l1, .inl l2, .inl l3, .inl l4, l5] [.inr (.inl x1), .inr (.inl x0)] σ Q = (isO x0 3 ∧ CA m40 [.inr (.inl x0), .inr (.inl x1)] σ (fun v σ2 => WP m94 90 [.inr (.inl l0), .inl l1, .inl l2, .inl l3, .inl l4, l5] (v ++ []) σ2 Q)) := w_cV (k := 40) d94_87 (by decide +kernel) m40_at rfl rfl ⟨Nat.le_of_ble_eq_true rfl, Nat.le_of_ble_eq_true rfl, Nat.le_of_ble_eq_true rfl⟩ (by decide)
theorem d94_90 : adec m94 90 = some (.aload_n 0, 1) := by decide +kernel
theorem s94_90 {l0 : Nat} {l1 : Int} {l2 : Int} {l3 : Int} {l4 : Int} {l5 : AV} : WP m94 90 [.inr (.inl l0), .inl l1, .inl l2, .inl l3, .inl l4, l5] [] σ Q = WP m94 91 [.inr (.inl l0), .inl l1, .inl l2, .inl l3, .inl l4, l5] [.inr (.inl l0)] σ Q := w_ld d94_90 rfl
theorem d94_91 : adec m94 91 = some (.iload_n 1, 1) := by decide +kernel
theorem s94_91 {l0 : Nat} {l1 : Int} {l2 : Int} {l3 : Int} {l4 : Int} {l5 : AV} {x0 : Nat} : WP m94 91 [.inr (.inl l0), .inl l1, .inl l2, .inl l3, .inl l4, l5] [.inr (.inl x0)] σ Q = WP m94 92 [.inr (.inl l0), .inl l1, .inl l2, .inl l3, .inl l4, l5] [.inl l1, .inr (.inl x0)] σ Q := w_ld d94_91 rfl
theorem d94_92 : adec m94 92 = some (.invokevirtual 113, 3) := by decide +kernel
theorem s94_92 {l0 : Nat} {l1 : Int} {l2 : Int} {l3 : Int} {l4 : Int} {l5 : AV} {x1 : Int} : WP m94 92 [.inr (.inl l0), .inl l1, .inl l2, .inl l3, .inl l4, l5] [.inl x1, .inr (.inl 0)] σ Q = CA m107 [.inr (.inl 0), .inl x1] σ (fun v σ2 => WP m94 95 [.inr (.inl l0), .inl l1, .inl l2, .inl l3, .inl l4, l5] (v ++ []) σ2 Q) := (w_cV (k := 107) d94_92 (by decide +kernel) m107_at rfl rfl ⟨Nat.le_of_ble_eq_true rfl, Nat.le_of_ble_eq_true rfl, Nat.le_of_ble_eq_true rfl⟩ (by decide)).trans (g_and (isO_dec (by decide +kernel)))
theorem d94_95 : adec m94 95 = some (.istore 5, 2) := by decide +kernel
theorem s94_95 {l0 : Nat} {l1 : Int} {l2 : Int} {l3 : Int} {l4 : Int} {l5 : AV} {x0 : Int} : WP m94 95 [.inr (.inl l0), .inl l1, .inl l2, .inl l3, .inl l4, l5] [.inl x0] σ Q = WP m94 97 [.inr (.inl l0), .inl l1, .inl l2, .inl l3, .inl l4, .inl x0] [] σ Q := w_st1 (j := 5) d94_95 rfl (Nat.le_of_ble_eq_true rfl) rfl
theorem d94_97 : adec m94 97 = some (.iload 5, 2) := by decide +kernel
theorem s94_97 {l0 : Nat} {l1 : Int} {l2 : Int} {l3 : Int} {l4 : Int} {l5 : Int} : WP m94 97 [.inr (.inl l0), .inl l1, .inl l2, .inl l3, .inl l4, .inl l5] [] σ Q = WP m94 99 [.inr (.inl l0), .inl l1, .inl l2, .inl l3, .inl l4, .inl l5] [.inl l5] σ Q := w_ld d94_97 rfl
theorem d94_99 : adec m94 99 = some (.ldc 94, 2) := by decide +kernel
theorem s94_99 {l0 : Nat} {l1 : Int} {l2 : Int} {l3 : Int} {l4 : Int} {l5 : Int} {x0 : Int} : WP m94 99 [.inr (.inl l0), .inl l1, .inl l2, .inl l3, .inl l4, .inl l5] [.inl x0] σ Q = WP m94 101 [.inr (.inl l0), .inl l1, .inl l2, .inl l3, .inl l4, .inl l5] [.inl (-1000000004), .inl x0] σ Q := w_ldc d94_99 (by decide +kernel) (by decide)
theorem d94_101 : adec m94 101 = some (.if_icmp .ne (8), 3) := by decide +kernel
theorem s94_101 {l0 : Nat} {l1 : Int} {l2 : Int} {l3 : Int} {l4 : Int} {l5 : Int} {x0 : Int} {x1 : Int} : WP m94 101 [.inr (.inl l0), .inl l1, .inl l2, .inl l3, .inl l4, .inl l5] [.inl x1, .inl x0] σ Q = (if x0 = x1 then WP m94 104 [.inr (.inl l0), .inl l1, .inl l2, .inl l3, .inl l4, .inl l5] [] σ Q else WP m94 109 [.inr (.inl l0), .inl l1, .inl l2, .inl l3, .inl l4, .inl l5] [] σ Q) := w_icne d94_101 (by decide)
theorem d94_104 : adec m94 104 = some (.ldc 94, 2) := by decide +kernel
theorem s94_104 {l0 : Nat} {l1 : Int} {l2 : Int} {l3 : Int} {l4 : Int} {l5 : Int} : WP m94 104 [.inr (.inl l0), .inl l1, .inl l2, .inl l3, .inl l4, .inl l5] [] σ Q = WP m94 106 [.inr (.inl l0), .inl l1, .inl l2, .inl l3, .inl l4, .inl l5] [.inl (-1000000004)] σ Q := w_ldc d94_104 (by decide +kernel) (by decide)
theorem d94_106 : adec m94 106 = some (.goto (5), 3) := by decide +kernel
theorem s94_106 {l0 : Nat} {l1 : Int} {l2 : Int} {l3 : Int} {l4 : Int} {l5 : Int} {x0 : Int} : WP m94 106 [.inr (.inl l0), .inl l1, .inl l2, .inl l3, .inl l4, .inl l5] [.inl x0] σ Q = WP m94 111 [.inr (.inl l0), .inl l1, .inl l2, .inl l3, .inl l4, .inl l5] [.inl x0] σ Q := w_goto d94_106 (by decide)
theorem d94_109 : adec m94 109 = some (.iload 4, 2) := by decide +kernel
theorem s94_109 {l0 : Nat} {l1 : Int} {l2 : Int} {l3 : Int} {l4 : Int} {l5 : Int} : WP m94 109 [.inr (.inl l0), .inl l1, .inl l2, .inl l3, .inl l4, .inl l5] [] σ Q = WP m94 111 [.inr (.inl l0), .inl l1, .inl l2, .inl l3, .inl l4, .inl l5] [.inl l4] σ Q := w_ld d94_109 rfl
theorem d94_111 : adec m94 111 = some (.ireturn, 1) := by decide +kernel
theorem s94_111 {l0 : Nat} {l1 : Int} {l2 : Int} {l3 : Int} {l4 : Int} {l5 : Int} {x0 : Int} : WP m94 111 [.inr (.inl l0), .inl l1, .inl l2, .inl l3, .inl l4, .inl l5] [.inl x0] σ Q = Q [.inl x0] σ := w_ri d94_111 rfl
theorem e94 {p0 : Nat} {p1 : Int} {p2 : Int} {p3 : Int} : CA m94 [.inr (.inl p0), .inl p1, .inl p2, .inl p3] σ Q = WP m94 0 [.inr (.inl p0), .inl p1, .inl p2, .inl p3, vU, vU] [] σ Q := rfl
-- BinderPress.drop(I)I
theorem d95_0 : adec m95 0 = some (.iload_n 1, 1) := by decide +kernel
theorem s95_0 {l0 : Nat} {l1 : Int} {l2 : AV} : WP m95 0 [.inr (.inl l0), .inl l1, l2] [] σ Q = WP m95 1 [.inr (.inl l0), .inl l1, l2] [.inl l1] σ Q := w_ld d95_0 rfl
theorem d95_1 : adec m95 1 = some (.invokestatic 98, 3) := by decide +kernel
theorem s95_1 {l0 : Nat} {l1 : Int} {l2 : AV} {x0 : Int} : WP m95 1 [.inr (.inl l0), .inl l1, l2] [.inl x0] σ Q = CA m113 [.inl x0] σ (fun v σ2 => WP m95 4 [.inr (.inl l0), .inl l1, l2] (v ++ []) σ2 Q) := w_cS (k := 113) d95_1 (by decide +kernel) (md := 1) (by decide +kernel) m113_at rfl rfl ⟨Nat.le_of_ble_eq_true rfl, Nat.le_of_ble_eq_true rfl, Nat.le_of_ble_eq_true rfl⟩ (by decide)
theorem d95_4 : adec m95 4 = some (.ifCond .ne (6), 3) := by decide +kernel
theorem s95_4 {l0 : Nat} {l1 : Int} {l2 : AV} {x0 : Int} : WP m95 4 [.inr (.inl l0), .inl l1, l2] [.inl x0] σ Q = (if x0 = 0 then WP m95 7 [.inr (.inl l0), .inl l1, l2] [] σ Q else WP m95 10 [.inr (.inl l0), .inl l1, l2] [] σ Q) := w_ifne d95_4 (by decide)
theorem d95_7 : adec m95 7 = some (.ldc 102, 2) := by decide +kernel
theorem s95_7 {l0 : Nat} {l1 : Int} {l2 : AV} : WP m95 7 [.inr (.inl l0), .inl l1, l2] [] σ Q = WP m95 9 [.inr (.inl l0), .inl l1, l2] [.inl (-1000000001)] σ Q := w_ldc d95_7 (by decide +kernel) (by decide)
theorem d95_9 : adec m95 9 = some (.ireturn, 1) := by decide +kernel
theorem s95_9 {l0 : Nat} {l1 : Int} {l2 : AV} {x0 : Int} : WP m95 9 [.inr (.inl l0), .inl l1, l2] [.inl x0] σ Q = Q [.inl x0] σ := w_ri d95_9 rfl
theorem d95_10 : adec m95 10 = some (.aload_n 0, 1) := by decide +kernel
theorem s95_10 {l0 : Nat} {l1 : Int} {l2 : AV} : WP m95 10 [.inr (.inl l0), .inl l1, l2] [] σ Q = WP m95 11 [.inr (.inl l0), .inl l1, l2] [.inr (.inl l0)] σ Q := w_ld d95_10 rfl
theorem d95_11 : adec m95 11 = some (.iload_n 1, 1) := by decide +kernel
theorem s95_11 {l0 : Nat} {l1 : Int} {l2 : AV} {x0 : Nat} : WP m95 11 [.inr (.inl l0), .inl l1, l2] [.inr (.inl x0)] σ Q = WP m95 12 [.inr (.inl l0), .inl l1, l2] [.inl l1, .inr (.inl x0)] σ Q := w_ld d95_11 rfl
theorem d95_12 : adec m95 12 = some (.invokevirtual 117, 3) := by decide +kernel
theorem s95_12 {l0 : Nat} {l1 : Int} {l2 : AV} {x1 : Int} : WP m95 12 [.inr (.inl l0), .inl l1, l2] [.inl x1, .inr (.inl 0)] σ Q = CA m111 [.inr (.inl 0), .inl x1] σ (fun v σ2 => WP m95 15 [.inr (.inl l0), .inl l1, l2] (v ++ []) σ2 Q) := (w_cV (k := 111) d95_12 (by decide +kernel) m111_at rfl rfl ⟨Nat.le_of_ble_eq_true rfl, Nat.le_of_ble_eq_true rfl, Nat.le_of_ble_eq_true rfl⟩ (by decide)).trans (g_and (isO_dec (by decide +kernel)))
theorem d95_15 : adec m95 15 = some (.ifCond .eq (6), 3) := by decide +kernel
theorem s95_15 {l0 : Nat} {l1 : Int} {l2 : AV} {x0 : Int} : WP m95 15 [.inr (.inl l0), .inl l1, l2] [.inl x0] σ Q = (if x0 = 0 then WP m95 21 [.inr (.inl l0), .inl l1, l2] [] σ Q else WP m95 18 [.inr (.inl l0), .inl l1, l2] [] σ Q) := w_ifeq d95_15 (by decide)
theorem d95_18 : adec m95 18 = some (.ldc 120, 2) := by decide +kernel
theorem s95_18 {l0 : Nat} {l1 : Int} {l2 : AV} : WP m95 18 [.inr (.inl l0), .inl l1, l2] [] σ Q = WP m95 20 [.inr (.inl l0), .inl l1, l2] [.inl (-1000000003)] σ Q := w_ldc d95_18 (by decide +kernel) (by decide)
theorem d95_20 : adec m95 20 = some (.ireturn, 1) := by decide +kernel
theorem s95_20 {l0 : Nat} {l1 : Int} {l2 : AV} {x0 : Int} : WP m95 20 [.inr (.inl l0), .inl l1, l2] [.inl x0] σ Q = Q [.inl x0] σ := w_ri d95_20 rfl
theorem d95_21 : adec m95 21 = some (.aload_n 0, 1) := by decide +kernel
theorem s95_21 {l0 : Nat} {l1 : Int} {l2 : AV} : WP m95 21 [.inr (.inl l0), .inl l1, l2] [] σ Q = WP m95 22 [.inr (.inl l0), .inl l1, l2] [.inr (.inl l0)] σ Q := w_ld d95_21 rfl
theorem d95_22 : adec m95 22 = some (.getfield 22, 3) := by decide +kernel
theorem s95_22 {l0 : Nat} {l1 : Int} {l2 : AV} : WP m95 22 [.inr (.inl l0), .inl l1, l2] [.inr (.inl 0)] σ Q = WP m95 25 [.inr (.inl l0), .inl l1, l2] [.inr (.inl 3)] σ Q := (w_getR (c := 9) (n := 1) d95_22 (by decide +kernel) (by decide +kernel)).trans (g_and ⟨isO_dec (by decide +kernel), by decide +kernel⟩)
theorem d95_25 : adec m95 25 = some (.iload_n 1, 1) := by decide +kernel
theorem s95_25 {l0 : Nat} {l1 : Int} {l2 : AV} {x0 : Nat} : WP m95 25 [.inr (.inl l0), .inl l1, l2] [.inr (.inl x0)] σ Q = WP m95 26 [.inr (.inl l0), .inl l1, l2] [.inl l1, .inr (.inl x0)] σ Q := w_ld d95_25 rfl
theorem d95_26 : adec m95 26 = some (.aaload, 1) := by decide +kernel
theorem s95_26 {l0 : Nat} {l1 : Int} {l2 : AV} {x0 : Nat} {x1 : Int} (h31 : x0 ≠ 31) : WP m95 26 [.inr (.inl l0), .inl l1, l2] [.inl x1, .inr (.inl x0)] σ Q = ((kdS x0 = 22 ∧ 0 ≤ x1 ∧ x1 < ln x0 ∧ 0 ≤ PT x0 x1.toNat) ∧ WP m95 27 [.inr (.inl l0), .inl l1, l2] [.inr (.inl (pt x0 x1.toNat))] σ Q) := w_aald d95_26 h31
theorem d95_27 : adec m95 27 = some (.invokevirtual 90, 3) := by decide +kernel
theorem s95_27 {l0 : Nat} {l1 : Int} {l2 : AV} {x0 : Nat} : WP m95 27 [.inr (.inl l0), .inl l1, l2] [.inr (.inl x0)] σ Q = (isO x0 3 ∧ CA m28 [.inr (.inl x0)] σ (fun v σ2 => WP m95 30 [.inr (.inl l0), .inl l1, l2] (v ++ []) σ2 Q)) := w_cV (k := 28) d95_27 (by decide +kernel) m28_at rfl rfl ⟨Nat.le_of_ble_eq_true rfl, Nat.le_of_ble_eq_true rfl, Nat.le_of_ble_eq_true rfl⟩ (by decide)
theorem d95_30 : adec m95 30 = some (.istore_n 2, 1) := by decide +kernel
theorem s95_30 {l0 : Nat} {l1 : Int} {l2 : AV} {x0 : Int} : WP m95 30 [.inr (.inl l0), .inl l1, l2] [.inl x0] σ Q = WP m95 31 [.inr (.inl l0), .inl l1, .inl x0] [] σ Q := w_st1 (j := 2) d95_30 rfl (Nat.le_of_ble_eq_true rfl) rfl
theorem d95_31 : adec m95 31 = some (.aload_n 0, 1) := by decide +kernel
theorem s95_31 {l0 : Nat} {l1 : Int} {l2 : Int} : WP m95 31 [.inr (.inl l0), .inl l1, .inl l2] [] σ Q = WP m95 32 [.inr (.inl l0), .inl l1, .inl l2] [.inr (.inl l0)] σ Q := w_ld d95_31 rfl
theorem d95_32 : adec m95 32 = some (.getfield 40, 3) := by decide +kernel
theorem s95_32 {l0 : Nat} {l1 : Int} {l2 : Int} : WP m95 32 [.inr (.inl l0), .inl l1, .inl l2] [.inr (.inl 0)] σ Q = WP m95 35 [.inr (.inl l0), .inl l1, .inl l2] [.inr (.inl 53)] σ Q := (w_getR (c := 9) (n := 5) d95_32 (by decide +kernel) (by decide +kernel)).trans (g_and ⟨isO_dec (by decide +kernel), by decide +kernel⟩)
theorem d95_35 : adec m95 35 = some (.invokevirtual 107, 3) := by decide +kernel
theorem s95_35 {l0 : Nat} {l1 : Int} {l2 : Int} {x0 : Nat} : WP m95 35 [.inr (.inl l0), .inl l1, .inl l2] [.inr (.inl x0)] σ Q = (isO x0 3 ∧ CA m29 [.inr (.inl x0)] σ (fun v σ2 => WP m95 38 [.inr (.inl l0), .inl l1, .inl l2] (v ++ []) σ2 Q)) := w_cV (k := 29) d95_35 (by decide +kernel) m29_at rfl rfl ⟨Nat.le_of_ble_eq_true rfl, Nat.le_of_ble_eq_true rfl, Nat.le_of_ble_eq_true rfl⟩ (by decide)
theorem d95_38 : adec m95 38 = some (.aload_n 0, 1) := by decide +kernel
theorem s95_38 {l0 : Nat} {l1 : Int} {l2 : Int} : WP m95 38 [.inr (.inl l0), .inl l1, .inl l2] [] σ Q = WP m95 39 [.inr (.inl l0), .inl l1, .inl l2] [.inr (.inl l0)] σ Q := w_ld d95_38 rfl
theorem d95_39 : adec m95 39 = some (.iload_n 1, 1) := by decide +kernel
theorem s95_39 {l0 : Nat} {l1 : Int} {l2 : Int} {x0 : Nat} : WP m95 39 [.inr (.inl l0), .inl l1, .inl l2] [.inr (.inl x0)] σ Q = WP m95 40 [.inr (.inl l0), .inl l1, .inl l2] [.inl l1, .inr (.inl x0)] σ Q := w_ld d95_39 rfl
theorem d95_40 : adec m95 40 = some (.invokevirtual 113, 3) := by decide +kernel
theorem s95_40 {l0 : Nat} {l1 : Int} {l2 : Int} {x1 : Int} : WP m95 40 [.inr (.inl l0), .inl l1, .inl l2] [.inl x1, .inr (.inl 0)] σ Q = CA m107 [.inr (.inl 0), .inl x1] σ (fun v σ2 => WP m95 43 [.inr (.inl l0), .inl l1, .inl l2] (v ++ []) σ2 Q) := (w_cV (k := 107) d95_40 (by decide +kernel) m107_at rfl rfl ⟨Nat.le_of_ble_eq_true rfl, Nat.le_of_ble_eq_true rfl, Nat.le_of_ble_eq_true rfl⟩ (by decide)).trans (g_and (isO_dec (by decide +kernel)))
theorem d95_43 : adec m95 43 = some (.pop, 1) := by decide +kernel
theorem s95_43 {l0 : Nat} {l1 : Int} {l2 : Int} {x0 : Int} : WP m95 43 [.inr (.inl l0), .inl l1, .inl l2] [.inl x0] σ Q = WP m95 44 [.inr (.inl l0), .inl l1, .inl l2] [] σ Q := w_ld d95_43 rfl
theorem d95_44 : adec m95 44 = some (.iload_n 2, 1) := by decide +kernel
theorem s95_44 {l0 : Nat} {l1 : Int} {l2 : Int} : WP m95 44 [.inr (.inl l0), .inl l1, .inl l2] [] σ Q = WP m95 45 [.inr (.inl l0), .inl l1, .inl l2] [.inl l2] σ Q := w_ld d95_44 rfl
theorem d95_45 : adec m95 45 = some (.ireturn, 1) := by decide +kernel
theorem s95_45 {l0 : Nat} {l1 : Int} {l2 : Int} {x0 : Int} : WP m95 45 [.inr (.inl l0), .inl l1, .inl l2] [.inl x0] σ Q = Q [.inl x0] σ := w_ri d95_45 rfl
theorem e95 {p0 : Nat} {p1 : Int} : CA m95 [.inr (.inl p0), .inl p1] σ Q = WP m95 0 [.inr (.inl p0), .inl p1, vU] [] σ Q := rfl
-- BinderPress.drift(III)I
theorem d96_0 : adec m96 0 = some (.iload_n 1, 1) := by decide +kernel
theorem s96_0 {l0 : Nat} {l1 : Int} {l2 : Int} {l3 : Int} : WP m96 0 [.inr (.inl l0), .inl l1, .inl l2, .inl l3] [] σ Q = WP m96 1 [.inr (.inl l0), .inl l1, .inl l2, .inl l3] [.inl l1] σ Q := w_ld d96_0 rfl
theorem d96_1 : adec m96 1 = some (.invokestatic 98, 3) := by decide +kernel
theorem s96_1 {l0 : Nat} {l1 : Int} {l2 : Int} {l3 : Int} {x0 : Int} : WP m96 1 [.inr (.inl l0), .inl l1, .inl l2, .inl l3] [.inl x0] σ Q = CA m113 [.inl x0] σ (fun v σ2 => WP m96 4 [.inr (.inl l0), .inl l1, .inl l2, .inl l3] (v ++ []) σ2 Q) := w_cS (k := 113) d96_1 (by decide +kernel) (md := 1) (by decide +kernel) m113_at rfl rfl ⟨Nat.le_of_ble_eq_true rfl, Nat.le_of_ble_eq_true rfl, Nat.le_of_ble_eq_true rfl⟩ (by decide)
theorem d96_4 : adec m96 4 = some (.ifCond .ne (6), 3) := by decide +kernel
theorem s96_4 {l0 : Nat} {l1 : Int} {l2 : Int} {l3 : Int} {x0 : Int} : WP m96 4 [.inr (.inl l0), .inl l1, .inl l2, .inl l3] [.inl x0] σ Q = (if x0 = 0 then WP m96 7 [.inr (.inl l0), .inl l1, .inl l2, .inl l3] [] σ Q else WP m96 10 [.inr (.inl l0), .inl l1, .inl l2, .inl l3] [] σ Q) := w_ifne d96_4 (by decide)
theorem d96_7 : adec m96 7 = some (.ldc 102, 2) := by decide +kernel
theorem s96_7 {l0 : Nat} {l1 : Int} {l2 : Int} {l3 : Int} : WP m96 7 [.inr (.inl l0), .inl l1, .inl l2, .inl l3] [] σ Q = WP m96 9 [.inr (.inl l0), .inl l1, .inl l2, .inl l3] [.inl (-1000000001)] σ Q := w_ldc d96_7 (by decide +kernel) (by decide)
theorem d96_9 : adec m96 9 = some (.ireturn, 1) := by decide +kernel
theorem s96_9 {l0 : Nat} {l1 : Int} {l2 : Int} {l3 : Int} {x0 : Int} : WP m96 9 [.inr (.inl l0), .inl l1, .inl l2, .inl l3] [.inl x0] σ Q = Q [.inl x0] σ := w_ri d96_9 rfl
theorem d96_10 : adec m96 10 = some (.iload_n 2, 1) := by decide +kernel
theorem s96_10 {l0 : Nat} {l1 : Int} {l2 : Int} {l3 : Int} : WP m96 10 [.inr (.inl l0), .inl l1, .inl l2, .inl l3] [] σ Q = WP m96 11 [.inr (.inl l0), .inl l1, .inl l2, .inl l3] [.inl l2] σ Q := w_ld d96_10 rfl
theorem d96_11 : adec m96 11 = some (.iconst (1), 1) := by decide +kernel
theorem s96_11 {l0 : Nat} {l1 : Int} {l2 : Int} {l3 : Int} {x0 : Int} : WP m96 11 [.inr (.inl l0), .inl l1, .inl l2, .inl l3] [.inl x0] σ Q = WP m96 12 [.inr (.inl l0), .inl l1, .inl l2, .inl l3] [.inl (1), .inl x0] σ Q := w_iconst d96_11 (by decide)
theorem d96_12 : adec m96 12 = some (.if_icmp .lt (20), 3) := by decide +kernel
theorem s96_12 {l0 : Nat} {l1 : Int} {l2 : Int} {l3 : Int} {x0 : Int} {x1 : Int} : WP m96 12 [.inr (.inl l0), .inl l1, .inl l2, .inl l3] [.inl x1, .inl x0] σ Q = (if x0 < x1 then WP m96 32 [.inr (.inl l0), .inl l1, .inl l2, .inl l3] [] σ Q else WP m96 15 [.inr (.inl l0), .inl l1, .inl l2, .inl l3] [] σ Q) := w_iclt d96_12 (by decide)
theorem d96_15 : adec m96 15 = some (.iload_n 2, 1) := by decide +kernel
theorem s96_15 {l0 : Nat} {l1 : Int} {l2 : Int} {l3 : Int} : WP m96 15 [.inr (.inl l0), .inl l1, .inl l2, .inl l3] [] σ Q = WP m96 16 [.inr (.inl l0), .inl l1, .inl l2, .inl l3] [.inl l2] σ Q := w_ld d96_15 rfl
theorem d96_16 : adec m96 16 = some (.bipush (40), 2) := by decide +kernel
theorem s96_16 {l0 : Nat} {l1 : Int} {l2 : Int} {l3 : Int} {x0 : Int} : WP m96 16 [.inr (.inl l0), .inl l1, .inl l2, .inl l3] [.inl x0] σ Q = WP m96 18 [.inr (.inl l0), .inl l1, .inl l2, .inl l3] [.inl (40), .inl x0] σ Q := w_bipush d96_16 (by decide)
theorem d96_18 : adec m96 18 = some (.if_icmp .gt (14), 3) := by decide +kernel
theorem s96_18 {l0 : Nat} {l1 : Int} {l2 : Int} {l3 : Int} {x0 : Int} {x1 : Int} : WP m96 18 [.inr (.inl l0), .inl l1, .inl l2, .inl l3] [.inl x1, .inl x0] σ Q = (if x1 < x0 then WP m96 32 [.inr (.inl l0), .inl l1, .inl l2, .inl l3] [] σ Q else WP m96 21 [.inr (.inl l0), .inl l1, .inl l2, .inl l3] [] σ Q) := w_icgt d96_18 (by decide)
theorem d96_21 : adec m96 21 = some (.iload_n 3, 1) := by decide +kernel
theorem s96_21 {l0 : Nat} {l1 : Int} {l2 : Int} {l3 : Int} : WP m96 21 [.inr (.inl l0), .inl l1, .inl l2, .inl l3] [] σ Q = WP m96 22 [.inr (.inl l0), .inl l1, .inl l2, .inl l3] [.inl l3] σ Q := w_ld d96_21 rfl
theorem d96_22 : adec m96 22 = some (.iconst (1), 1) := by decide +kernel
theorem s96_22 {l0 : Nat} {l1 : Int} {l2 : Int} {l3 : Int} {x0 : Int} : WP m96 22 [.inr (.inl l0), .inl l1, .inl l2, .inl l3] [.inl x0] σ Q = WP m96 23 [.inr (.inl l0), .inl l1, .inl l2, .inl l3] [.inl (1), .inl x0] σ Q := w_iconst d96_22 (by decide)
theorem d96_23 : adec m96 23 = some (.if_icmp .lt (9), 3) := by decide +kernel
theorem s96_23 {l0 : Nat} {l1 : Int} {l2 : Int} {l3 : Int} {x0 : Int} {x1 : Int} : WP m96 23 [.inr (.inl l0), .inl l1, .inl l2, .inl l3] [.inl x1, .inl x0] σ Q = (if x0 < x1 then WP m96 32 [.inr (.inl l0), .inl l1, .inl l2, .inl l3] [] σ Q else WP m96 26 [.inr (.inl l0), .inl l1, .inl l2, .inl l3] [] σ Q) := w_iclt d96_23 (by decide)
theorem d96_26 : adec m96 26 = some (.iload_n 3, 1) := by decide +kernel
theorem s96_26 {l0 : Nat} {l1 : Int} {l2 : Int} {l3 : Int} : WP m96 26 [.inr (.inl l0), .inl l1, .inl l2, .inl l3] [] σ Q = WP m96 27 [.inr (.inl l0), .inl l1, .inl l2, .inl l3] [.inl l3] σ Q := w_ld d96_26 rfl
theorem d96_27 : adec m96 27 = some (.ldc 157, 2) := by decide +kernel
theorem s96_27 {l0 : Nat} {l1 : Int} {l2 : Int} {l3 : Int} {x0 : Int} : WP m96 27 [.inr (.inl l0), .inl l1, .inl l2, .inl l3] [.inl x0] σ Q = WP m96 29 [.inr (.inl l0), .inl l1, .inl l2, .inl l3] [.inl (999999), .inl x0] σ Q := w_ldc d96_27 (by decide +kernel) (by decide)
theorem d96_29 : adec m96 29 = some (.if_icmp .le (6), 3) := by decide +kernel
theorem s96_29 {l0 : Nat} {l1 : Int} {l2 : Int} {l3 : Int} {x0 : Int} {x1 : Int} : WP m96 29 [.inr (.inl l0), .inl l1, .inl l2, .inl l3] [.inl x1, .inl x0] σ Q = (if x0 ≤ x1 then WP m96 35 [.inr (.inl l0), .inl l1, .inl l2, .inl l3] [] σ Q else WP m96 32 [.inr (.inl l0), .inl l1, .inl l2, .inl l3] [] σ Q) := w_icle d96_29 (by decide)
theorem d96_32 : adec m96 32 = some (.ldc 89, 2) := by decide +kernel
theorem s96_32 {l0 : Nat} {l1 : Int} {l2 : Int} {l3 : Int} : WP m96 32 [.inr (.inl l0), .inl l1, .inl l2, .inl l3] [] σ Q = WP m96 34 [.inr (.inl l0), .inl l1, .inl l2, .inl l3] [.inl (-1000000002)] σ Q := w_ldc d96_32 (by decide +kernel) (by decide)
theorem d96_34 : adec m96 34 = some (.ireturn, 1) := by decide +kernel
theorem s96_34 {l0 : Nat} {l1 : Int} {l2 : Int} {l3 : Int} {x0 : Int} : WP m96 34 [.inr (.inl l0), .inl l1, .inl l2, .inl l3] [.inl x0] σ Q = Q [.inl x0] σ := w_ri d96_34 rfl
theorem d96_35 : adec m96 35 = some (.aload_n 0, 1) := by decide +kernel
theorem s96_35 {l0 : Nat} {l1 : Int} {l2 : Int} {l3 : Int} : WP m96 35 [.inr (.inl l0), .inl l1, .inl l2, .inl l3] [] σ Q = WP m96 36 [.inr (.inl l0), .inl l1, .inl l2, .inl l3] [.inr (.inl l0)] σ Q := w_ld d96_35 rfl
theorem d96_36 : adec m96 36 = some (.iload_n 2, 1) := by decide +kernel
theorem s96_36 {l0 : Nat} {l1 : Int} {l2 : Int} {l3 : Int} {x0 : Nat} : WP m96 36 [.inr (.inl l0), .inl l1, .inl l2, .inl l3] [.inr (.inl x0)] σ Q = WP m96 37 [.inr (.inl l0), .inl l1, .inl l2, .inl l3] [.inl l2, .inr (.inl x0)] σ Q := w_ld d96_36 rfl
theorem d96_37 : adec m96 37 = some (.iload_n 3, 1) := by decide +kernel
theorem s96_37 {l0 : Nat} {l1 : Int} {l2 : Int} {l3 : Int} {x0 : Nat} {x1 : Int} : WP m96 37 [.inr (.inl l0), .inl l1, .inl l2, .inl l3] [.inl x1, .inr (.inl x0)] σ Q = WP m96 38 [.inr (.inl l0), .inl l1, .inl l2, .inl l3] [.inl l3, .inl x1, .inr (.inl x0)] σ Q := w_ld d96_37 rfl
theorem d96_38 : adec m96 38 = some (.invokevirtual 158, 3) := by decide +kernel
theorem s96_38 {l0 : Nat} {l1 : Int} {l2 : Int} {l3 : Int} {x1 : Int} {x2 : Int} : WP m96 38 [.inr (.inl l0), .inl l1, .inl l2, .inl l3] [.inl x2, .inl x1, .inr (.inl 0)] σ Q = CA m109 [.inr (.inl 0), .inl x1, .inl x2] σ (fun v σ2 => WP m96 41 [.inr (.inl l0), .inl l1, .inl l2, .inl l3] (v ++ []) σ2 Q) := (w_cV (k := 109) d96_38 (by decide +kernel) m109_at rfl rfl ⟨Nat.le_of_ble_eq_true rfl, Nat.le_of_ble_eq_true rfl, Nat.le_of_ble_eq_true rfl⟩ (by decide)).trans (g_and (isO_dec (by decide +kernel)))
theorem d96_41 : adec m96 41 = some (.aload_n 0, 1) := by decide +kernel
theorem s96_41 {l0 : Nat} {l1 : Int} {l2 : Int} {l3 : Int} : WP m96 41 [.inr (.inl l0), .inl l1, .inl l2, .inl l3] [] σ Q = WP m96 42 [.inr (.inl l0), .inl l1, .inl l2, .inl l3] [.inr (.inl l0)] σ Q := w_ld d96_41 rfl
theorem d96_42 : adec m96 42 = some (.iload_n 1, 1) := by decide +kernel
theorem s96_42 {l0 : Nat} {l1 : Int} {l2 : Int} {l3 : Int} {x0 : Nat} : WP m96 42 [.inr (.inl l0), .inl l1, .inl l2, .inl l3] [.inr (.inl x0)] σ Q = WP m96 43 [.inr (.inl l0), .inl l1, .inl l2, .inl l3] [.inl l1, .inr (.inl x0)] σ Q := w_ld d96_42 rfl
theorem d96_43 : adec m96 43 = some (.invokevirtual 113, 3) := by decide +kernel
theorem s96_43 {l0 : Nat} {l1 : Int} {l2 : Int} {l3 : Int} {x1 : Int} : WP m96 43 [.inr (.inl l0), .inl l1, .inl l2, .inl l3] [.inl x1, .inr (.inl 0)] σ Q = CA m107 [.inr (.inl 0), .inl x1] σ (fun v σ2 => WP m96 46 [.inr (.inl l0), .inl l1, .inl l2, .inl l3] (v ++ []) σ2 Q) := (w_cV (k := 107) d96_43 (by decide +kernel) m107_at rfl rfl ⟨Nat.le_of_ble_eq_true rfl, Nat.le_of_ble_eq_true rfl, Nat.le_of_ble_eq_true rfl⟩ (by decide)).trans (g_and (isO_dec (by decide +kernel)))
theorem d96_46 : adec m96 46 = some (.ireturn, 1) := by decide +kernel
theorem s96_46 {l0 : Nat} {l1 : Int} {l2 : Int} {l3 : Int} {x0 : Int} : WP m96 46 [.inr (.inl l0), .inl l1, .inl l2, .inl l3] [.inl x0] σ Q = Q [.inl x0] σ := w_ri d96_46 rfl
theorem e96 {p0 : Nat} {p1 : Int} {p2 : Int} {p3 : Int} : CA m96 [.inr (.inl p0), .inl p1, .inl p2, .inl p3] σ Q = WP m96 0 [.inr (.inl p0), .inl p1, .inl p2, .inl p3] [] σ Q := rfl
-- BinderPress.undo()I
theorem d97_0 : adec m97 0 = some (.aload_n 0, 1) := by decide +kernel
theorem s97_0 {l0 : Nat} {l1 : AV} : WP m97 0 [.inr (.inl l0), l1] [] σ Q = WP m97 1 [.inr (.inl l0), l1] [.inr (.inl l0)] σ Q := w_ld d97_0 rfl
theorem d97_1 : adec m97 1 = some (.getfield 36, 3) := by decide +kernel
theorem s97_1 {l0 : Nat} {l1 : AV} : WP m97 1 [.inr (.inl l0), l1] [.inr (.inl 0)] σ Q = WP m97 4 [.inr (.inl l0), l1] [.inr (.inl 30)] σ Q := (w_getR (c := 9) (n := 4) d97_1 (by decide +kernel) (by decide +kernel)).trans (g_and ⟨isO_dec (by decide +kernel), by decide +kernel⟩)
theorem d97_4 : adec m97 4 = some (.invokevirtual 162, 3) := by decide +kernel
theorem s97_4 {l0 : Nat} {l1 : AV} : WP m97 4 [.inr (.inl l0), l1] [.inr (.inl 30)] σ Q = CA m9 [.inr (.inl 30)] σ (fun v σ2 => WP m97 7 [.inr (.inl l0), l1] (v ++ []) σ2 Q) := (w_cV (k := 9) d97_4 (by decide +kernel) m9_at rfl rfl ⟨Nat.le_of_ble_eq_true rfl, Nat.le_of_ble_eq_true rfl, Nat.le_of_ble_eq_true rfl⟩ (by decide)).trans (g_and (isO_dec (by decide +kernel)))
theorem d97_7 : adec m97 7 = some (.ifCond .ne (6), 3) := by decide +kernel
theorem s97_7 {l0 : Nat} {l1 : AV} {x0 : Int} : WP m97 7 [.inr (.inl l0), l1] [.inl x0] σ Q = (if x0 = 0 then WP m97 10 [.inr (.inl l0), l1] [] σ Q else WP m97 13 [.inr (.inl l0), l1] [] σ Q) := w_ifne d97_7 (by decide)
theorem d97_10 : adec m97 10 = some (.ldc 120, 2) := by decide +kernel
theorem s97_10 {l0 : Nat} {l1 : AV} : WP m97 10 [.inr (.inl l0), l1] [] σ Q = WP m97 12 [.inr (.inl l0), l1] [.inl (-1000000003)] σ Q := w_ldc d97_10 (by decide +kernel) (by decide)
theorem d97_12 : adec m97 12 = some (.ireturn, 1) := by decide +kernel
theorem s97_12 {l0 : Nat} {l1 : AV} {x0 : Int} : WP m97 12 [.inr (.inl l0), l1] [.inl x0] σ Q = Q [.inl x0] σ := w_ri d97_12 rfl
theorem d97_13 : adec m97 13 = some (.aload_n 0, 1) := by decide +kernel
theorem s97_13 {l0 : Nat} {l1 : AV} : WP m97 13 [.inr (.inl l0), l1] [] σ Q = WP m97 14 [.inr (.inl l0), l1] [.inr (.inl l0)] σ Q := w_ld d97_13 rfl
theorem d97_14 : adec m97 14 = some (.getfield 36, 3) := by decide +kernel
theorem s97_14 {l0 : Nat} {l1 : AV} : WP m97 14 [.inr (.inl l0), l1] [.inr (.inl 0)] σ Q = WP m97 17 [.inr (.inl l0), l1] [.inr (.inl 30)] σ Q := (w_getR (c := 9) (n := 4) d97_14 (by decide +kernel) (by decide +kernel)).trans (g_and ⟨isO_dec (by decide +kernel), by decide +kernel⟩)
theorem d97_17 : adec m97 17 = some (.invokevirtual 163, 3) := by decide +kernel
theorem s97_17 {l0 : Nat} {l1 : AV} : WP m97 17 [.inr (.inl l0), l1] [.inr (.inl 30)] σ Q = CA m12 [.inr (.inl 30)] σ (fun v σ2 => WP m97 20 [.inr (.inl l0), l1] (v ++ []) σ2 Q) := (w_cV (k := 12) d97_17 (by decide +kernel) m12_at rfl rfl ⟨Nat.le_of_ble_eq_true rfl, Nat.le_of_ble_eq_true rfl, Nat.le_of_ble_eq_true rfl⟩ (by decide)).trans (g_and (isO_dec (by decide +kernel)))
theorem d97_20 : adec m97 20 = some (.istore_n 1, 1) := by decide +kernel
theorem s97_20 {l0 : Nat} {l1 : AV} {x0 : Int} : WP m97 20 [.inr (.inl l0), l1] [.inl x0] σ Q = WP m97 21 [.inr (.inl l0), .inl x0] [] σ Q := w_st1 (j := 1) d97_20 rfl (Nat.le_of_ble_eq_true rfl) rfl
theorem d97_21 : adec m97 21 = some (.iload_n 1, 1) := by decide +kernel
theorem s97_21 {l0 : Nat} {l1 : Int} : WP m97 21 [.inr (.inl l0), .inl l1] [] σ Q = WP m97 22 [.inr (.inl l0), .inl l1] [.inl l1] σ Q := w_ld d97_21 rfl
theorem d97_22 : adec m97 22 = some (.invokestatic 98, 3) := by decide +kernel
theorem s97_22 {l0 : Nat} {l1 : Int} {x0 : Int} : WP m97 22 [.inr (.inl l0), .inl l1] [.inl x0] σ Q = CA m113 [.inl x0] σ (fun v σ2 => WP m97 25 [.inr (.inl l0), .inl l1] (v ++ []) σ2 Q) := w_cS (k := 113) d97_22 (by decide +kernel) (md := 1) (by decide +kernel) m113_at rfl rfl ⟨Nat.le_of_ble_eq_true rfl, Nat.le_of_ble_eq_true rfl, Nat.le_of_ble_eq_true rfl⟩ (by decide)
theorem d97_25 : adec m97 25 = some (.ifCond .eq (16), 3) := by decide +kernel
theorem s97_25 {l0 : Nat} {l1 : Int} {x0 : Int} : WP m97 25 [.inr (.inl l0), .inl l1] [.inl x0] σ Q = (if x0 = 0 then WP m97 41 [.inr (.inl l0), .inl l1] [] σ Q else WP m97 28 [.inr (.inl l0), .inl l1] [] σ Q) := w_ifeq d97_25 (by decide)
theorem d97_28 : adec m97 28 = some (.aload_n 0, 1) := by decide +kernel
theorem s97_28 {l0 : Nat} {l1 : Int} : WP m97 28 [.inr (.inl l0), .inl l1] [] σ Q = WP m97 29 [.inr (.inl l0), .inl l1] [.inr (.inl l0)] σ Q := w_ld d97_28 rfl
theorem d97_29 : adec m97 29 = some (.getfield 36, 3) := by decide +kernel
theorem s97_29 {l0 : Nat} {l1 : Int} : WP m97 29 [.inr (.inl l0), .inl l1] [.inr (.inl 0)] σ Q = WP m97 32 [.inr (.inl l0), .inl l1] [.inr (.inl 30)] σ Q := (w_getR (c := 9) (n := 4) d97_29 (by decide +kernel) (by decide +kernel)).trans (g_and ⟨isO_dec (by decide +kernel), by decide +kernel⟩)
theorem d97_32 : adec m97 32 = some (.aload_n 0, 1) := by decide +kernel
theorem s97_32 {l0 : Nat} {l1 : Int} {x0 : Nat} : WP m97 32 [.inr (.inl l0), .inl l1] [.inr (.inl x0)] σ Q = WP m97 33 [.inr (.inl l0), .inl l1] [.inr (.inl l0), .inr (.inl x0)] σ Q := w_ld d97_32 rfl
theorem d97_33 : adec m97 33 = some (.getfield 22, 3) := by decide +kernel
theorem s97_33 {l0 : Nat} {l1 : Int} {x0 : Nat} : WP m97 33 [.inr (.inl l0), .inl l1] [.inr (.inl 0), .inr (.inl x0)] σ Q = WP m97 36 [.inr (.inl l0), .inl l1] [.inr (.inl 3), .inr (.inl x0)] σ Q := (w_getR (c := 9) (n := 1) d97_33 (by decide +kernel) (by decide +kernel)).trans (g_and ⟨isO_dec (by decide +kernel), by decide +kernel⟩)
theorem d97_36 : adec m97 36 = some (.iload_n 1, 1) := by decide +kernel
theorem s97_36 {l0 : Nat} {l1 : Int} {x0 : Nat} {x1 : Nat} : WP m97 36 [.inr (.inl l0), .inl l1] [.inr (.inl x1), .inr (.inl x0)] σ Q = WP m97 37 [.inr (.inl l0), .inl l1] [.inl l1, .inr (.inl x1), .inr (.inl x0)] σ Q := w_ld d97_36 rfl
theorem d97_37 : adec m97 37 = some (.aaload, 1) := by decide +kernel
theorem s97_37 {l0 : Nat} {l1 : Int} {x0 : Nat} {x1 : Nat} {x2 : Int} (h31 : x1 ≠ 31) : WP m97 37 [.inr (.inl l0), .inl l1] [.inl x2, .inr (.inl x1), .inr (.inl x0)] σ Q = ((kdS x1 = 22 ∧ 0 ≤ x2 ∧ x2 < ln x1 ∧ 0 ≤ PT x1 x2.toNat) ∧ WP m97 38 [.inr (.inl l0), .inl l1] [.inr (.inl (pt x1 x2.toNat)), .inr (.inl x0)] σ Q) := w_aald d97_37 h31
theorem d97_38 : adec m97 38 = some (.invokevirtual 166, 3) := by decide +kernel
theorem s97_38 {l0 : Nat} {l1 : Int} {x1 : Nat} : WP m97 38 [.inr (.inl l0), .inl l1] [.inr (.inl x1), .inr (.inl 30)] σ Q = CA m13 [.inr (.inl 30), .inr (.inl x1)] σ (fun v σ2 => WP m97 41 [.inr (.inl l0), .inl l1] (v ++ []) σ2 Q) := (w_cV (k := 13) d97_38 (by decide +kernel) m13_at rfl rfl ⟨Nat.le_of_ble_eq_true rfl, Nat.le_of_ble_eq_true rfl, Nat.le_of_ble_eq_true rfl⟩ (by decide)).trans (g_and (isO_dec (by decide +kernel)))
theorem d97_41 : adec m97 41 = some (.aload_n 0, 1) := by decide +kernel
theorem s97_41 {l0 : Nat} {l1 : Int} : WP m97 41 [.inr (.inl l0), .inl l1] [] σ Q = WP m97 42 [.inr (.inl l0), .inl l1] [.inr (.inl l0)] σ Q := w_ld d97_41 rfl
theorem d97_42 : adec m97 42 = some (.getfield 36, 3) := by decide +kernel
theorem s97_42 {l0 : Nat} {l1 : Int} : WP m97 42 [.inr (.inl l0), .inl l1] [.inr (.inl 0)] σ Q = WP m97 45 [.inr (.inl l0), .inl l1] [.inr (.inl 30)] σ Q := (w_getR (c := 9) (n := 4) d97_42 (by decide +kernel) (by decide +kernel)).trans (g_and ⟨isO_dec (by decide +kernel), by decide +kernel⟩)
theorem d97_45 : adec m97 45 = some (.invokevirtual 162, 3) := by decide +kernel
theorem s97_45 {l0 : Nat} {l1 : Int} : WP m97 45 [.inr (.inl l0), .inl l1] [.inr (.inl 30)] σ Q = CA m9 [.inr (.inl 30)] σ (fun v σ2 => WP m97 48 [.inr (.inl l0), .inl l1] (v ++ []) σ2 Q) := (w_cV (k := 9) d97_45 (by decide +kernel) m9_at rfl rfl ⟨Nat.le_of_ble_eq_true rfl, Nat.le_of_ble_eq_true rfl, Nat.le_of_ble_eq_true rfl⟩ (by decide)).trans (g_and (isO_dec (by decide +kernel)))
theorem d97_48 : adec m97 48 = some (.ireturn, 1) := by decide +kernel
theorem s97_48 {l0 : Nat} {l1 : Int} {x0 : Int} : WP m97 48 [.inr (.inl l0), .inl l1] [.inl x0] σ Q = Q [.inl x0] σ := w_ri d97_48 rfl
theorem e97 {p0 : Nat} : CA m97 [.inr (.inl p0)] σ Q = WP m97 0 [.inr (.inl p0), vU] [] σ Q := rfl
-- BinderPress.told(I)I
theorem d98_0 : adec m98 0 = some (.iload_n 1, 1) := by decide +kernel
theorem s98_0 {l0 : Nat} {l1 : Int} : WP m98 0 [.inr (.inl l0), .inl l1] [] σ Q = WP m98 1 [.inr (.inl l0), .inl l1] [.inl l1] σ Q := w_ld d98_0 rfl
theorem d98_1 : adec m98 1 = some (.tableswitch (48) (0) (2) #[27, 35, 40], 27) := by decide +kernel
theorem s98_1 {l0 : Nat} {l1 : Int} {x0 : Int} : WP m98 1 [.inr (.inl l0), .inl l1] [.inl x0] σ Q = (if x0 = 0 then WP m98 28 [.inr (.inl l0), .inl l1] [] σ Q else if x0 = 1 then WP m98 36 [.inr (.inl l0), .inl l1] [] σ Q else if x0 = 2 then WP m98 41 [.inr (.inl l0), .inl l1] [] σ Q else WP m98 49 [.inr (.inl l0), .inl l1] [] σ Q) := by
  by_cases h0 : x0 = (0)
  · rw [if_pos h0]; subst h0; exact w_sw d98_1 rfl rfl
  by_cases h1 : x0 = (1)
  · rw [if_neg h0, if_pos h1]; subst h1; exact w_sw d98_1 rfl rfl
  by_cases h2 : x0 = (2)
  · rw [if_neg h0, if_neg h1, if_pos h2]; subst h2; exact w_sw d98_1 rfl rfl
  rw [if_neg h0, if_neg h1, if_neg h2]
  by_cases hr : x0 < (0) ∨ (2) < x0
  · exact w_sw d98_1 rfl (by simp only [bstep]; rw [if_pos hr]; rfl)
  · omega
theorem d98_28 : adec m98 28 = some (.aload_n 0, 1) := by decide +kernel
theorem s98_28 {l0 : Nat} {l1 : Int} : WP m98 28 [.inr (.inl l0), .inl l1] [] σ Q = WP m98 29 [.inr (.inl l0), .inl l1] [.inr (.inl l0)] σ Q := w_ld d98_28 rfl
theorem d98_29 : adec m98 29 = some (.getfield 14, 3) := by decide +kernel
theorem s98_29 {l0 : Nat} {l1 : Int} : WP m98 29 [.inr (.inl l0), .inl l1] [.inr (.inl 0)] σ Q = WP m98 32 [.inr (.inl l0), .inl l1] [.inr (.inl 1)] σ Q := (w_getR (c := 9) (n := 0) d98_29 (by decide +kernel) (by decide +kernel)).trans (g_and ⟨isO_dec (by decide +kernel), by decide +kernel⟩)
theorem d98_32 : adec m98 32 = some (.invokevirtual 90, 3) := by decide +kernel
theorem s98_32 {l0 : Nat} {l1 : Int} {x0 : Nat} : WP m98 32 [.inr (.inl l0), .inl l1] [.inr (.inl x0)] σ Q = (isO x0 3 ∧ CA m28 [.inr (.inl x0)] σ (fun v σ2 => WP m98 35 [.inr (.inl l0), .inl l1] (v ++ []) σ2 Q)) := w_cV (k := 28) d98_32 (by decide +kernel) m28_at rfl rfl ⟨Nat.le_of_ble_eq_true rfl, Nat.le_of_ble_eq_true rfl, Nat.le_of_ble_eq_true rfl⟩ (by decide)
theorem d98_35 : adec m98 35 = some (.ireturn, 1) := by decide +kernel
theorem s98_35 {l0 : Nat} {l1 : Int} {x0 : Int} : WP m98 35 [.inr (.inl l0), .inl l1] [.inl x0] σ Q = Q [.inl x0] σ := w_ri d98_35 rfl
theorem d98_36 : adec m98 36 = some (.aload_n 0, 1) := by decide +kernel
theorem s98_36 {l0 : Nat} {l1 : Int} : WP m98 36 [.inr (.inl l0), .inl l1] [] σ Q = WP m98 37 [.inr (.inl l0), .inl l1] [.inr (.inl l0)] σ Q := w_ld d98_36 rfl
theorem d98_37 : adec m98 37 = some (.invokevirtual 169, 3) := by decide +kernel
theorem s98_37 {l0 : Nat} {l1 : Int} : WP m98 37 [.inr (.inl l0), .inl l1] [.inr (.inl 0)] σ Q = CA m110 [.inr (.inl 0)] σ (fun v σ2 => WP m98 40 [.inr (.inl l0), .inl l1] (v ++ []) σ2 Q) := (w_cV (k := 110) d98_37 (by decide +kernel) m110_at rfl rfl ⟨Nat.le_of_ble_eq_true rfl, Nat.le_of_ble_eq_true rfl, Nat.le_of_ble_eq_true rfl⟩ (by decide)).trans (g_and (isO_dec (by decide +kernel)))
theorem d98_40 : adec m98 40 = some (.ireturn, 1) := by decide +kernel
theorem s98_40 {l0 : Nat} {l1 : Int} {x0 : Int} : WP m98 40 [.inr (.inl l0), .inl l1] [.inl x0] σ Q = Q [.inl x0] σ := w_ri d98_40 rfl
theorem d98_41 : adec m98 41 = some (.aload_n 0, 1) := by decide +kernel
theorem s98_41 {l0 : Nat} {l1 : Int} : WP m98 41 [.inr (.inl l0), .inl l1] [] σ Q = WP m98 42 [.inr (.inl l0), .inl l1] [.inr (.inl l0)] σ Q := w_ld d98_41 rfl
theorem d98_42 : adec m98 42 = some (.getfield 36, 3) := by decide +kernel
theorem s98_42 {l0 : Nat} {l1 : Int} : WP m98 42 [.inr (.inl l0), .inl l1] [.inr (.inl 0)] σ Q = WP m98 45 [.inr (.inl l0), .inl l1] [.inr (.inl 30)] σ Q := (w_getR (c := 9) (n := 4) d98_42 (by decide +kernel) (by decide +kernel)).trans (g_and ⟨isO_dec (by decide +kernel), by decide +kernel⟩)
theorem d98_45 : adec m98 45 = some (.invokevirtual 162, 3) := by decide +kernel
theorem s98_45 {l0 : Nat} {l1 : Int} : WP m98 45 [.inr (.inl l0), .inl l1] [.inr (.inl 30)] σ Q = CA m9 [.inr (.inl 30)] σ (fun v σ2 => WP m98 48 [.inr (.inl l0), .inl l1] (v ++ []) σ2 Q) := (w_cV (k := 9) d98_45 (by decide +kernel) m9_at rfl rfl ⟨Nat.le_of_ble_eq_true rfl, Nat.le_of_ble_eq_true rfl, Nat.le_of_ble_eq_true rfl⟩ (by decide)).trans (g_and (isO_dec (by decide +kernel)))
theorem d98_48 : adec m98 48 = some (.ireturn, 1) := by decide +kernel
theorem s98_48 {l0 : Nat} {l1 : Int} {x0 : Int} : WP m98 48 [.inr (.inl l0), .inl l1] [.inl x0] σ Q = Q [.inl x0] σ := w_ri d98_48 rfl
theorem d98_49 : adec m98 49 = some (.ldc 89, 2) := by decide +kernel
theorem s98_49 {l0 : Nat} {l1 : Int} : WP m98 49 [.inr (.inl l0), .inl l1] [] σ Q = WP m98 51 [.inr (.inl l0), .inl l1] [.inl (-1000000002)] σ Q := w_ldc d98_49 (by decide +kernel) (by decide)
theorem d98_51 : adec m98 51 = some (.ireturn, 1) := by decide +kernel
theorem s98_51 {l0 : Nat} {l1 : Int} {x0 : Int} : WP m98 51 [.inr (.inl l0), .inl l1] [.inl x0] σ Q = Q [.inl x0] σ := w_ri d98_51 rfl
theorem e98 {p0 : Nat} {p1 : Int} : CA m98 [.inr (.inl p0), .inl p1] σ Q = WP m98 0 [.inr (.inl p0), .inl p1] [] σ Q := rfl
-- BinderPress.of(II)I
theorem d99_0 : adec m99 0 = some (.iload_n 1, 1) := by decide +kernel
theorem s99_0 {l0 : Nat} {l1 : Int} {l2 : Int} {l3 : AV} : WP m99 0 [.inr (.inl l0), .inl l1, .inl l2, l3] [] σ Q = WP m99 1 [.inr (.inl l0), .inl l1, .inl l2, l3] [.inl l1] σ Q := w_ld d99_0 rfl
theorem d99_1 : adec m99 1 = some (.invokestatic 98, 3) := by decide +kernel
theorem s99_1 {l0 : Nat} {l1 : Int} {l2 : Int} {l3 : AV} {x0 : Int} : WP m99 1 [.inr (.inl l0), .inl l1, .inl l2, l3] [.inl x0] σ Q = CA m113 [.inl x0] σ (fun v σ2 => WP m99 4 [.inr (.inl l0), .inl l1, .inl l2, l3] (v ++ []) σ2 Q) := w_cS (k := 113) d99_1 (by decide +kernel) (md := 1) (by decide +kernel) m113_at rfl rfl ⟨Nat.le_of_ble_eq_true rfl, Nat.le_of_ble_eq_true rfl, Nat.le_of_ble_eq_true rfl⟩ (by decide)
theorem d99_4 : adec m99 4 = some (.ifCond .ne (6), 3) := by decide +kernel
theorem s99_4 {l0 : Nat} {l1 : Int} {l2 : Int} {l3 : AV} {x0 : Int} : WP m99 4 [.inr (.inl l0), .inl l1, .inl l2, l3] [.inl x0] σ Q = (if x0 = 0 then WP m99 7 [.inr (.inl l0), .inl l1, .inl l2, l3] [] σ Q else WP m99 10 [.inr (.inl l0), .inl l1, .inl l2, l3] [] σ Q) := w_ifne d99_4 (by decide)
theorem d99_7 : adec m99 7 = some (.ldc 102, 2) := by decide +kernel
theorem s99_7 {l0 : Nat} {l1 : Int} {l2 : Int} {l3 : AV} : WP m99 7 [.inr (.inl l0), .inl l1, .inl l2, l3] [] σ Q = WP m99 9 [.inr (.inl l0), .inl l1, .inl l2, l3] [.inl (-1000000001)] σ Q := w_ldc d99_7 (by decide +kernel) (by decide)
theorem d99_9 : adec m99 9 = some (.ireturn, 1) := by decide +kernel
theorem s99_9 {l0 : Nat} {l1 : Int} {l2 : Int} {l3 : AV} {x0 : Int} : WP m99 9 [.inr (.inl l0), .inl l1, .inl l2, l3] [.inl x0] σ Q = Q [.inl x0] σ := w_ri d99_9 rfl
theorem d99_10 : adec m99 10 = some (.iload_n 2, 1) := by decide +kernel
theorem s99_10 {l0 : Nat} {l1 : Int} {l2 : Int} {l3 : AV} : WP m99 10 [.inr (.inl l0), .inl l1, .inl l2, l3] [] σ Q = WP m99 11 [.inr (.inl l0), .inl l1, .inl l2, l3] [.inl l2] σ Q := w_ld d99_10 rfl
theorem d99_11 : adec m99 11 = some (.ifCond .lt (9), 3) := by decide +kernel
theorem s99_11 {l0 : Nat} {l1 : Int} {l2 : Int} {l3 : AV} {x0 : Int} : WP m99 11 [.inr (.inl l0), .inl l1, .inl l2, l3] [.inl x0] σ Q = (if x0 < 0 then WP m99 20 [.inr (.inl l0), .inl l1, .inl l2, l3] [] σ Q else WP m99 14 [.inr (.inl l0), .inl l1, .inl l2, l3] [] σ Q) := w_iflt d99_11 (by decide)
theorem d99_14 : adec m99 14 = some (.iload_n 2, 1) := by decide +kernel
theorem s99_14 {l0 : Nat} {l1 : Int} {l2 : Int} {l3 : AV} : WP m99 14 [.inr (.inl l0), .inl l1, .inl l2, l3] [] σ Q = WP m99 15 [.inr (.inl l0), .inl l1, .inl l2, l3] [.inl l2] σ Q := w_ld d99_14 rfl
theorem d99_15 : adec m99 15 = some (.bipush (11), 2) := by decide +kernel
theorem s99_15 {l0 : Nat} {l1 : Int} {l2 : Int} {l3 : AV} {x0 : Int} : WP m99 15 [.inr (.inl l0), .inl l1, .inl l2, l3] [.inl x0] σ Q = WP m99 17 [.inr (.inl l0), .inl l1, .inl l2, l3] [.inl (11), .inl x0] σ Q := w_bipush d99_15 (by decide)
theorem d99_17 : adec m99 17 = some (.if_icmp .le (6), 3) := by decide +kernel
theorem s99_17 {l0 : Nat} {l1 : Int} {l2 : Int} {l3 : AV} {x0 : Int} {x1 : Int} : WP m99 17 [.inr (.inl l0), .inl l1, .inl l2, l3] [.inl x1, .inl x0] σ Q = (if x0 ≤ x1 then WP m99 23 [.inr (.inl l0), .inl l1, .inl l2, l3] [] σ Q else WP m99 20 [.inr (.inl l0), .inl l1, .inl l2, l3] [] σ Q) := w_icle d99_17 (by decide)
theorem d99_20 : adec m99 20 = some (.ldc 89, 2) := by decide +kernel
theorem s99_20 {l0 : Nat} {l1 : Int} {l2 : Int} {l3 : AV} : WP m99 20 [.inr (.inl l0), .inl l1, .inl l2, l3] [] σ Q = WP m99 22 [.inr (.inl l0), .inl l1, .inl l2, l3] [.inl (-1000000002)] σ Q := w_ldc d99_20 (by decide +kernel) (by decide)
theorem d99_22 : adec m99 22 = some (.ireturn, 1) := by decide +kernel
theorem s99_22 {l0 : Nat} {l1 : Int} {l2 : Int} {l3 : AV} {x0 : Int} : WP m99 22 [.inr (.inl l0), .inl l1, .inl l2, l3] [.inl x0] σ Q = Q [.inl x0] σ := w_ri d99_22 rfl
theorem d99_23 : adec m99 23 = some (.aload_n 0, 1) := by decide +kernel
theorem s99_23 {l0 : Nat} {l1 : Int} {l2 : Int} {l3 : AV} : WP m99 23 [.inr (.inl l0), .inl l1, .inl l2, l3] [] σ Q = WP m99 24 [.inr (.inl l0), .inl l1, .inl l2, l3] [.inr (.inl l0)] σ Q := w_ld d99_23 rfl
theorem d99_24 : adec m99 24 = some (.iload_n 1, 1) := by decide +kernel
theorem s99_24 {l0 : Nat} {l1 : Int} {l2 : Int} {l3 : AV} {x0 : Nat} : WP m99 24 [.inr (.inl l0), .inl l1, .inl l2, l3] [.inr (.inl x0)] σ Q = WP m99 25 [.inr (.inl l0), .inl l1, .inl l2, l3] [.inl l1, .inr (.inl x0)] σ Q := w_ld d99_24 rfl
theorem d99_25 : adec m99 25 = some (.invokevirtual 117, 3) := by decide +kernel
theorem s99_25 {l0 : Nat} {l1 : Int} {l2 : Int} {l3 : AV} {x1 : Int} : WP m99 25 [.inr (.inl l0), .inl l1, .inl l2, l3] [.inl x1, .inr (.inl 0)] σ Q = CA m111 [.inr (.inl 0), .inl x1] σ (fun v σ2 => WP m99 28 [.inr (.inl l0), .inl l1, .inl l2, l3] (v ++ []) σ2 Q) := (w_cV (k := 111) d99_25 (by decide +kernel) m111_at rfl rfl ⟨Nat.le_of_ble_eq_true rfl, Nat.le_of_ble_eq_true rfl, Nat.le_of_ble_eq_true rfl⟩ (by decide)).trans (g_and (isO_dec (by decide +kernel)))
theorem d99_28 : adec m99 28 = some (.ifCond .eq (6), 3) := by decide +kernel
theorem s99_28 {l0 : Nat} {l1 : Int} {l2 : Int} {l3 : AV} {x0 : Int} : WP m99 28 [.inr (.inl l0), .inl l1, .inl l2, l3] [.inl x0] σ Q = (if x0 = 0 then WP m99 34 [.inr (.inl l0), .inl l1, .inl l2, l3] [] σ Q else WP m99 31 [.inr (.inl l0), .inl l1, .inl l2, l3] [] σ Q) := w_ifeq d99_28 (by decide)
theorem d99_31 : adec m99 31 = some (.ldc 120, 2) := by decide +kernel
theorem s99_31 {l0 : Nat} {l1 : Int} {l2 : Int} {l3 : AV} : WP m99 31 [.inr (.inl l0), .inl l1, .inl l2, l3] [] σ Q = WP m99 33 [.inr (.inl l0), .inl l1, .inl l2, l3] [.inl (-1000000003)] σ Q := w_ldc d99_31 (by decide +kernel) (by decide)
theorem d99_33 : adec m99 33 = some (.ireturn, 1) := by decide +kernel
theorem s99_33 {l0 : Nat} {l1 : Int} {l2 : Int} {l3 : AV} {x0 : Int} : WP m99 33 [.inr (.inl l0), .inl l1, .inl l2, l3] [.inl x0] σ Q = Q [.inl x0] σ := w_ri d99_33 rfl
theorem d99_34 : adec m99 34 = some (.aload_n 0, 1) := by decide +kernel
theorem s99_34 {l0 : Nat} {l1 : Int} {l2 : Int} {l3 : AV} : WP m99 34 [.inr (.inl l0), .inl l1, .inl l2, l3] [] σ Q = WP m99 35 [.inr (.inl l0), .inl l1, .inl l2, l3] [.inr (.inl l0)] σ Q := w_ld d99_34 rfl
theorem d99_35 : adec m99 35 = some (.getfield 22, 3) := by decide +kernel
theorem s99_35 {l0 : Nat} {l1 : Int} {l2 : Int} {l3 : AV} : WP m99 35 [.inr (.inl l0), .inl l1, .inl l2, l3] [.inr (.inl 0)] σ Q = WP m99 38 [.inr (.inl l0), .inl l1, .inl l2, l3] [.inr (.inl 3)] σ Q := (w_getR (c := 9) (n := 1) d99_35 (by decide +kernel) (by decide +kernel)).trans (g_and ⟨isO_dec (by decide +kernel), by decide +kernel⟩)
theorem d99_38 : adec m99 38 = some (.iload_n 1, 1) := by decide +kernel
theorem s99_38 {l0 : Nat} {l1 : Int} {l2 : Int} {l3 : AV} {x0 : Nat} : WP m99 38 [.inr (.inl l0), .inl l1, .inl l2, l3] [.inr (.inl x0)] σ Q = WP m99 39 [.inr (.inl l0), .inl l1, .inl l2, l3] [.inl l1, .inr (.inl x0)] σ Q := w_ld d99_38 rfl
theorem d99_39 : adec m99 39 = some (.aaload, 1) := by decide +kernel
theorem s99_39 {l0 : Nat} {l1 : Int} {l2 : Int} {l3 : AV} {x0 : Nat} {x1 : Int} (h31 : x0 ≠ 31) : WP m99 39 [.inr (.inl l0), .inl l1, .inl l2, l3] [.inl x1, .inr (.inl x0)] σ Q = ((kdS x0 = 22 ∧ 0 ≤ x1 ∧ x1 < ln x0 ∧ 0 ≤ PT x0 x1.toNat) ∧ WP m99 40 [.inr (.inl l0), .inl l1, .inl l2, l3] [.inr (.inl (pt x0 x1.toNat))] σ Q) := w_aald d99_39 h31
theorem d99_40 : adec m99 40 = some (.astore_n 3, 1) := by decide +kernel
theorem s99_40 {l0 : Nat} {l1 : Int} {l2 : Int} {l3 : AV} {x0 : Nat} : WP m99 40 [.inr (.inl l0), .inl l1, .inl l2, l3] [.inr (.inl x0)] σ Q = WP m99 41 [.inr (.inl l0), .inl l1, .inl l2, .inr (.inl x0)] [] σ Q := w_stR (j := 3) d99_40 rfl (Nat.le_of_ble_eq_true rfl) rfl
theorem d99_41 : adec m99 41 = some (.iload_n 2, 1) := by decide +kernel
theorem s99_41 {l0 : Nat} {l1 : Int} {l2 : Int} {l3 : Nat} : WP m99 41 [.inr (.inl l0), .inl l1, .inl l2, .inr (.inl l3)] [] σ Q = WP m99 42 [.inr (.inl l0), .inl l1, .inl l2, .inr (.inl l3)] [.inl l2] σ Q := w_ld d99_41 rfl
theorem d99_42 : adec m99 42 = some (.tableswitch (153) (0) (11) #[62, 67, 76, 153, 153, 153, 153, 153, 81, 100, 109, 126], 62) := by decide +kernel
theorem s99_42 {l0 : Nat} {l1 : Int} {l2 : Int} {l3 : Nat} {x0 : Int} : WP m99 42 [.inr (.inl l0), .inl l1, .inl l2, .inr (.inl l3)] [.inl x0] σ Q = (if x0 = 0 then WP m99 104 [.inr (.inl l0), .inl l1, .inl l2, .inr (.inl l3)] [] σ Q else if x0 = 1 then WP m99 109 [.inr (.inl l0), .inl l1, .inl l2, .inr (.inl l3)] [] σ Q else if x0 = 2 then WP m99 118 [.inr (.inl l0), .inl l1, .inl l2, .inr (.inl l3)] [] σ Q else if x0 = 8 then WP m99 123 [.inr (.inl l0), .inl l1, .inl l2, .inr (.inl l3)] [] σ Q else if x0 = 9 then WP m99 142 [.inr (.inl l0), .inl l1, .inl l2, .inr (.inl l3)] [] σ Q else if x0 = 10 then WP m99 151 [.inr (.inl l0), .inl l1, .inl l2, .inr (.inl l3)] [] σ Q else if x0 = 11 then WP m99 168 [.inr (.inl l0), .inl l1, .inl l2, .inr (.inl l3)] [] σ Q else WP m99 195 [.inr (.inl l0), .inl l1, .inl l2, .inr (.inl l3)] [] σ Q) := by
  by_cases h0 : x0 = (0)
  · rw [if_pos h0]; subst h0; exact w_sw d99_42 rfl rfl
  by_cases h1 : x0 = (1)
  · rw [if_neg h0, if_pos h1]; subst h1; exact w_sw d99_42 rfl rfl
  by_cases h2 : x0 = (2)
  · rw [if_neg h0, if_neg h1, if_pos h2]; subst h2; exact w_sw d99_42 rfl rfl
  by_cases h3 : x0 = (8)
  · rw [if_neg h0, if_neg h1, if_neg h2, if_pos h3]; subst h3; exact w_sw d99_42 rfl rfl
  by_cases h4 : x0 = (9)
  · rw [if_neg h0, if_neg h1, if_neg h2, if_neg h3, if_pos h4]; subst h4; exact w_sw d99_42 rfl rfl
  by_cases h5 : x0 = (10)
  · rw [if_neg h0, if_neg h1, if_neg h2, if_neg h3, if_neg h4, if_pos h5]; subst h5; exact w_sw d99_42 rfl rfl
  by_cases h6 : x0 = (11)
  · rw [if_neg h0, if_neg h1, if_neg h2, if_neg h3, if_neg h4, if_neg h5, if_pos h6]; subst h6; exact w_sw d99_42 rfl rfl
  rw [if_neg h0, if_neg h1, if_neg h2, if_neg h3, if_neg h4, if_neg h5, if_neg h6]
  by_cases hr : x0 < (0) ∨ (11) < x0
  · exact w_sw d99_42 rfl (by simp only [bstep]; rw [if_pos hr]; rfl)
  · rcases (show x0 = (3) ∨ x0 = (4) ∨ x0 = (5) ∨ x0 = (6) ∨ x0 = (7) by omega) with rfl | rfl | rfl | rfl | rfl <;> exact w_sw d99_42 rfl rfl
theorem d99_104 : adec m99 104 = some (.aload_n 3, 1) := by decide +kernel
theorem s99_104 {l0 : Nat} {l1 : Int} {l2 : Int} {l3 : Nat} : WP m99 104 [.inr (.inl l0), .inl l1, .inl l2, .inr (.inl l3)] [] σ Q = WP m99 105 [.inr (.inl l0), .inl l1, .inl l2, .inr (.inl l3)] [.inr (.inl l3)] σ Q := w_ld d99_104 rfl
theorem d99_105 : adec m99 105 = some (.invokevirtual 90, 3) := by decide +kernel
theorem s99_105 {l0 : Nat} {l1 : Int} {l2 : Int} {l3 : Nat} {x0 : Nat} : WP m99 105 [.inr (.inl l0), .inl l1, .inl l2, .inr (.inl l3)] [.inr (.inl x0)] σ Q = (isO x0 3 ∧ CA m28 [.inr (.inl x0)] σ (fun v σ2 => WP m99 108 [.inr (.inl l0), .inl l1, .inl l2, .inr (.inl l3)] (v ++ []) σ2 Q)) := w_cV (k := 28) d99_105 (by decide +kernel) m28_at rfl rfl ⟨Nat.le_of_ble_eq_true rfl, Nat.le_of_ble_eq_true rfl, Nat.le_of_ble_eq_true rfl⟩ (by decide)
theorem d99_108 : adec m99 108 = some (.ireturn, 1) := by decide +kernel
theorem s99_108 {l0 : Nat} {l1 : Int} {l2 : Int} {l3 : Nat} {x0 : Int} : WP m99 108 [.inr (.inl l0), .inl l1, .inl l2, .inr (.inl l3)] [.inl x0] σ Q = Q [.inl x0] σ := w_ri d99_108 rfl
theorem d99_109 : adec m99 109 = some (.aload_n 0, 1) := by decide +kernel
theorem s99_109 {l0 : Nat} {l1 : Int} {l2 : Int} {l3 : Nat} : WP m99 109 [.inr (.inl l0), .inl l1, .inl l2, .inr (.inl l3)] [] σ Q = WP m99 110 [.inr (.inl l0), .inl l1, .inl l2, .inr (.inl l3)] [.inr (.inl l0)] σ Q := w_ld d99_109 rfl
theorem d99_110 : adec m99 110 = some (.getfield 53, 3) := by decide +kernel
theorem s99_110 {l0 : Nat} {l1 : Int} {l2 : Int} {l3 : Nat} : WP m99 110 [.inr (.inl l0), .inl l1, .inl l2, .inr (.inl l3)] [.inr (.inl 0)] σ Q = WP m99 113 [.inr (.inl l0), .inl l1, .inl l2, .inr (.inl l3)] [.inr (.inl 60)] σ Q := (w_getR (c := 9) (n := 7) d99_110 (by decide +kernel) (by decide +kernel)).trans (g_and ⟨isO_dec (by decide +kernel), by decide +kernel⟩)
theorem d99_113 : adec m99 113 = some (.aload_n 3, 1) := by decide +kernel
theorem s99_113 {l0 : Nat} {l1 : Int} {l2 : Int} {l3 : Nat} {x0 : Nat} : WP m99 113 [.inr (.inl l0), .inl l1, .inl l2, .inr (.inl l3)] [.inr (.inl x0)] σ Q = WP m99 114 [.inr (.inl l0), .inl l1, .inl l2, .inr (.inl l3)] [.inr (.inl l3), .inr (.inl x0)] σ Q := w_ld d99_113 rfl
theorem d99_114 : adec m99 114 = some (.invokevirtual 172, 3) := by decide +kernel
theorem s99_114 {l0 : Nat} {l1 : Int} {l2 : Int} {l3 : Nat} {x0 : Nat} {x1 : Nat} : WP m99 114 [.inr (.inl l0), .inl l1, .inl l2, .inr (.inl l3)] [.inr (.inl x1), .inr (.inl x0)] σ Q = (isO x0 6 ∧ CA m69 [.inr (.inl x0), .inr (.inl x1)] σ (fun v σ2 => WP m99 117 [.inr (.inl l0), .inl l1, .inl l2, .inr (.inl l3)] (v ++ []) σ2 Q)) := w_cV (k := 69) d99_114 (by decide +kernel) m69_at rfl rfl ⟨Nat.le_of_ble_eq_true rfl, Nat.le_of_ble_eq_true rfl, Nat.le_of_ble_eq_true rfl⟩ (by decide)
theorem d99_117 : adec m99 117 = some (.ireturn, 1) := by decide +kernel
theorem s99_117 {l0 : Nat} {l1 : Int} {l2 : Int} {l3 : Nat} {x0 : Int} : WP m99 117 [.inr (.inl l0), .inl l1, .inl l2, .inr (.inl l3)] [.inl x0] σ Q = Q [.inl x0] σ := w_ri d99_117 rfl
theorem d99_118 : adec m99 118 = some (.aload_n 3, 1) := by decide +kernel
theorem s99_118 {l0 : Nat} {l1 : Int} {l2 : Int} {l3 : Nat} : WP m99 118 [.inr (.inl l0), .inl l1, .inl l2, .inr (.inl l3)] [] σ Q = WP m99 119 [.inr (.inl l0), .inl l1, .inl l2, .inr (.inl l3)] [.inr (.inl l3)] σ Q := w_ld d99_118 rfl
theorem d99_119 : adec m99 119 = some (.invokestatic 176, 3) := by decide +kernel
theorem s99_119 {l0 : Nat} {l1 : Int} {l2 : Int} {l3 : Nat} {x0 : Nat} : WP m99 119 [.inr (.inl l0), .inl l1, .inl l2, .inr (.inl l3)] [.inr (.inl x0)] σ Q = CA m121 [.inr (.inl x0)] σ (fun v σ2 => WP m99 122 [.inr (.inl l0), .inl l1, .inl l2, .inr (.inl l3)] (v ++ []) σ2 Q) := w_cS (k := 121) d99_119 (by decide +kernel) (md := 1) (by decide +kernel) m121_at rfl rfl ⟨Nat.le_of_ble_eq_true rfl, Nat.le_of_ble_eq_true rfl, Nat.le_of_ble_eq_true rfl⟩ (by decide)
theorem d99_122 : adec m99 122 = some (.ireturn, 1) := by decide +kernel
theorem s99_122 {l0 : Nat} {l1 : Int} {l2 : Int} {l3 : Nat} {x0 : Int} : WP m99 122 [.inr (.inl l0), .inl l1, .inl l2, .inr (.inl l3)] [.inl x0] σ Q = Q [.inl x0] σ := w_ri d99_122 rfl
theorem d99_123 : adec m99 123 = some (.aload_n 0, 1) := by decide +kernel
theorem s99_123 {l0 : Nat} {l1 : Int} {l2 : Int} {l3 : Nat} : WP m99 123 [.inr (.inl l0), .inl l1, .inl l2, .inr (.inl l3)] [] σ Q = WP m99 124 [.inr (.inl l0), .inl l1, .inl l2, .inr (.inl l3)] [.inr (.inl l0)] σ Q := w_ld d99_123 rfl
theorem d99_124 : adec m99 124 = some (.getfield 74, 3) := by decide +kernel
theorem s99_124 {l0 : Nat} {l1 : Int} {l2 : Int} {l3 : Nat} : WP m99 124 [.inr (.inl l0), .inl l1, .inl l2, .inr (.inl l3)] [.inr (.inl 0)] σ Q = WP m99 127 [.inr (.inl l0), .inl l1, .inl l2, .inr (.inl l3)] [.inr (.inl 98)] σ Q := (w_getR (c := 9) (n := 10) d99_124 (by decide +kernel) (by decide +kernel)).trans (g_and ⟨isO_dec (by decide +kernel), by decide +kernel⟩)
theorem d99_127 : adec m99 127 = some (.aload_n 3, 1) := by decide +kernel
theorem s99_127 {l0 : Nat} {l1 : Int} {l2 : Int} {l3 : Nat} {x0 : Nat} : WP m99 127 [.inr (.inl l0), .inl l1, .inl l2, .inr (.inl l3)] [.inr (.inl x0)] σ Q = WP m99 128 [.inr (.inl l0), .inl l1, .inl l2, .inr (.inl l3)] [.inr (.inl l3), .inr (.inl x0)] σ Q := w_ld d99_127 rfl
theorem d99_128 : adec m99 128 = some (.invokevirtual 179, 3) := by decide +kernel
theorem s99_128 {l0 : Nat} {l1 : Int} {l2 : Int} {l3 : Nat} {x1 : Nat} : WP m99 128 [.inr (.inl l0), .inl l1, .inl l2, .inr (.inl l3)] [.inr (.inl x1), .inr (.inl 98)] σ Q = CA m45 [.inr (.inl 98), .inr (.inl x1)] σ (fun v σ2 => WP m99 131 [.inr (.inl l0), .inl l1, .inl l2, .inr (.inl l3)] (v ++ []) σ2 Q) := (w_cV (k := 45) d99_128 (by decide +kernel) m45_at rfl rfl ⟨Nat.le_of_ble_eq_true rfl, Nat.le_of_ble_eq_true rfl, Nat.le_of_ble_eq_true rfl⟩ (by decide)).trans (g_and (isO_dec (by decide +kernel)))
theorem d99_131 : adec m99 131 = some (.aload_n 0, 1) := by decide +kernel
theorem s99_131 {l0 : Nat} {l1 : Int} {l2 : Int} {l3 : Nat} : WP m99 131 [.inr (.inl l0), .inl l1, .inl l2, .inr (.inl l3)] [] σ Q = WP m99 132 [.inr (.inl l0), .inl l1, .inl l2, .inr (.inl l3)] [.inr (.inl l0)] σ Q := w_ld d99_131 rfl
theorem d99_132 : adec m99 132 = some (.getfield 74, 3) := by decide +kernel
theorem s99_132 {l0 : Nat} {l1 : Int} {l2 : Int} {l3 : Nat} : WP m99 132 [.inr (.inl l0), .inl l1, .inl l2, .inr (.inl l3)] [.inr (.inl 0)] σ Q = WP m99 135 [.inr (.inl l0), .inl l1, .inl l2, .inr (.inl l3)] [.inr (.inl 98)] σ Q := (w_getR (c := 9) (n := 10) d99_132 (by decide +kernel) (by decide +kernel)).trans (g_and ⟨isO_dec (by decide +kernel), by decide +kernel⟩)
theorem d99_135 : adec m99 135 = some (.invokevirtual 182, 3) := by decide +kernel
theorem s99_135 {l0 : Nat} {l1 : Int} {l2 : Int} {l3 : Nat} : WP m99 135 [.inr (.inl l0), .inl l1, .inl l2, .inr (.inl l3)] [.inr (.inl 98)] σ Q = CA m44 [.inr (.inl 98)] σ (fun v σ2 => WP m99 138 [.inr (.inl l0), .inl l1, .inl l2, .inr (.inl l3)] (v ++ []) σ2 Q) := (w_cV (k := 44) d99_135 (by decide +kernel) m44_at rfl rfl ⟨Nat.le_of_ble_eq_true rfl, Nat.le_of_ble_eq_true rfl, Nat.le_of_ble_eq_true rfl⟩ (by decide)).trans (g_and (isO_dec (by decide +kernel)))
theorem d99_138 : adec m99 138 = some (.invokevirtual 90, 3) := by decide +kernel
theorem s99_138 {l0 : Nat} {l1 : Int} {l2 : Int} {l3 : Nat} {x0 : Nat} : WP m99 138 [.inr (.inl l0), .inl l1, .inl l2, .inr (.inl l3)] [.inr (.inl x0)] σ Q = (isO x0 3 ∧ CA m28 [.inr (.inl x0)] σ (fun v σ2 => WP m99 141 [.inr (.inl l0), .inl l1, .inl l2, .inr (.inl l3)] (v ++ []) σ2 Q)) := w_cV (k := 28) d99_138 (by decide +kernel) m28_at rfl rfl ⟨Nat.le_of_ble_eq_true rfl, Nat.le_of_ble_eq_true rfl, Nat.le_of_ble_eq_true rfl⟩ (by decide)
theorem d99_141 : adec m99 141 = some (.ireturn, 1) := by decide +kernel
theorem s99_141 {l0 : Nat} {l1 : Int} {l2 : Int} {l3 : Nat} {x0 : Int} : WP m99 141 [.inr (.inl l0), .inl l1, .inl l2, .inr (.inl l3)] [.inl x0] σ Q = Q [.inl x0] σ := w_ri d99_141 rfl
theorem d99_142 : adec m99 142 = some (.aload_n 0, 1) := by decide +kernel
theorem s99_142 {l0 : Nat} {l1 : Int} {l2 : Int} {l3 : Nat} : WP m99 142 [.inr (.inl l0), .inl l1, .inl l2, .inr (.inl l3)] [] σ Q = WP m99 143 [.inr (.inl l0), .inl l1, .inl l2, .inr (.inl l3)] [.inr (.inl l0)] σ Q := w_ld d99_142 rfl
theorem d99_143 : adec m99 143 = some (.getfield 53, 3) := by decide +kernel
theorem s99_143 {l0 : Nat} {l1 : Int} {l2 : Int} {l3 : Nat} : WP m99 143 [.inr (.inl l0), .inl l1, .inl l2, .inr (.inl l3)] [.inr (.inl 0)] σ Q = WP m99 146 [.inr (.inl l0), .inl l1, .inl l2, .inr (.inl l3)] [.inr (.inl 60)] σ Q := (w_getR (c := 9) (n := 7) d99_143 (by decide +kernel) (by decide +kernel)).trans (g_and ⟨isO_dec (by decide +kernel), by decide +kernel⟩)
theorem d99_146 : adec m99 146 = some (.aload_n 3, 1) := by decide +kernel
theorem s99_146 {l0 : Nat} {l1 : Int} {l2 : Int} {l3 : Nat} {x0 : Nat} : WP m99 146 [.inr (.inl l0), .inl l1, .inl l2, .inr (.inl l3)] [.inr (.inl x0)] σ Q = WP m99 147 [.inr (.inl l0), .inl l1, .inl l2, .inr (.inl l3)] [.inr (.inl l3), .inr (.inl x0)] σ Q := w_ld d99_146 rfl
theorem d99_147 : adec m99 147 = some (.invokevirtual 185, 3) := by decide +kernel
theorem s99_147 {l0 : Nat} {l1 : Int} {l2 : Int} {l3 : Nat} {x0 : Nat} {x1 : Nat} : WP m99 147 [.inr (.inl l0), .inl l1, .inl l2, .inr (.inl l3)] [.inr (.inl x1), .inr (.inl x0)] σ Q = (isO x0 6 ∧ CA m71 [.inr (.inl x0), .inr (.inl x1)] σ (fun v σ2 => WP m99 150 [.inr (.inl l0), .inl l1, .inl l2, .inr (.inl l3)] (v ++ []) σ2 Q)) := w_cV (k := 71) d99_147 (by decide +kernel) m71_at rfl rfl ⟨Nat.le_of_ble_eq_true rfl, Nat.le_of_ble_eq_true rfl, Nat.le_of_ble_eq_true rfl⟩ (by decide)
theorem d99_150 : adec m99 150 = some (.ireturn, 1) := by decide +kernel
theorem s99_150 {l0 : Nat} {l1 : Int} {l2 : Int} {l3 : Nat} {x0 : Int} : WP m99 150 [.inr (.inl l0), .inl l1, .inl l2, .inr (.inl l3)] [.inl x0] σ Q = Q [.inl x0] σ := w_ri d99_150 rfl
theorem d99_151 : adec m99 151 = some (.aload_n 0, 1) := by decide +kernel
theorem s99_151 {l0 : Nat} {l1 : Int} {l2 : Int} {l3 : Nat} : WP m99 151 [.inr (.inl l0), .inl l1, .inl l2, .inr (.inl l3)] [] σ Q = WP m99 152 [.inr (.inl l0), .inl l1, .inl l2, .inr (.inl l3)] [.inr (.inl l0)] σ Q := w_ld d99_151 rfl
theorem d99_152 : adec m99 152 = some (.getfield 81, 3) := by decide +kernel
theorem s99_152 {l0 : Nat} {l1 : Int} {l2 : Int} {l3 : Nat} : WP m99 152 [.inr (.inl l0), .inl l1, .inl l2, .inr (.inl l3)] [.inr (.inl 0)] σ Q = WP m99 155 [.inr (.inl l0), .inl l1, .inl l2, .inr (.inl l3)] [.inr (.inl 108)] σ Q := (w_getR (c := 9) (n := 11) d99_152 (by decide +kernel) (by decide +kernel)).trans (g_and ⟨isO_dec (by decide +kernel), by decide +kernel⟩)
theorem d99_155 : adec m99 155 = some (.aload_n 3, 1) := by decide +kernel
theorem s99_155 {l0 : Nat} {l1 : Int} {l2 : Int} {l3 : Nat} {x0 : Nat} : WP m99 155 [.inr (.inl l0), .inl l1, .inl l2, .inr (.inl l3)] [.inr (.inl x0)] σ Q = WP m99 156 [.inr (.inl l0), .inl l1, .inl l2, .inr (.inl l3)] [.inr (.inl l3), .inr (.inl x0)] σ Q := w_ld d99_155 rfl
theorem d99_156 : adec m99 156 = some (.invokevirtual 188, 3) := by decide +kernel
theorem s99_156 {l0 : Nat} {l1 : Int} {l2 : Int} {l3 : Nat} {x1 : Nat} : WP m99 156 [.inr (.inl l0), .inl l1, .inl l2, .inr (.inl l3)] [.inr (.inl x1), .inr (.inl 108)] σ Q = CA m50 [.inr (.inl 108), .inr (.inl x1)] σ (fun v σ2 => WP m99 159 [.inr (.inl l0), .inl l1, .inl l2, .inr (.inl l3)] (v ++ []) σ2 Q) := (w_cV (k := 50) d99_156 (by decide +kernel) m50_at rfl rfl ⟨Nat.le_of_ble_eq_true rfl, Nat.le_of_ble_eq_true rfl, Nat.le_of_ble_eq_true rfl⟩ (by decide)).trans (g_and (isO_dec (by decide +kernel)))
theorem d99_159 : adec m99 159 = some (.ifCond .eq (7), 3) := by decide +kernel
theorem s99_159 {l0 : Nat} {l1 : Int} {l2 : Int} {l3 : Nat} {x0 : Int} : WP m99 159 [.inr (.inl l0), .inl l1, .inl l2, .inr (.inl l3)] [.inl x0] σ Q = (if x0 = 0 then WP m99 166 [.inr (.inl l0), .inl l1, .inl l2, .inr (.inl l3)] [] σ Q else WP m99 162 [.inr (.inl l0), .inl l1, .inl l2, .inr (.inl l3)] [] σ Q) := w_ifeq d99_159 (by decide)
theorem d99_162 : adec m99 162 = some (.iconst (1), 1) := by decide +kernel
theorem s99_162 {l0 : Nat} {l1 : Int} {l2 : Int} {l3 : Nat} : WP m99 162 [.inr (.inl l0), .inl l1, .inl l2, .inr (.inl l3)] [] σ Q = WP m99 163 [.inr (.inl l0), .inl l1, .inl l2, .inr (.inl l3)] [.inl (1)] σ Q := w_iconst d99_162 (by decide)
theorem d99_163 : adec m99 163 = some (.goto (4), 3) := by decide +kernel
theorem s99_163 {l0 : Nat} {l1 : Int} {l2 : Int} {l3 : Nat} {x0 : Int} : WP m99 163 [.inr (.inl l0), .inl l1, .inl l2, .inr (.inl l3)] [.inl x0] σ Q = WP m99 167 [.inr (.inl l0), .inl l1, .inl l2, .inr (.inl l3)] [.inl x0] σ Q := w_goto d99_163 (by decide)
theorem d99_166 : adec m99 166 = some (.iconst (0), 1) := by decide +kernel
theorem s99_166 {l0 : Nat} {l1 : Int} {l2 : Int} {l3 : Nat} : WP m99 166 [.inr (.inl l0), .inl l1, .inl l2, .inr (.inl l3)] [] σ Q = WP m99 167 [.inr (.inl l0), .inl l1, .inl l2, .inr (.inl l3)] [.inl (0)] σ Q := w_iconst d99_166 (by decide)
theorem d99_167 : adec m99 167 = some (.ireturn, 1) := by decide +kernel
theorem s99_167 {l0 : Nat} {l1 : Int} {l2 : Int} {l3 : Nat} {x0 : Int} : WP m99 167 [.inr (.inl l0), .inl l1, .inl l2, .inr (.inl l3)] [.inl x0] σ Q = Q [.inl x0] σ := w_ri d99_167 rfl
theorem d99_168 : adec m99 168 = some (.aload_n 0, 1) := by decide +kernel
theorem s99_168 {l0 : Nat} {l1 : Int} {l2 : Int} {l3 : Nat} : WP m99 168 [.inr (.inl l0), .inl l1, .inl l2, .inr (.inl l3)] [] σ Q = WP m99 169 [.inr (.inl l0), .inl l1, .inl l2, .inr (.inl l3)] [.inr (.inl l0)] σ Q := w_ld d99_168 rfl
theorem d99_169 : adec m99 169 = some (.getfield 81, 3) := by decide +kernel
theorem s99_169 {l0 : Nat} {l1 : Int} {l2 : Int} {l3 : Nat} : WP m99 169 [.inr (.inl l0), .inl l1, .inl l2, .inr (.inl l3)] [.inr (.inl 0)] σ Q = WP m99 172 [.inr (.inl l0), .inl l1, .inl l2, .inr (.inl l3)] [.inr (.inl 108)] σ Q := (w_getR (c := 9) (n := 11) d99_169 (by decide +kernel) (by decide +kernel)).trans (g_and ⟨isO_dec (by decide +kernel), by decide +kernel⟩)
theorem d99_172 : adec m99 172 = some (.aload_n 3, 1) := by decide +kernel
theorem s99_172 {l0 : Nat} {l1 : Int} {l2 : Int} {l3 : Nat} {x0 : Nat} : WP m99 172 [.inr (.inl l0), .inl l1, .inl l2, .inr (.inl l3)] [.inr (.inl x0)] σ Q = WP m99 173 [.inr (.inl l0), .inl l1, .inl l2, .inr (.inl l3)] [.inr (.inl l3), .inr (.inl x0)] σ Q := w_ld d99_172 rfl
theorem d99_173 : adec m99 173 = some (.invokevirtual 192, 3) := by decide +kernel
theorem s99_173 {l0 : Nat} {l1 : Int} {l2 : Int} {l3 : Nat} {x1 : Nat} : WP m99 173 [.inr (.inl l0), .inl l1, .inl l2, .inr (.inl l3)] [.inr (.inl x1), .inr (.inl 108)] σ Q = CA m51 [.inr (.inl 108), .inr (.inl x1)] σ (fun v σ2 => WP m99 176 [.inr (.inl l0), .inl l1, .inl l2, .inr (.inl l3)] (v ++ []) σ2 Q) := (w_cV (k := 51) d99_173 (by decide +kernel) m51_at rfl rfl ⟨Nat.le_of_ble_eq_true rfl, Nat.le_of_ble_eq_true rfl, Nat.le_of_ble_eq_true rfl⟩ (by decide)).trans (g_and (isO_dec (by decide +kernel)))
theorem d99_176 : adec m99 176 = some (.ifCond .eq (16), 3) := by decide +kernel
theorem s99_176 {l0 : Nat} {l1 : Int} {l2 : Int} {l3 : Nat} {x0 : Int} : WP m99 176 [.inr (.inl l0), .inl l1, .inl l2, .inr (.inl l3)] [.inl x0] σ Q = (if x0 = 0 then WP m99 192 [.inr (.inl l0), .inl l1, .inl l2, .inr (.inl l3)] [] σ Q else WP m99 179 [.inr (.inl l0), .inl l1, .inl l2, .inr (.inl l3)] [] σ Q) := w_ifeq d99_176 (by decide)
theorem d99_179 : adec m99 179 = some (.aload_n 0, 1) := by decide +kernel
theorem s99_179 {l0 : Nat} {l1 : Int} {l2 : Int} {l3 : Nat} : WP m99 179 [.inr (.inl l0), .inl l1, .inl l2, .inr (.inl l3)] [] σ Q = WP m99 180 [.inr (.inl l0), .inl l1, .inl l2, .inr (.inl l3)] [.inr (.inl l0)] σ Q := w_ld d99_179 rfl
theorem d99_180 : adec m99 180 = some (.getfield 81, 3) := by decide +kernel
theorem s99_180 {l0 : Nat} {l1 : Int} {l2 : Int} {l3 : Nat} : WP m99 180 [.inr (.inl l0), .inl l1, .inl l2, .inr (.inl l3)] [.inr (.inl 0)] σ Q = WP m99 183 [.inr (.inl l0), .inl l1, .inl l2, .inr (.inl l3)] [.inr (.inl 108)] σ Q := (w_getR (c := 9) (n := 11) d99_180 (by decide +kernel) (by decide +kernel)).trans (g_and ⟨isO_dec (by decide +kernel), by decide +kernel⟩)
theorem d99_183 : adec m99 183 = some (.invokevirtual 194, 3) := by decide +kernel
theorem s99_183 {l0 : Nat} {l1 : Int} {l2 : Int} {l3 : Nat} : WP m99 183 [.inr (.inl l0), .inl l1, .inl l2, .inr (.inl l3)] [.inr (.inl 108)] σ Q = CA m49 [.inr (.inl 108)] σ (fun v σ2 => WP m99 186 [.inr (.inl l0), .inl l1, .inl l2, .inr (.inl l3)] (v ++ []) σ2 Q) := (w_cV (k := 49) d99_183 (by decide +kernel) m49_at rfl rfl ⟨Nat.le_of_ble_eq_true rfl, Nat.le_of_ble_eq_true rfl, Nat.le_of_ble_eq_true rfl⟩ (by decide)).trans (g_and (isO_dec (by decide +kernel)))
theorem d99_186 : adec m99 186 = some (.invokestatic 195, 3) := by decide +kernel
theorem s99_186 {l0 : Nat} {l1 : Int} {l2 : Int} {l3 : Nat} {x0 : Nat} : WP m99 186 [.inr (.inl l0), .inl l1, .inl l2, .inr (.inl l3)] [.inr (.inl x0)] σ Q = CA m120 [.inr (.inl x0)] σ (fun v σ2 => WP m99 189 [.inr (.inl l0), .inl l1, .inl l2, .inr (.inl l3)] (v ++ []) σ2 Q) := w_cS (k := 120) d99_186 (by decide +kernel) (md := 1) (by decide +kernel) m120_at rfl rfl ⟨Nat.le_of_ble_eq_true rfl, Nat.le_of_ble_eq_true rfl, Nat.le_of_ble_eq_true rfl⟩ (by decide)
theorem d99_189 : adec m99 189 = some (.goto (5), 3) := by decide +kernel
theorem s99_189 {l0 : Nat} {l1 : Int} {l2 : Int} {l3 : Nat} {x0 : Int} : WP m99 189 [.inr (.inl l0), .inl l1, .inl l2, .inr (.inl l3)] [.inl x0] σ Q = WP m99 194 [.inr (.inl l0), .inl l1, .inl l2, .inr (.inl l3)] [.inl x0] σ Q := w_goto d99_189 (by decide)
theorem d99_192 : adec m99 192 = some (.ldc 94, 2) := by decide +kernel
theorem s99_192 {l0 : Nat} {l1 : Int} {l2 : Int} {l3 : Nat} : WP m99 192 [.inr (.inl l0), .inl l1, .inl l2, .inr (.inl l3)] [] σ Q = WP m99 194 [.inr (.inl l0), .inl l1, .inl l2, .inr (.inl l3)] [.inl (-1000000004)] σ Q := w_ldc d99_192 (by decide +kernel) (by decide)
theorem d99_194 : adec m99 194 = some (.ireturn, 1) := by decide +kernel
theorem s99_194 {l0 : Nat} {l1 : Int} {l2 : Int} {l3 : Nat} {x0 : Int} : WP m99 194 [.inr (.inl l0), .inl l1, .inl l2, .inr (.inl l3)] [.inl x0] σ Q = Q [.inl x0] σ := w_ri d99_194 rfl
theorem d99_195 : adec m99 195 = some (.aload_n 3, 1) := by decide +kernel
theorem s99_195 {l0 : Nat} {l1 : Int} {l2 : Int} {l3 : Nat} : WP m99 195 [.inr (.inl l0), .inl l1, .inl l2, .inr (.inl l3)] [] σ Q = WP m99 196 [.inr (.inl l0), .inl l1, .inl l2, .inr (.inl l3)] [.inr (.inl l3)] σ Q := w_ld d99_195 rfl
theorem d99_196 : adec m99 196 = some (.iload_n 2, 1) := by decide +kernel
theorem s99_196 {l0 : Nat} {l1 : Int} {l2 : Int} {l3 : Nat} {x0 : Nat} : WP m99 196 [.inr (.inl l0), .inl l1, .inl l2, .inr (.inl l3)] [.inr (.inl x0)] σ Q = WP m99 197 [.inr (.inl l0), .inl l1, .inl l2, .inr (.inl l3)] [.inl l2, .inr (.inl x0)] σ Q := w_ld d99_196 rfl
theorem d99_197 : adec m99 197 = some (.iconst (3), 1) := by decide +kernel
theorem s99_197 {l0 : Nat} {l1 : Int} {l2 : Int} {l3 : Nat} {x0 : Nat} {x1 : Int} : WP m99 197 [.inr (.inl l0), .inl l1, .inl l2, .inr (.inl l3)] [.inl x1, .inr (.inl x0)] σ Q = WP m99 198 [.inr (.inl l0), .inl l1, .inl l2, .inr (.inl l3)] [.inl (3), .inl x1, .inr (.inl x0)] σ Q := w_iconst d99_197 (by decide)
theorem d99_198 : adec m99 198 = some (.isub, 1) := by decide +kernel
theorem s99_198 {l0 : Nat} {l1 : Int} {l2 : Int} {l3 : Nat} {x0 : Nat} {x1 : Int} {x2 : Int} : WP m99 198 [.inr (.inl l0), .inl l1, .inl l2, .inr (.inl l3)] [.inl x2, .inl x1, .inr (.inl x0)] σ Q = (inI (x1 - x2) ∧ WP m99 199 [.inr (.inl l0), .inl l1, .inl l2, .inr (.inl l3)] [.inl (x1 - x2), .inr (.inl x0)] σ Q) := w_isub d99_198
theorem d99_199 : adec m99 199 = some (.invokestatic 198, 3) := by decide +kernel
theorem s99_199 {l0 : Nat} {l1 : Int} {l2 : Int} {l3 : Nat} {x0 : Nat} {x1 : Int} : WP m99 199 [.inr (.inl l0), .inl l1, .inl l2, .inr (.inl l3)] [.inl x1, .inr (.inl x0)] σ Q = WP m99 202 [.inr (.inl l0), .inl l1, .inl l2, .inr (.inl l3)] [.inl (signF x1), .inr (.inl x0)] σ Q := w_cG (k := 124) d99_199 (by decide +kernel) (md := 1) (by decide +kernel) m124_at rfl rfl ⟨Nat.le_of_ble_eq_true rfl, Nat.le_of_ble_eq_true rfl, Nat.le_of_ble_eq_true rfl⟩ rfl
theorem d99_202 : adec m99 202 = some (.invokevirtual 201, 3) := by decide +kernel
theorem s99_202 {l0 : Nat} {l1 : Int} {l2 : Int} {l3 : Nat} {x0 : Nat} {x1 : Int} : WP m99 202 [.inr (.inl l0), .inl l1, .inl l2, .inr (.inl l3)] [.inl x1, .inr (.inl x0)] σ Q = (isO x0 3 ∧ CA m42 [.inr (.inl x0), .inl x1] σ (fun v σ2 => WP m99 205 [.inr (.inl l0), .inl l1, .inl l2, .inr (.inl l3)] (v ++ []) σ2 Q)) := w_cV (k := 42) d99_202 (by decide +kernel) m42_at rfl rfl ⟨Nat.le_of_ble_eq_true rfl, Nat.le_of_ble_eq_true rfl, Nat.le_of_ble_eq_true rfl⟩ (by decide)
theorem d99_205 : adec m99 205 = some (.ireturn, 1) := by decide +kernel
theorem s99_205 {l0 : Nat} {l1 : Int} {l2 : Int} {l3 : Nat} {x0 : Int} : WP m99 205 [.inr (.inl l0), .inl l1, .inl l2, .inr (.inl l3)] [.inl x0] σ Q = Q [.inl x0] σ := w_ri d99_205 rfl
theorem e99 {p0 : Nat} {p1 : Int} {p2 : Int} : CA m99 [.inr (.inl p0), .inl p1, .inl p2] σ Q = WP m99 0 [.inr (.inl p0), .inl p1, .inl p2, vU] [] σ Q := rfl
-- BinderPress.sign(II)I
theorem d100_0 : adec m100 0 = some (.iload_n 1, 1) := by decide +kernel
theorem s100_0 {l0 : Nat} {l1 : Int} {l2 : Int} : WP m100 0 [.inr (.inl l0), .inl l1, .inl l2] [] σ Q = WP m100 1 [.inr (.inl l0), .inl l1, .inl l2] [.inl l1] σ Q := w_ld d100_0 rfl
theorem d100_1 : adec m100 1 = some (.invokestatic 98, 3) := by decide +kernel
theorem s100_1 {l0 : Nat} {l1 : Int} {l2 : Int} {x0 : Int} : WP m100 1 [.inr (.inl l0), .inl l1, .inl l2] [.inl x0] σ Q = CA m113 [.inl x0] σ (fun v σ2 => WP m100 4 [.inr (.inl l0), .inl l1, .inl l2] (v ++ []) σ2 Q) := w_cS (k := 113) d100_1 (by decide +kernel) (md := 1) (by decide +kernel) m113_at rfl rfl ⟨Nat.le_of_ble_eq_true rfl, Nat.le_of_ble_eq_true rfl, Nat.le_of_ble_eq_true rfl⟩ (by decide)
theorem d100_4 : adec m100 4 = some (.ifCond .ne (6), 3) := by decide +kernel
theorem s100_4 {l0 : Nat} {l1 : Int} {l2 : Int} {x0 : Int} : WP m100 4 [.inr (.inl l0), .inl l1, .inl l2] [.inl x0] σ Q = (if x0 = 0 then WP m100 7 [.inr (.inl l0), .inl l1, .inl l2] [] σ Q else WP m100 10 [.inr (.inl l0), .inl l1, .inl l2] [] σ Q) := w_ifne d100_4 (by decide)
theorem d100_7 : adec m100 7 = some (.ldc 102, 2) := by decide +kernel
theorem s100_7 {l0 : Nat} {l1 : Int} {l2 : Int} : WP m100 7 [.inr (.inl l0), .inl l1, .inl l2] [] σ Q = WP m100 9 [.inr (.inl l0), .inl l1, .inl l2] [.inl (-1000000001)] σ Q := w_ldc d100_7 (by decide +kernel) (by decide)
theorem d100_9 : adec m100 9 = some (.ireturn, 1) := by decide +kernel
theorem s100_9 {l0 : Nat} {l1 : Int} {l2 : Int} {x0 : Int} : WP m100 9 [.inr (.inl l0), .inl l1, .inl l2] [.inl x0] σ Q = Q [.inl x0] σ := w_ri d100_9 rfl
theorem d100_10 : adec m100 10 = some (.iload_n 2, 1) := by decide +kernel
theorem s100_10 {l0 : Nat} {l1 : Int} {l2 : Int} : WP m100 10 [.inr (.inl l0), .inl l1, .inl l2] [] σ Q = WP m100 11 [.inr (.inl l0), .inl l1, .inl l2] [.inl l2] σ Q := w_ld d100_10 rfl
theorem d100_11 : adec m100 11 = some (.ifCond .ge (6), 3) := by decide +kernel
theorem s100_11 {l0 : Nat} {l1 : Int} {l2 : Int} {x0 : Int} : WP m100 11 [.inr (.inl l0), .inl l1, .inl l2] [.inl x0] σ Q = (if 0 ≤ x0 then WP m100 17 [.inr (.inl l0), .inl l1, .inl l2] [] σ Q else WP m100 14 [.inr (.inl l0), .inl l1, .inl l2] [] σ Q) := w_ifge d100_11 (by decide)
theorem d100_14 : adec m100 14 = some (.ldc 89, 2) := by decide +kernel
theorem s100_14 {l0 : Nat} {l1 : Int} {l2 : Int} : WP m100 14 [.inr (.inl l0), .inl l1, .inl l2] [] σ Q = WP m100 16 [.inr (.inl l0), .inl l1, .inl l2] [.inl (-1000000002)] σ Q := w_ldc d100_14 (by decide +kernel) (by decide)
theorem d100_16 : adec m100 16 = some (.ireturn, 1) := by decide +kernel
theorem s100_16 {l0 : Nat} {l1 : Int} {l2 : Int} {x0 : Int} : WP m100 16 [.inr (.inl l0), .inl l1, .inl l2] [.inl x0] σ Q = Q [.inl x0] σ := w_ri d100_16 rfl
theorem d100_17 : adec m100 17 = some (.aload_n 0, 1) := by decide +kernel
theorem s100_17 {l0 : Nat} {l1 : Int} {l2 : Int} : WP m100 17 [.inr (.inl l0), .inl l1, .inl l2] [] σ Q = WP m100 18 [.inr (.inl l0), .inl l1, .inl l2] [.inr (.inl l0)] σ Q := w_ld d100_17 rfl
theorem d100_18 : adec m100 18 = some (.iload_n 1, 1) := by decide +kernel
theorem s100_18 {l0 : Nat} {l1 : Int} {l2 : Int} {x0 : Nat} : WP m100 18 [.inr (.inl l0), .inl l1, .inl l2] [.inr (.inl x0)] σ Q = WP m100 19 [.inr (.inl l0), .inl l1, .inl l2] [.inl l1, .inr (.inl x0)] σ Q := w_ld d100_18 rfl
theorem d100_19 : adec m100 19 = some (.invokevirtual 117, 3) := by decide +kernel
theorem s100_19 {l0 : Nat} {l1 : Int} {l2 : Int} {x1 : Int} : WP m100 19 [.inr (.inl l0), .inl l1, .inl l2] [.inl x1, .inr (.inl 0)] σ Q = CA m111 [.inr (.inl 0), .inl x1] σ (fun v σ2 => WP m100 22 [.inr (.inl l0), .inl l1, .inl l2] (v ++ []) σ2 Q) := (w_cV (k := 111) d100_19 (by decide +kernel) m111_at rfl rfl ⟨Nat.le_of_ble_eq_true rfl, Nat.le_of_ble_eq_true rfl, Nat.le_of_ble_eq_true rfl⟩ (by decide)).trans (g_and (isO_dec (by decide +kernel)))
theorem d100_22 : adec m100 22 = some (.ifCond .eq (6), 3) := by decide +kernel
theorem s100_22 {l0 : Nat} {l1 : Int} {l2 : Int} {x0 : Int} : WP m100 22 [.inr (.inl l0), .inl l1, .inl l2] [.inl x0] σ Q = (if x0 = 0 then WP m100 28 [.inr (.inl l0), .inl l1, .inl l2] [] σ Q else WP m100 25 [.inr (.inl l0), .inl l1, .inl l2] [] σ Q) := w_ifeq d100_22 (by decide)
theorem d100_25 : adec m100 25 = some (.ldc 120, 2) := by decide +kernel
theorem s100_25 {l0 : Nat} {l1 : Int} {l2 : Int} : WP m100 25 [.inr (.inl l0), .inl l1, .inl l2] [] σ Q = WP m100 27 [.inr (.inl l0), .inl l1, .inl l2] [.inl (-1000000003)] σ Q := w_ldc d100_25 (by decide +kernel) (by decide)
theorem d100_27 : adec m100 27 = some (.ireturn, 1) := by decide +kernel
theorem s100_27 {l0 : Nat} {l1 : Int} {l2 : Int} {x0 : Int} : WP m100 27 [.inr (.inl l0), .inl l1, .inl l2] [.inl x0] σ Q = Q [.inl x0] σ := w_ri d100_27 rfl
theorem d100_28 : adec m100 28 = some (.aload_n 0, 1) := by decide +kernel
theorem s100_28 {l0 : Nat} {l1 : Int} {l2 : Int} : WP m100 28 [.inr (.inl l0), .inl l1, .inl l2] [] σ Q = WP m100 29 [.inr (.inl l0), .inl l1, .inl l2] [.inr (.inl l0)] σ Q := w_ld d100_28 rfl
theorem d100_29 : adec m100 29 = some (.getfield 74, 3) := by decide +kernel
theorem s100_29 {l0 : Nat} {l1 : Int} {l2 : Int} : WP m100 29 [.inr (.inl l0), .inl l1, .inl l2] [.inr (.inl 0)] σ Q = WP m100 32 [.inr (.inl l0), .inl l1, .inl l2] [.inr (.inl 98)] σ Q := (w_getR (c := 9) (n := 10) d100_29 (by decide +kernel) (by decide +kernel)).trans (g_and ⟨isO_dec (by decide +kernel), by decide +kernel⟩)
theorem d100_32 : adec m100 32 = some (.aload_n 0, 1) := by decide +kernel
theorem s100_32 {l0 : Nat} {l1 : Int} {l2 : Int} {x0 : Nat} : WP m100 32 [.inr (.inl l0), .inl l1, .inl l2] [.inr (.inl x0)] σ Q = WP m100 33 [.inr (.inl l0), .inl l1, .inl l2] [.inr (.inl l0), .inr (.inl x0)] σ Q := w_ld d100_32 rfl
theorem d100_33 : adec m100 33 = some (.getfield 22, 3) := by decide +kernel
theorem s100_33 {l0 : Nat} {l1 : Int} {l2 : Int} {x0 : Nat} : WP m100 33 [.inr (.inl l0), .inl l1, .inl l2] [.inr (.inl 0), .inr (.inl x0)] σ Q = WP m100 36 [.inr (.inl l0), .inl l1, .inl l2] [.inr (.inl 3), .inr (.inl x0)] σ Q := (w_getR (c := 9) (n := 1) d100_33 (by decide +kernel) (by decide +kernel)).trans (g_and ⟨isO_dec (by decide +kernel), by decide +kernel⟩)
theorem d100_36 : adec m100 36 = some (.iload_n 1, 1) := by decide +kernel
theorem s100_36 {l0 : Nat} {l1 : Int} {l2 : Int} {x0 : Nat} {x1 : Nat} : WP m100 36 [.inr (.inl l0), .inl l1, .inl l2] [.inr (.inl x1), .inr (.inl x0)] σ Q = WP m100 37 [.inr (.inl l0), .inl l1, .inl l2] [.inl l1, .inr (.inl x1), .inr (.inl x0)] σ Q := w_ld d100_36 rfl
theorem d100_37 : adec m100 37 = some (.aaload, 1) := by decide +kernel
theorem s100_37 {l0 : Nat} {l1 : Int} {l2 : Int} {x0 : Nat} {x1 : Nat} {x2 : Int} (h31 : x1 ≠ 31) : WP m100 37 [.inr (.inl l0), .inl l1, .inl l2] [.inl x2, .inr (.inl x1), .inr (.inl x0)] σ Q = ((kdS x1 = 22 ∧ 0 ≤ x2 ∧ x2 < ln x1 ∧ 0 ≤ PT x1 x2.toNat) ∧ WP m100 38 [.inr (.inl l0), .inl l1, .inl l2] [.inr (.inl (pt x1 x2.toNat)), .inr (.inl x0)] σ Q) := w_aald d100_37 h31
theorem d100_38 : adec m100 38 = some (.invokevirtual 179, 3) := by decide +kernel
theorem s100_38 {l0 : Nat} {l1 : Int} {l2 : Int} {x1 : Nat} : WP m100 38 [.inr (.inl l0), .inl l1, .inl l2] [.inr (.inl x1), .inr (.inl 98)] σ Q = CA m45 [.inr (.inl 98), .inr (.inl x1)] σ (fun v σ2 => WP m100 41 [.inr (.inl l0), .inl l1, .inl l2] (v ++ []) σ2 Q) := (w_cV (k := 45) d100_38 (by decide +kernel) m45_at rfl rfl ⟨Nat.le_of_ble_eq_true rfl, Nat.le_of_ble_eq_true rfl, Nat.le_of_ble_eq_true rfl⟩ (by decide)).trans (g_and (isO_dec (by decide +kernel)))
theorem d100_41 : adec m100 41 = some (.aload_n 0, 1) := by decide +kernel
theorem s100_41 {l0 : Nat} {l1 : Int} {l2 : Int} : WP m100 41 [.inr (.inl l0), .inl l1, .inl l2] [] σ Q = WP m100 42 [.inr (.inl l0), .inl l1, .inl l2] [.inr (.inl l0)] σ Q := w_ld d100_41 rfl
theorem d100_42 : adec m100 42 = some (.getfield 74, 3) := by decide +kernel
theorem s100_42 {l0 : Nat} {l1 : Int} {l2 : Int} : WP m100 42 [.inr (.inl l0), .inl l1, .inl l2] [.inr (.inl 0)] σ Q = WP m100 45 [.inr (.inl l0), .inl l1, .inl l2] [.inr (.inl 98)] σ Q := (w_getR (c := 9) (n := 10) d100_42 (by decide +kernel) (by decide +kernel)).trans (g_and ⟨isO_dec (by decide +kernel), by decide +kernel⟩)
theorem d100_45 : adec m100 45 = some (.invokevirtual 182, 3) := by decide +kernel
theorem s100_45 {l0 : Nat} {l1 : Int} {l2 : Int} : WP m100 45 [.inr (.inl l0), .inl l1, .inl l2] [.inr (.inl 98)] σ Q = CA m44 [.inr (.inl 98)] σ (fun v σ2 => WP m100 48 [.inr (.inl l0), .inl l1, .inl l2] (v ++ []) σ2 Q) := (w_cV (k := 44) d100_45 (by decide +kernel) m44_at rfl rfl ⟨Nat.le_of_ble_eq_true rfl, Nat.le_of_ble_eq_true rfl, Nat.le_of_ble_eq_true rfl⟩ (by decide)).trans (g_and (isO_dec (by decide +kernel)))
theorem d100_48 : adec m100 48 = some (.iload_n 2, 1) := by decide +kernel
theorem s100_48 {l0 : Nat} {l1 : Int} {l2 : Int} {x0 : Nat} : WP m100 48 [.inr (.inl l0), .inl l1, .inl l2] [.inr (.inl x0)] σ Q = WP m100 49 [.inr (.inl l0), .inl l1, .inl l2] [.inl l2, .inr (.inl x0)] σ Q := w_ld d100_48 rfl
theorem d100_49 : adec m100 49 = some (.iconst (-1), 1) := by decide +kernel
theorem s100_49 {l0 : Nat} {l1 : Int} {l2 : Int} {x0 : Nat} {x1 : Int} : WP m100 49 [.inr (.inl l0), .inl l1, .inl l2] [.inl x1, .inr (.inl x0)] σ Q = WP m100 50 [.inr (.inl l0), .inl l1, .inl l2] [.inl (-1), .inl x1, .inr (.inl x0)] σ Q := w_iconst d100_49 (by decide)
theorem d100_50 : adec m100 50 = some (.invokevirtual 204, 3) := by decide +kernel
theorem s100_50 {l0 : Nat} {l1 : Int} {l2 : Int} {x0 : Nat} {x1 : Int} {x2 : Int} : WP m100 50 [.inr (.inl l0), .inl l1, .inl l2] [.inl x2, .inl x1, .inr (.inl x0)] σ Q = (isO x0 3 ∧ CA m31 [.inr (.inl x0), .inl x1, .inl x2] σ (fun v σ2 => WP m100 53 [.inr (.inl l0), .inl l1, .inl l2] (v ++ []) σ2 Q)) := w_cV (k := 31) d100_50 (by decide +kernel) m31_at rfl rfl ⟨Nat.le_of_ble_eq_true rfl, Nat.le_of_ble_eq_true rfl, Nat.le_of_ble_eq_true rfl⟩ (by decide)
theorem d100_53 : adec m100 53 = some (.ireturn, 1) := by decide +kernel
theorem s100_53 {l0 : Nat} {l1 : Int} {l2 : Int} {x0 : Int} : WP m100 53 [.inr (.inl l0), .inl l1, .inl l2] [.inl x0] σ Q = Q [.inl x0] σ := w_ri d100_53 rfl
theorem e100 {p0 : Nat} {p1 : Int} {p2 : Int} : CA m100 [.inr (.inl p0), .inl p1, .inl p2] σ Q = WP m100 0 [.inr (.inl p0), .inl p1, .inl p2] [] σ Q := rfl
-- BinderPress.kind(II)I
theorem d101_0 : adec m101 0 = some (.iload_n 1, 1) := by decide +kernel
theorem s101_0 {l0 : Nat} {l1 : Int} {l2 : Int} : WP m101 0 [.inr (.inl l0), .inl l1, .inl l2] [] σ Q = WP m101 1 [.inr (.inl l0), .inl l1, .inl l2] [.inl l1] σ Q := w_ld d101_0 rfl
theorem d101_1 : adec m101 1 = some (.invokestatic 98, 3) := by decide +kernel
theorem s101_1 {l0 : Nat} {l1 : Int} {l2 : Int} {x0 : Int} : WP m101 1 [.inr (.inl l0), .inl l1, .inl l2] [.inl x0] σ Q = CA m113 [.inl x0] σ (fun v σ2 => WP m101 4 [.inr (.inl l0), .inl l1, .inl l2] (v ++ []) σ2 Q) := w_cS (k := 113) d101_1 (by decide +kernel) (md := 1) (by decide +kernel) m113_at rfl rfl ⟨Nat.le_of_ble_eq_true rfl, Nat.le_of_ble_eq_true rfl, Nat.le_of_ble_eq_true rfl⟩ (by decide)
theorem d101_4 : adec m101 4 = some (.ifCond .ne (6), 3) := by decide +kernel
theorem s101_4 {l0 : Nat} {l1 : Int} {l2 : Int} {x0 : Int} : WP m101 4 [.inr (.inl l0), .inl l1, .inl l2] [.inl x0] σ Q = (if x0 = 0 then WP m101 7 [.inr (.inl l0), .inl l1, .inl l2] [] σ Q else WP m101 10 [.inr (.inl l0), .inl l1, .inl l2] [] σ Q) := w_ifne d101_4 (by decide)
theorem d101_7 : adec m101 7 = some (.ldc 102, 2) := by decide +kernel
theorem s101_7 {l0 : Nat} {l1 : Int} {l2 : Int} : WP m101 7 [.inr (.inl l0), .inl l1, .inl l2] [] σ Q = WP m101 9 [.inr (.inl l0), .inl l1, .inl l2] [.inl (-1000000001)] σ Q := w_ldc d101_7 (by decide +kernel) (by decide)
theorem d101_9 : adec m101 9 = some (.ireturn, 1) := by decide +kernel
theorem s101_9 {l0 : Nat} {l1 : Int} {l2 : Int} {x0 : Int} : WP m101 9 [.inr (.inl l0), .inl l1, .inl l2] [.inl x0] σ Q = Q [.inl x0] σ := w_ri d101_9 rfl
theorem d101_10 : adec m101 10 = some (.iload_n 2, 1) := by decide +kernel
theorem s101_10 {l0 : Nat} {l1 : Int} {l2 : Int} : WP m101 10 [.inr (.inl l0), .inl l1, .inl l2] [] σ Q = WP m101 11 [.inr (.inl l0), .inl l1, .inl l2] [.inl l2] σ Q := w_ld d101_10 rfl
theorem d101_11 : adec m101 11 = some (.ifCond .ge (6), 3) := by decide +kernel
theorem s101_11 {l0 : Nat} {l1 : Int} {l2 : Int} {x0 : Int} : WP m101 11 [.inr (.inl l0), .inl l1, .inl l2] [.inl x0] σ Q = (if 0 ≤ x0 then WP m101 17 [.inr (.inl l0), .inl l1, .inl l2] [] σ Q else WP m101 14 [.inr (.inl l0), .inl l1, .inl l2] [] σ Q) := w_ifge d101_11 (by decide)
theorem d101_14 : adec m101 14 = some (.ldc 89, 2) := by decide +kernel
theorem s101_14 {l0 : Nat} {l1 : Int} {l2 : Int} : WP m101 14 [.inr (.inl l0), .inl l1, .inl l2] [] σ Q = WP m101 16 [.inr (.inl l0), .inl l1, .inl l2] [.inl (-1000000002)] σ Q := w_ldc d101_14 (by decide +kernel) (by decide)
theorem d101_16 : adec m101 16 = some (.ireturn, 1) := by decide +kernel
theorem s101_16 {l0 : Nat} {l1 : Int} {l2 : Int} {x0 : Int} : WP m101 16 [.inr (.inl l0), .inl l1, .inl l2] [.inl x0] σ Q = Q [.inl x0] σ := w_ri d101_16 rfl
theorem d101_17 : adec m101 17 = some (.aload_n 0, 1) := by decide +kernel
theorem s101_17 {l0 : Nat} {l1 : Int} {l2 : Int} : WP m101 17 [.inr (.inl l0), .inl l1, .inl l2] [] σ Q = WP m101 18 [.inr (.inl l0), .inl l1, .inl l2] [.inr (.inl l0)] σ Q := w_ld d101_17 rfl
theorem d101_18 : adec m101 18 = some (.iload_n 1, 1) := by decide +kernel
theorem s101_18 {l0 : Nat} {l1 : Int} {l2 : Int} {x0 : Nat} : WP m101 18 [.inr (.inl l0), .inl l1, .inl l2] [.inr (.inl x0)] σ Q = WP m101 19 [.inr (.inl l0), .inl l1, .inl l2] [.inl l1, .inr (.inl x0)] σ Q := w_ld d101_18 rfl
theorem d101_19 : adec m101 19 = some (.invokevirtual 117, 3) := by decide +kernel
theorem s101_19 {l0 : Nat} {l1 : Int} {l2 : Int} {x1 : Int} : WP m101 19 [.inr (.inl l0), .inl l1, .inl l2] [.inl x1, .inr (.inl 0)] σ Q = CA m111 [.inr (.inl 0), .inl x1] σ (fun v σ2 => WP m101 22 [.inr (.inl l0), .inl l1, .inl l2] (v ++ []) σ2 Q) := (w_cV (k := 111) d101_19 (by decide +kernel) m111_at rfl rfl ⟨Nat.le_of_ble_eq_true rfl, Nat.le_of_ble_eq_true rfl, Nat.le_of_ble_eq_true rfl⟩ (by decide)).trans (g_and (isO_dec (by decide +kernel)))
theorem d101_22 : adec m101 22 = some (.ifCond .eq (6), 3) := by decide +kernel
theorem s101_22 {l0 : Nat} {l1 : Int} {l2 : Int} {x0 : Int} : WP m101 22 [.inr (.inl l0), .inl l1, .inl l2] [.inl x0] σ Q = (if x0 = 0 then WP m101 28 [.inr (.inl l0), .inl l1, .inl l2] [] σ Q else WP m101 25 [.inr (.inl l0), .inl l1, .inl l2] [] σ Q) := w_ifeq d101_22 (by decide)
theorem d101_25 : adec m101 25 = some (.ldc 120, 2) := by decide +kernel
theorem s101_25 {l0 : Nat} {l1 : Int} {l2 : Int} : WP m101 25 [.inr (.inl l0), .inl l1, .inl l2] [] σ Q = WP m101 27 [.inr (.inl l0), .inl l1, .inl l2] [.inl (-1000000003)] σ Q := w_ldc d101_25 (by decide +kernel) (by decide)
theorem d101_27 : adec m101 27 = some (.ireturn, 1) := by decide +kernel
theorem s101_27 {l0 : Nat} {l1 : Int} {l2 : Int} {x0 : Int} : WP m101 27 [.inr (.inl l0), .inl l1, .inl l2] [.inl x0] σ Q = Q [.inl x0] σ := w_ri d101_27 rfl
theorem d101_28 : adec m101 28 = some (.aload_n 0, 1) := by decide +kernel
theorem s101_28 {l0 : Nat} {l1 : Int} {l2 : Int} : WP m101 28 [.inr (.inl l0), .inl l1, .inl l2] [] σ Q = WP m101 29 [.inr (.inl l0), .inl l1, .inl l2] [.inr (.inl l0)] σ Q := w_ld d101_28 rfl
theorem d101_29 : adec m101 29 = some (.getfield 81, 3) := by decide +kernel
theorem s101_29 {l0 : Nat} {l1 : Int} {l2 : Int} : WP m101 29 [.inr (.inl l0), .inl l1, .inl l2] [.inr (.inl 0)] σ Q = WP m101 32 [.inr (.inl l0), .inl l1, .inl l2] [.inr (.inl 108)] σ Q := (w_getR (c := 9) (n := 11) d101_29 (by decide +kernel) (by decide +kernel)).trans (g_and ⟨isO_dec (by decide +kernel), by decide +kernel⟩)
theorem d101_32 : adec m101 32 = some (.aload_n 0, 1) := by decide +kernel
theorem s101_32 {l0 : Nat} {l1 : Int} {l2 : Int} {x0 : Nat} : WP m101 32 [.inr (.inl l0), .inl l1, .inl l2] [.inr (.inl x0)] σ Q = WP m101 33 [.inr (.inl l0), .inl l1, .inl l2] [.inr (.inl l0), .inr (.inl x0)] σ Q := w_ld d101_32 rfl
theorem d101_33 : adec m101 33 = some (.getfield 22, 3) := by decide +kernel
theorem s101_33 {l0 : Nat} {l1 : Int} {l2 : Int} {x0 : Nat} : WP m101 33 [.inr (.inl l0), .inl l1, .inl l2] [.inr (.inl 0), .inr (.inl x0)] σ Q = WP m101 36 [.inr (.inl l0), .inl l1, .inl l2] [.inr (.inl 3), .inr (.inl x0)] σ Q := (w_getR (c := 9) (n := 1) d101_33 (by decide +kernel) (by decide +kernel)).trans (g_and ⟨isO_dec (by decide +kernel), by decide +kernel⟩)
theorem d101_36 : adec m101 36 = some (.iload_n 1, 1) := by decide +kernel
theorem s101_36 {l0 : Nat} {l1 : Int} {l2 : Int} {x0 : Nat} {x1 : Nat} : WP m101 36 [.inr (.inl l0), .inl l1, .inl l2] [.inr (.inl x1), .inr (.inl x0)] σ Q = WP m101 37 [.inr (.inl l0), .inl l1, .inl l2] [.inl l1, .inr (.inl x1), .inr (.inl x0)] σ Q := w_ld d101_36 rfl
theorem d101_37 : adec m101 37 = some (.aaload, 1) := by decide +kernel
theorem s101_37 {l0 : Nat} {l1 : Int} {l2 : Int} {x0 : Nat} {x1 : Nat} {x2 : Int} (h31 : x1 ≠ 31) : WP m101 37 [.inr (.inl l0), .inl l1, .inl l2] [.inl x2, .inr (.inl x1), .inr (.inl x0)] σ Q = ((kdS x1 = 22 ∧ 0 ≤ x2 ∧ x2 < ln x1 ∧ 0 ≤ PT x1 x2.toNat) ∧ WP m101 38 [.inr (.inl l0), .inl l1, .inl l2] [.inr (.inl (pt x1 x2.toNat)), .inr (.inl x0)] σ Q) := w_aald d101_37 h31
theorem d101_38 : adec m101 38 = some (.invokevirtual 192, 3) := by decide +kernel
theorem s101_38 {l0 : Nat} {l1 : Int} {l2 : Int} {x1 : Nat} : WP m101 38 [.inr (.inl l0), .inl l1, .inl l2] [.inr (.inl x1), .inr (.inl 108)] σ Q = CA m51 [.inr (.inl 108), .inr (.inl x1)] σ (fun v σ2 => WP m101 41 [.inr (.inl l0), .inl l1, .inl l2] (v ++ []) σ2 Q) := (w_cV (k := 51) d101_38 (by decide +kernel) m51_at rfl rfl ⟨Nat.le_of_ble_eq_true rfl, Nat.le_of_ble_eq_true rfl, Nat.le_of_ble_eq_true rfl⟩ (by decide)).trans (g_and (isO_dec (by decide +kernel)))
theorem d101_41 : adec m101 41 = some (.ifCond .ne (6), 3) := by decide +kernel
theorem s101_41 {l0 : Nat} {l1 : Int} {l2 : Int} {x0 : Int} : WP m101 41 [.inr (.inl l0), .inl l1, .inl l2] [.inl x0] σ Q = (if x0 = 0 then WP m101 44 [.inr (.inl l0), .inl l1, .inl l2] [] σ Q else WP m101 47 [.inr (.inl l0), .inl l1, .inl l2] [] σ Q) := w_ifne d101_41 (by decide)
theorem d101_44 : adec m101 44 = some (.ldc 94, 2) := by decide +kernel
theorem s101_44 {l0 : Nat} {l1 : Int} {l2 : Int} : WP m101 44 [.inr (.inl l0), .inl l1, .inl l2] [] σ Q = WP m101 46 [.inr (.inl l0), .inl l1, .inl l2] [.inl (-1000000004)] σ Q := w_ldc d101_44 (by decide +kernel) (by decide)
theorem d101_46 : adec m101 46 = some (.ireturn, 1) := by decide +kernel
theorem s101_46 {l0 : Nat} {l1 : Int} {l2 : Int} {x0 : Int} : WP m101 46 [.inr (.inl l0), .inl l1, .inl l2] [.inl x0] σ Q = Q [.inl x0] σ := w_ri d101_46 rfl
theorem d101_47 : adec m101 47 = some (.aload_n 0, 1) := by decide +kernel
theorem s101_47 {l0 : Nat} {l1 : Int} {l2 : Int} : WP m101 47 [.inr (.inl l0), .inl l1, .inl l2] [] σ Q = WP m101 48 [.inr (.inl l0), .inl l1, .inl l2] [.inr (.inl l0)] σ Q := w_ld d101_47 rfl
theorem d101_48 : adec m101 48 = some (.getfield 81, 3) := by decide +kernel
theorem s101_48 {l0 : Nat} {l1 : Int} {l2 : Int} : WP m101 48 [.inr (.inl l0), .inl l1, .inl l2] [.inr (.inl 0)] σ Q = WP m101 51 [.inr (.inl l0), .inl l1, .inl l2] [.inr (.inl 108)] σ Q := (w_getR (c := 9) (n := 11) d101_48 (by decide +kernel) (by decide +kernel)).trans (g_and ⟨isO_dec (by decide +kernel), by decide +kernel⟩)
theorem d101_51 : adec m101 51 = some (.invokevirtual 194, 3) := by decide +kernel
theorem s101_51 {l0 : Nat} {l1 : Int} {l2 : Int} : WP m101 51 [.inr (.inl l0), .inl l1, .inl l2] [.inr (.inl 108)] σ Q = CA m49 [.inr (.inl 108)] σ (fun v σ2 => WP m101 54 [.inr (.inl l0), .inl l1, .inl l2] (v ++ []) σ2 Q) := (w_cV (k := 49) d101_51 (by decide +kernel) m49_at rfl rfl ⟨Nat.le_of_ble_eq_true rfl, Nat.le_of_ble_eq_true rfl, Nat.le_of_ble_eq_true rfl⟩ (by decide)).trans (g_and (isO_dec (by decide +kernel)))
theorem d101_54 : adec m101 54 = some (.iload_n 2, 1) := by decide +kernel
theorem s101_54 {l0 : Nat} {l1 : Int} {l2 : Int} {x0 : Nat} : WP m101 54 [.inr (.inl l0), .inl l1, .inl l2] [.inr (.inl x0)] σ Q = WP m101 55 [.inr (.inl l0), .inl l1, .inl l2] [.inl l2, .inr (.inl x0)] σ Q := w_ld d101_54 rfl
theorem d101_55 : adec m101 55 = some (.iconst (-1), 1) := by decide +kernel
theorem s101_55 {l0 : Nat} {l1 : Int} {l2 : Int} {x0 : Nat} {x1 : Int} : WP m101 55 [.inr (.inl l0), .inl l1, .inl l2] [.inl x1, .inr (.inl x0)] σ Q = WP m101 56 [.inr (.inl l0), .inl l1, .inl l2] [.inl (-1), .inl x1, .inr (.inl x0)] σ Q := w_iconst d101_55 (by decide)
theorem d101_56 : adec m101 56 = some (.invokevirtual 204, 3) := by decide +kernel
theorem s101_56 {l0 : Nat} {l1 : Int} {l2 : Int} {x0 : Nat} {x1 : Int} {x2 : Int} : WP m101 56 [.inr (.inl l0), .inl l1, .inl l2] [.inl x2, .inl x1, .inr (.inl x0)] σ Q = (isO x0 3 ∧ CA m31 [.inr (.inl x0), .inl x1, .inl x2] σ (fun v σ2 => WP m101 59 [.inr (.inl l0), .inl l1, .inl l2] (v ++ []) σ2 Q)) := w_cV (k := 31) d101_56 (by decide +kernel) m31_at rfl rfl ⟨Nat.le_of_ble_eq_true rfl, Nat.le_of_ble_eq_true rfl, Nat.le_of_ble_eq_true rfl⟩ (by decide)
theorem d101_59 : adec m101 59 = some (.ireturn, 1) := by decide +kernel
theorem s101_59 {l0 : Nat} {l1 : Int} {l2 : Int} {x0 : Int} : WP m101 59 [.inr (.inl l0), .inl l1, .inl l2] [.inl x0] σ Q = Q [.inl x0] σ := w_ri d101_59 rfl
theorem e101 {p0 : Nat} {p1 : Int} {p2 : Int} : CA m101 [.inr (.inl p0), .inl p1, .inl p2] σ Q = WP m101 0 [.inr (.inl p0), .inl p1, .inl p2] [] σ Q := rfl
-- BinderPress.steps(II)I
theorem d102_0 : adec m102 0 = some (.iload_n 1, 1) := by decide +kernel
theorem s102_0 {l0 : Nat} {l1 : Int} {l2 : Int} {l3 : AV} : WP m102 0 [.inr (.inl l0), .inl l1, .inl l2, l3] [] σ Q = WP m102 1 [.inr (.inl l0), .inl l1, .inl l2, l3] [.inl l1] σ Q := w_ld d102_0 rfl
theorem d102_1 : adec m102 1 = some (.invokestatic 98, 3) := by decide +kernel
theorem s102_1 {l0 : Nat} {l1 : Int} {l2 : Int} {l3 : AV} {x0 : Int} : WP m102 1 [.inr (.inl l0), .inl l1, .inl l2, l3] [.inl x0] σ Q = CA m113 [.inl x0] σ (fun v σ2 => WP m102 4 [.inr (.inl l0), .inl l1, .inl l2, l3] (v ++ []) σ2 Q) := w_cS (k := 113) d102_1 (by decide +kernel) (md := 1) (by decide +kernel) m113_at rfl rfl ⟨Nat.le_of_ble_eq_true rfl, Nat.le_of_ble_eq_true rfl, Nat.le_of_ble_eq_true rfl⟩ (by decide)
theorem d102_4 : adec m102 4 = some (.ifCond .ne (6), 3) := by decide +kernel
theorem s102_4 {l0 : Nat} {l1 : Int} {l2 : Int} {l3 : AV} {x0 : Int} : WP m102 4 [.inr (.inl l0), .inl l1, .inl l2, l3] [.inl x0] σ Q = (if x0 = 0 then WP m102 7 [.inr (.inl l0), .inl l1, .inl l2, l3] [] σ Q else WP m102 10 [.inr (.inl l0), .inl l1, .inl l2, l3] [] σ Q) := w_ifne d102_4 (by decide)
theorem d102_7 : adec m102 7 = some (.ldc 102, 2) := by decide +kernel
theorem s102_7 {l0 : Nat} {l1 : Int} {l2 : Int} {l3 : AV} : WP m102 7 [.inr (.inl l0), .inl l1, .inl l2, l3] [] σ Q = WP m102 9 [.inr (.inl l0), .inl l1, .inl l2, l3] [.inl (-1000000001)] σ Q := w_ldc d102_7 (by decide +kernel) (by decide)
theorem d102_9 : adec m102 9 = some (.ireturn, 1) := by decide +kernel
theorem s102_9 {l0 : Nat} {l1 : Int} {l2 : Int} {l3 : AV} {x0 : Int} : WP m102 9 [.inr (.inl l0), .inl l1, .inl l2, l3] [.inl x0] σ Q = Q [.inl x0] σ := w_ri d102_9 rfl
theorem d102_10 : adec m102 10 = some (.iload_n 2, 1) := by decide +kernel
theorem s102_10 {l0 : Nat} {l1 : Int} {l2 : Int} {l3 : AV} : WP m102 10 [.inr (.inl l0), .inl l1, .inl l2, l3] [] σ Q = WP m102 11 [.inr (.inl l0), .inl l1, .inl l2, l3] [.inl l2] σ Q := w_ld d102_10 rfl
theorem d102_11 : adec m102 11 = some (.invokestatic 143, 3) := by decide +kernel
theorem s102_11 {l0 : Nat} {l1 : Int} {l2 : Int} {l3 : AV} {x0 : Int} : WP m102 11 [.inr (.inl l0), .inl l1, .inl l2, l3] [.inl x0] σ Q = CA m115 [.inl x0] σ (fun v σ2 => WP m102 14 [.inr (.inl l0), .inl l1, .inl l2, l3] (v ++ []) σ2 Q) := w_cS (k := 115) d102_11 (by decide +kernel) (md := 1) (by decide +kernel) m115_at rfl rfl ⟨Nat.le_of_ble_eq_true rfl, Nat.le_of_ble_eq_true rfl, Nat.le_of_ble_eq_true rfl⟩ (by decide)
theorem d102_14 : adec m102 14 = some (.ifCond .ne (6), 3) := by decide +kernel
theorem s102_14 {l0 : Nat} {l1 : Int} {l2 : Int} {l3 : AV} {x0 : Int} : WP m102 14 [.inr (.inl l0), .inl l1, .inl l2, l3] [.inl x0] σ Q = (if x0 = 0 then WP m102 17 [.inr (.inl l0), .inl l1, .inl l2, l3] [] σ Q else WP m102 20 [.inr (.inl l0), .inl l1, .inl l2, l3] [] σ Q) := w_ifne d102_14 (by decide)
theorem d102_17 : adec m102 17 = some (.ldc 89, 2) := by decide +kernel
theorem s102_17 {l0 : Nat} {l1 : Int} {l2 : Int} {l3 : AV} : WP m102 17 [.inr (.inl l0), .inl l1, .inl l2, l3] [] σ Q = WP m102 19 [.inr (.inl l0), .inl l1, .inl l2, l3] [.inl (-1000000002)] σ Q := w_ldc d102_17 (by decide +kernel) (by decide)
theorem d102_19 : adec m102 19 = some (.ireturn, 1) := by decide +kernel
theorem s102_19 {l0 : Nat} {l1 : Int} {l2 : Int} {l3 : AV} {x0 : Int} : WP m102 19 [.inr (.inl l0), .inl l1, .inl l2, l3] [.inl x0] σ Q = Q [.inl x0] σ := w_ri d102_19 rfl
theorem d102_20 : adec m102 20 = some (.aload_n 0, 1) := by decide +kernel
theorem s102_20 {l0 : Nat} {l1 : Int} {l2 : Int} {l3 : AV} : WP m102 20 [.inr (.inl l0), .inl l1, .inl l2, l3] [] σ Q = WP m102 21 [.inr (.inl l0), .inl l1, .inl l2, l3] [.inr (.inl l0)] σ Q := w_ld d102_20 rfl
theorem d102_21 : adec m102 21 = some (.iload_n 1, 1) := by decide +kernel
theorem s102_21 {l0 : Nat} {l1 : Int} {l2 : Int} {l3 : AV} {x0 : Nat} : WP m102 21 [.inr (.inl l0), .inl l1, .inl l2, l3] [.inr (.inl x0)] σ Q = WP m102 22 [.inr (.inl l0), .inl l1, .inl l2, l3] [.inl l1, .inr (.inl x0)] σ Q := w_ld d102_21 rfl
theorem d102_22 : adec m102 22 = some (.invokevirtual 117, 3) := by decide +kernel
theorem s102_22 {l0 : Nat} {l1 : Int} {l2 : Int} {l3 : AV} {x1 : Int} : WP m102 22 [.inr (.inl l0), .inl l1, .inl l2, l3] [.inl x1, .inr (.inl 0)] σ Q = CA m111 [.inr (.inl 0), .inl x1] σ (fun v σ2 => WP m102 25 [.inr (.inl l0), .inl l1, .inl l2, l3] (v ++ []) σ2 Q) := (w_cV (k := 111) d102_22 (by decide +kernel) m111_at rfl rfl ⟨Nat.le_of_ble_eq_true rfl, Nat.le_of_ble_eq_true rfl, Nat.le_of_ble_eq_true rfl⟩ (by decide)).trans (g_and (isO_dec (by decide +kernel)))
theorem d102_25 : adec m102 25 = some (.ifCond .ne (11), 3) := by decide +kernel
theorem s102_25 {l0 : Nat} {l1 : Int} {l2 : Int} {l3 : AV} {x0 : Int} : WP m102 25 [.inr (.inl l0), .inl l1, .inl l2, l3] [.inl x0] σ Q = (if x0 = 0 then WP m102 28 [.inr (.inl l0), .inl l1, .inl l2, l3] [] σ Q else WP m102 36 [.inr (.inl l0), .inl l1, .inl l2, l3] [] σ Q) := w_ifne d102_25 (by decide)
theorem d102_28 : adec m102 28 = some (.aload_n 0, 1) := by decide +kernel
theorem s102_28 {l0 : Nat} {l1 : Int} {l2 : Int} {l3 : AV} : WP m102 28 [.inr (.inl l0), .inl l1, .inl l2, l3] [] σ Q = WP m102 29 [.inr (.inl l0), .inl l1, .inl l2, l3] [.inr (.inl l0)] σ Q := w_ld d102_28 rfl
theorem d102_29 : adec m102 29 = some (.iload_n 1, 1) := by decide +kernel
theorem s102_29 {l0 : Nat} {l1 : Int} {l2 : Int} {l3 : AV} {x0 : Nat} : WP m102 29 [.inr (.inl l0), .inl l1, .inl l2, l3] [.inr (.inl x0)] σ Q = WP m102 30 [.inr (.inl l0), .inl l1, .inl l2, l3] [.inl l1, .inr (.inl x0)] σ Q := w_ld d102_29 rfl
theorem d102_30 : adec m102 30 = some (.invokevirtual 136, 3) := by decide +kernel
theorem s102_30 {l0 : Nat} {l1 : Int} {l2 : Int} {l3 : AV} {x1 : Int} : WP m102 30 [.inr (.inl l0), .inl l1, .inl l2, l3] [.inl x1, .inr (.inl 0)] σ Q = CA m112 [.inr (.inl 0), .inl x1] σ (fun v σ2 => WP m102 33 [.inr (.inl l0), .inl l1, .inl l2, l3] (v ++ []) σ2 Q) := (w_cV (k := 112) d102_30 (by decide +kernel) m112_at rfl rfl ⟨Nat.le_of_ble_eq_true rfl, Nat.le_of_ble_eq_true rfl, Nat.le_of_ble_eq_true rfl⟩ (by decide)).trans (g_and (isO_dec (by decide +kernel)))
theorem d102_33 : adec m102 33 = some (.ifCond .eq (6), 3) := by decide +kernel
theorem s102_33 {l0 : Nat} {l1 : Int} {l2 : Int} {l3 : AV} {x0 : Int} : WP m102 33 [.inr (.inl l0), .inl l1, .inl l2, l3] [.inl x0] σ Q = (if x0 = 0 then WP m102 39 [.inr (.inl l0), .inl l1, .inl l2, l3] [] σ Q else WP m102 36 [.inr (.inl l0), .inl l1, .inl l2, l3] [] σ Q) := w_ifeq d102_33 (by decide)
theorem d102_36 : adec m102 36 = some (.ldc 120, 2) := by decide +kernel
theorem s102_36 {l0 : Nat} {l1 : Int} {l2 : Int} {l3 : AV} : WP m102 36 [.inr (.inl l0), .inl l1, .inl l2, l3] [] σ Q = WP m102 38 [.inr (.inl l0), .inl l1, .inl l2, l3] [.inl (-1000000003)] σ Q := w_ldc d102_36 (by decide +kernel) (by decide)
theorem d102_38 : adec m102 38 = some (.ireturn, 1) := by decide +kernel
theorem s102_38 {l0 : Nat} {l1 : Int} {l2 : Int} {l3 : AV} {x0 : Int} : WP m102 38 [.inr (.inl l0), .inl l1, .inl l2, l3] [.inl x0] σ Q = Q [.inl x0] σ := w_ri d102_38 rfl
theorem d102_39 : adec m102 39 = some (.aload_n 0, 1) := by decide +kernel
theorem s102_39 {l0 : Nat} {l1 : Int} {l2 : Int} {l3 : AV} : WP m102 39 [.inr (.inl l0), .inl l1, .inl l2, l3] [] σ Q = WP m102 40 [.inr (.inl l0), .inl l1, .inl l2, l3] [.inr (.inl l0)] σ Q := w_ld d102_39 rfl
theorem d102_40 : adec m102 40 = some (.getfield 67, 3) := by decide +kernel
theorem s102_40 {l0 : Nat} {l1 : Int} {l2 : Int} {l3 : AV} : WP m102 40 [.inr (.inl l0), .inl l1, .inl l2, l3] [.inr (.inl 0)] σ Q = WP m102 43 [.inr (.inl l0), .inl l1, .inl l2, l3] [.inr (.inl 77)] σ Q := (w_getR (c := 9) (n := 9) d102_40 (by decide +kernel) (by decide +kernel)).trans (g_and ⟨isO_dec (by decide +kernel), by decide +kernel⟩)
theorem d102_43 : adec m102 43 = some (.aload_n 0, 1) := by decide +kernel
theorem s102_43 {l0 : Nat} {l1 : Int} {l2 : Int} {l3 : AV} {x0 : Nat} : WP m102 43 [.inr (.inl l0), .inl l1, .inl l2, l3] [.inr (.inl x0)] σ Q = WP m102 44 [.inr (.inl l0), .inl l1, .inl l2, l3] [.inr (.inl l0), .inr (.inl x0)] σ Q := w_ld d102_43 rfl
theorem d102_44 : adec m102 44 = some (.getfield 22, 3) := by decide +kernel
theorem s102_44 {l0 : Nat} {l1 : Int} {l2 : Int} {l3 : AV} {x0 : Nat} : WP m102 44 [.inr (.inl l0), .inl l1, .inl l2, l3] [.inr (.inl 0), .inr (.inl x0)] σ Q = WP m102 47 [.inr (.inl l0), .inl l1, .inl l2, l3] [.inr (.inl 3), .inr (.inl x0)] σ Q := (w_getR (c := 9) (n := 1) d102_44 (by decide +kernel) (by decide +kernel)).trans (g_and ⟨isO_dec (by decide +kernel), by decide +kernel⟩)
theorem d102_47 : adec m102 47 = some (.iload_n 1, 1) := by decide +kernel
theorem s102_47 {l0 : Nat} {l1 : Int} {l2 : Int} {l3 : AV} {x0 : Nat} {x1 : Nat} : WP m102 47 [.inr (.inl l0), .inl l1, .inl l2, l3] [.inr (.inl x1), .inr (.inl x0)] σ Q = WP m102 48 [.inr (.inl l0), .inl l1, .inl l2, l3] [.inl l1, .inr (.inl x1), .inr (.inl x0)] σ Q := w_ld d102_47 rfl
theorem d102_48 : adec m102 48 = some (.aaload, 1) := by decide +kernel
theorem s102_48 {l0 : Nat} {l1 : Int} {l2 : Int} {l3 : AV} {x0 : Nat} {x1 : Nat} {x2 : Int} (h31 : x1 ≠ 31) : WP m102 48 [.inr (.inl l0), .inl l1, .inl l2, l3] [.inl x2, .inr (.inl x1), .inr (.inl x0)] σ Q = ((kdS x1 = 22 ∧ 0 ≤ x2 ∧ x2 < ln x1 ∧ 0 ≤ PT x1 x2.toNat) ∧ WP m102 49 [.inr (.inl l0), .inl l1, .inl l2, l3] [.inr (.inl (pt x1 x2.toNat)), .inr (.inl x0)] σ Q) := w_aald d102_48 h31
theorem d102_49 : adec m102 49 = some (.iload_n 2, 1) := by decide +kernel
theorem s102_49 {l0 : Nat} {l1 : Int} {l2 : Int} {l3 : AV} {x0 : Nat} {x1 : Nat} : WP m102 49 [.inr (.inl l0), .inl l1, .inl l2, l3] [.inr (.inl x1), .inr (.inl x0)] σ Q = WP m102 50 [.inr (.inl l0), .inl l1, .inl l2, l3] [.inl l2, .inr (.inl x1), .inr (.inl x0)] σ Q := w_ld d102_49 rfl
theorem d102_50 : adec m102 50 = some (.iconst (1), 1) := by decide +kernel
theorem s102_50 {l0 : Nat} {l1 : Int} {l2 : Int} {l3 : AV} {x0 : Nat} {x1 : Nat} {x2 : Int} : WP m102 50 [.inr (.inl l0), .inl l1, .inl l2, l3] [.inl x2, .inr (.inl x1), .inr (.inl x0)] σ Q = WP m102 51 [.inr (.inl l0), .inl l1, .inl l2, l3] [.inl (1), .inl x2, .inr (.inl x1), .inr (.inl x0)] σ Q := w_iconst d102_50 (by decide)
theorem d102_51 : adec m102 51 = some (.if_icmp .ne (7), 3) := by decide +kernel
theorem s102_51 {l0 : Nat} {l1 : Int} {l2 : Int} {l3 : AV} {x0 : Nat} {x1 : Nat} {x2 : Int} {x3 : Int} : WP m102 51 [.inr (.inl l0), .inl l1, .inl l2, l3] [.inl x3, .inl x2, .inr (.inl x1), .inr (.inl x0)] σ Q = (if x2 = x3 then WP m102 54 [.inr (.inl l0), .inl l1, .inl l2, l3] [.inr (.inl x1), .inr (.inl x0)] σ Q else WP m102 58 [.inr (.inl l0), .inl l1, .inl l2, l3] [.inr (.inl x1), .inr (.inl x0)] σ Q) := w_icne d102_51 (by decide)
theorem d102_54 : adec m102 54 = some (.iconst (1), 1) := by decide +kernel
theorem s102_54 {l0 : Nat} {l1 : Int} {l2 : Int} {l3 : AV} {x0 : Nat} {x1 : Nat} : WP m102 54 [.inr (.inl l0), .inl l1, .inl l2, l3] [.inr (.inl x1), .inr (.inl x0)] σ Q = WP m102 55 [.inr (.inl l0), .inl l1, .inl l2, l3] [.inl (1), .inr (.inl x1), .inr (.inl x0)] σ Q := w_iconst d102_54 (by decide)
theorem d102_55 : adec m102 55 = some (.goto (4), 3) := by decide +kernel
theorem s102_55 {l0 : Nat} {l1 : Int} {l2 : Int} {l3 : AV} {x0 : Nat} {x1 : Nat} {x2 : Int} : WP m102 55 [.inr (.inl l0), .inl l1, .inl l2, l3] [.inl x2, .inr (.inl x1), .inr (.inl x0)] σ Q = WP m102 59 [.inr (.inl l0), .inl l1, .inl l2, l3] [.inl x2, .inr (.inl x1), .inr (.inl x0)] σ Q := w_goto d102_55 (by decide)
theorem d102_58 : adec m102 58 = some (.iconst (0), 1) := by decide +kernel
theorem s102_58 {l0 : Nat} {l1 : Int} {l2 : Int} {l3 : AV} {x0 : Nat} {x1 : Nat} : WP m102 58 [.inr (.inl l0), .inl l1, .inl l2, l3] [.inr (.inl x1), .inr (.inl x0)] σ Q = WP m102 59 [.inr (.inl l0), .inl l1, .inl l2, l3] [.inl (0), .inr (.inl x1), .inr (.inl x0)] σ Q := w_iconst d102_58 (by decide)
theorem d102_59 : adec m102 59 = some (.sipush (200), 3) := by decide +kernel
theorem s102_59 {l0 : Nat} {l1 : Int} {l2 : Int} {l3 : AV} {x0 : Nat} {x1 : Nat} {x2 : Int} : WP m102 59 [.inr (.inl l0), .inl l1, .inl l2, l3] [.inl x2, .inr (.inl x1), .inr (.inl x0)] σ Q = WP m102 62 [.inr (.inl l0), .inl l1, .inl l2, l3] [.inl (200), .inl x2, .inr (.inl x1), .inr (.inl x0)] σ Q := w_sipush d102_59 (by decide)
theorem d102_62 : adec m102 62 = some (.invokevirtual 146, 3) := by decide +kernel
theorem s102_62 {l0 : Nat} {l1 : Int} {l2 : Int} {l3 : AV} {x1 : Nat} {x2 : Int} {x3 : Int} : WP m102 62 [.inr (.inl l0), .inl l1, .inl l2, l3] [.inl x3, .inl x2, .inr (.inl x1), .inr (.inl 77)] σ Q = CA m1 [.inr (.inl 77), .inr (.inl x1), .inl x2, .inl x3] σ (fun v σ2 => WP m102 65 [.inr (.inl l0), .inl l1, .inl l2, l3] (v ++ []) σ2 Q) := (w_cV (k := 1) d102_62 (by decide +kernel) m1_at rfl rfl ⟨Nat.le_of_ble_eq_true rfl, Nat.le_of_ble_eq_true rfl, Nat.le_of_ble_eq_true rfl⟩ (by decide)).trans (g_and (isO_dec (by decide +kernel)))
theorem d102_65 : adec m102 65 = some (.istore_n 3, 1) := by decide +kernel
theorem s102_65 {l0 : Nat} {l1 : Int} {l2 : Int} {l3 : AV} {x0 : Int} : WP m102 65 [.inr (.inl l0), .inl l1, .inl l2, l3] [.inl x0] σ Q = WP m102 66 [.inr (.inl l0), .inl l1, .inl l2, .inl x0] [] σ Q := w_st1 (j := 3) d102_65 rfl (Nat.le_of_ble_eq_true rfl) rfl
theorem d102_66 : adec m102 66 = some (.aload_n 0, 1) := by decide +kernel
theorem s102_66 {l0 : Nat} {l1 : Int} {l2 : Int} {l3 : Int} : WP m102 66 [.inr (.inl l0), .inl l1, .inl l2, .inl l3] [] σ Q = WP m102 67 [.inr (.inl l0), .inl l1, .inl l2, .inl l3] [.inr (.inl l0)] σ Q := w_ld d102_66 rfl
theorem d102_67 : adec m102 67 = some (.getfield 67, 3) := by decide +kernel
theorem s102_67 {l0 : Nat} {l1 : Int} {l2 : Int} {l3 : Int} : WP m102 67 [.inr (.inl l0), .inl l1, .inl l2, .inl l3] [.inr (.inl 0)] σ Q = WP m102 70 [.inr (.inl l0), .inl l1, .inl l2, .inl l3] [.inr (.inl 77)] σ Q := (w_getR (c := 9) (n := 9) d102_67 (by decide +kernel) (by decide +kernel)).trans (g_and ⟨isO_dec (by decide +kernel), by decide +kernel⟩)
theorem d102_70 : adec m102 70 = some (.invokevirtual 208, 3) := by decide +kernel
theorem s102_70 {l0 : Nat} {l1 : Int} {l2 : Int} {l3 : Int} : WP m102 70 [.inr (.inl l0), .inl l1, .inl l2, .inl l3] [.inr (.inl 77)] σ Q = CA m3 [.inr (.inl 77)] σ (fun v σ2 => WP m102 73 [.inr (.inl l0), .inl l1, .inl l2, .inl l3] (v ++ []) σ2 Q) := (w_cV (k := 3) d102_70 (by decide +kernel) m3_at rfl rfl ⟨Nat.le_of_ble_eq_true rfl, Nat.le_of_ble_eq_true rfl, Nat.le_of_ble_eq_true rfl⟩ (by decide)).trans (g_and (isO_dec (by decide +kernel)))
theorem d102_73 : adec m102 73 = some (.ifCond .eq (6), 3) := by decide +kernel
theorem s102_73 {l0 : Nat} {l1 : Int} {l2 : Int} {l3 : Int} {x0 : Int} : WP m102 73 [.inr (.inl l0), .inl l1, .inl l2, .inl l3] [.inl x0] σ Q = (if x0 = 0 then WP m102 79 [.inr (.inl l0), .inl l1, .inl l2, .inl l3] [] σ Q else WP m102 76 [.inr (.inl l0), .inl l1, .inl l2, .inl l3] [] σ Q) := w_ifeq d102_73 (by decide)
theorem d102_76 : adec m102 76 = some (.bipush (-3), 2) := by decide +kernel
theorem s102_76 {l0 : Nat} {l1 : Int} {l2 : Int} {l3 : Int} : WP m102 76 [.inr (.inl l0), .inl l1, .inl l2, .inl l3] [] σ Q = WP m102 78 [.inr (.inl l0), .inl l1, .inl l2, .inl l3] [.inl (-3)] σ Q := w_bipush d102_76 (by decide)
theorem d102_78 : adec m102 78 = some (.ireturn, 1) := by decide +kernel
theorem s102_78 {l0 : Nat} {l1 : Int} {l2 : Int} {l3 : Int} {x0 : Int} : WP m102 78 [.inr (.inl l0), .inl l1, .inl l2, .inl l3] [.inl x0] σ Q = Q [.inl x0] σ := w_ri d102_78 rfl
theorem d102_79 : adec m102 79 = some (.aload_n 0, 1) := by decide +kernel
theorem s102_79 {l0 : Nat} {l1 : Int} {l2 : Int} {l3 : Int} : WP m102 79 [.inr (.inl l0), .inl l1, .inl l2, .inl l3] [] σ Q = WP m102 80 [.inr (.inl l0), .inl l1, .inl l2, .inl l3] [.inr (.inl l0)] σ Q := w_ld d102_79 rfl
theorem d102_80 : adec m102 80 = some (.getfield 67, 3) := by decide +kernel
theorem s102_80 {l0 : Nat} {l1 : Int} {l2 : Int} {l3 : Int} : WP m102 80 [.inr (.inl l0), .inl l1, .inl l2, .inl l3] [.inr (.inl 0)] σ Q = WP m102 83 [.inr (.inl l0), .inl l1, .inl l2, .inl l3] [.inr (.inl 77)] σ Q := (w_getR (c := 9) (n := 9) d102_80 (by decide +kernel) (by decide +kernel)).trans (g_and ⟨isO_dec (by decide +kernel), by decide +kernel⟩)
theorem d102_83 : adec m102 83 = some (.invokevirtual 212, 3) := by decide +kernel
theorem s102_83 {l0 : Nat} {l1 : Int} {l2 : Int} {l3 : Int} : WP m102 83 [.inr (.inl l0), .inl l1, .inl l2, .inl l3] [.inr (.inl 77)] σ Q = CA m4 [.inr (.inl 77)] σ (fun v σ2 => WP m102 86 [.inr (.inl l0), .inl l1, .inl l2, .inl l3] (v ++ []) σ2 Q) := (w_cV (k := 4) d102_83 (by decide +kernel) m4_at rfl rfl ⟨Nat.le_of_ble_eq_true rfl, Nat.le_of_ble_eq_true rfl, Nat.le_of_ble_eq_true rfl⟩ (by decide)).trans (g_and (isO_dec (by decide +kernel)))
theorem d102_86 : adec m102 86 = some (.ifCond .eq (8), 3) := by decide +kernel
theorem s102_86 {l0 : Nat} {l1 : Int} {l2 : Int} {l3 : Int} {x0 : Int} : WP m102 86 [.inr (.inl l0), .inl l1, .inl l2, .inl l3] [.inl x0] σ Q = (if x0 = 0 then WP m102 94 [.inr (.inl l0), .inl l1, .inl l2, .inl l3] [] σ Q else WP m102 89 [.inr (.inl l0), .inl l1, .inl l2, .inl l3] [] σ Q) := w_ifeq d102_86 (by decide)
theorem d102_89 : adec m102 89 = some (.bipush (-2), 2) := by decide +kernel
theorem s102_89 {l0 : Nat} {l1 : Int} {l2 : Int} {l3 : Int} : WP m102 89 [.inr (.inl l0), .inl l1, .inl l2, .inl l3] [] σ Q = WP m102 91 [.inr (.inl l0), .inl l1, .inl l2, .inl l3] [.inl (-2)] σ Q := w_bipush d102_89 (by decide)
theorem d102_91 : adec m102 91 = some (.goto (4), 3) := by decide +kernel
theorem s102_91 {l0 : Nat} {l1 : Int} {l2 : Int} {l3 : Int} {x0 : Int} : WP m102 91 [.inr (.inl l0), .inl l1, .inl l2, .inl l3] [.inl x0] σ Q = WP m102 95 [.inr (.inl l0), .inl l1, .inl l2, .inl l3] [.inl x0] σ Q := w_goto d102_91 (by decide)
theorem d102_94 : adec m102 94 = some (.iload_n 3, 1) := by decide +kernel
theorem s102_94 {l0 : Nat} {l1 : Int} {l2 : Int} {l3 : Int} : WP m102 94 [.inr (.inl l0), .inl l1, .inl l2, .inl l3] [] σ Q = WP m102 95 [.inr (.inl l0), .inl l1, .inl l2, .inl l3] [.inl l3] σ Q := w_ld d102_94 rfl
theorem d102_95 : adec m102 95 = some (.ireturn, 1) := by decide +kernel
theorem s102_95 {l0 : Nat} {l1 : Int} {l2 : Int} {l3 : Int} {x0 : Int} : WP m102 95 [.inr (.inl l0), .inl l1, .inl l2, .inl l3] [.inl x0] σ Q = Q [.inl x0] σ := w_ri d102_95 rfl
theorem e102 {p0 : Nat} {p1 : Int} {p2 : Int} : CA m102 [.inr (.inl p0), .inl p1, .inl p2] σ Q = WP m102 0 [.inr (.inl p0), .inl p1, .inl p2, vU] [] σ Q := rfl
-- BinderPress.same(II)I
theorem d103_0 : adec m103 0 = some (.iload_n 1, 1) := by decide +kernel
theorem s103_0 {l0 : Nat} {l1 : Int} {l2 : Int} : WP m103 0 [.inr (.inl l0), .inl l1, .inl l2] [] σ Q = WP m103 1 [.inr (.inl l0), .inl l1, .inl l2] [.inl l1] σ Q := w_ld d103_0 rfl
theorem d103_1 : adec m103 1 = some (.invokestatic 98, 3) := by decide +kernel
theorem s103_1 {l0 : Nat} {l1 : Int} {l2 : Int} {x0 : Int} : WP m103 1 [.inr (.inl l0), .inl l1, .inl l2] [.inl x0] σ Q = CA m113 [.inl x0] σ (fun v σ2 => WP m103 4 [.inr (.inl l0), .inl l1, .inl l2] (v ++ []) σ2 Q) := w_cS (k := 113) d103_1 (by decide +kernel) (md := 1) (by decide +kernel) m113_at rfl rfl ⟨Nat.le_of_ble_eq_true rfl, Nat.le_of_ble_eq_true rfl, Nat.le_of_ble_eq_true rfl⟩ (by decide)
theorem d103_4 : adec m103 4 = some (.ifCond .eq (10), 3) := by decide +kernel
theorem s103_4 {l0 : Nat} {l1 : Int} {l2 : Int} {x0 : Int} : WP m103 4 [.inr (.inl l0), .inl l1, .inl l2] [.inl x0] σ Q = (if x0 = 0 then WP m103 14 [.inr (.inl l0), .inl l1, .inl l2] [] σ Q else WP m103 7 [.inr (.inl l0), .inl l1, .inl l2] [] σ Q) := w_ifeq d103_4 (by decide)
theorem d103_7 : adec m103 7 = some (.iload_n 2, 1) := by decide +kernel
theorem s103_7 {l0 : Nat} {l1 : Int} {l2 : Int} : WP m103 7 [.inr (.inl l0), .inl l1, .inl l2] [] σ Q = WP m103 8 [.inr (.inl l0), .inl l1, .inl l2] [.inl l2] σ Q := w_ld d103_7 rfl
theorem d103_8 : adec m103 8 = some (.invokestatic 98, 3) := by decide +kernel
theorem s103_8 {l0 : Nat} {l1 : Int} {l2 : Int} {x0 : Int} : WP m103 8 [.inr (.inl l0), .inl l1, .inl l2] [.inl x0] σ Q = CA m113 [.inl x0] σ (fun v σ2 => WP m103 11 [.inr (.inl l0), .inl l1, .inl l2] (v ++ []) σ2 Q) := w_cS (k := 113) d103_8 (by decide +kernel) (md := 1) (by decide +kernel) m113_at rfl rfl ⟨Nat.le_of_ble_eq_true rfl, Nat.le_of_ble_eq_true rfl, Nat.le_of_ble_eq_true rfl⟩ (by decide)
theorem d103_11 : adec m103 11 = some (.ifCond .ne (6), 3) := by decide +kernel
theorem s103_11 {l0 : Nat} {l1 : Int} {l2 : Int} {x0 : Int} : WP m103 11 [.inr (.inl l0), .inl l1, .inl l2] [.inl x0] σ Q = (if x0 = 0 then WP m103 14 [.inr (.inl l0), .inl l1, .inl l2] [] σ Q else WP m103 17 [.inr (.inl l0), .inl l1, .inl l2] [] σ Q) := w_ifne d103_11 (by decide)
theorem d103_14 : adec m103 14 = some (.ldc 102, 2) := by decide +kernel
theorem s103_14 {l0 : Nat} {l1 : Int} {l2 : Int} : WP m103 14 [.inr (.inl l0), .inl l1, .inl l2] [] σ Q = WP m103 16 [.inr (.inl l0), .inl l1, .inl l2] [.inl (-1000000001)] σ Q := w_ldc d103_14 (by decide +kernel) (by decide)
theorem d103_16 : adec m103 16 = some (.ireturn, 1) := by decide +kernel
theorem s103_16 {l0 : Nat} {l1 : Int} {l2 : Int} {x0 : Int} : WP m103 16 [.inr (.inl l0), .inl l1, .inl l2] [.inl x0] σ Q = Q [.inl x0] σ := w_ri d103_16 rfl
theorem d103_17 : adec m103 17 = some (.aload_n 0, 1) := by decide +kernel
theorem s103_17 {l0 : Nat} {l1 : Int} {l2 : Int} : WP m103 17 [.inr (.inl l0), .inl l1, .inl l2] [] σ Q = WP m103 18 [.inr (.inl l0), .inl l1, .inl l2] [.inr (.inl l0)] σ Q := w_ld d103_17 rfl
theorem d103_18 : adec m103 18 = some (.iload_n 1, 1) := by decide +kernel
theorem s103_18 {l0 : Nat} {l1 : Int} {l2 : Int} {x0 : Nat} : WP m103 18 [.inr (.inl l0), .inl l1, .inl l2] [.inr (.inl x0)] σ Q = WP m103 19 [.inr (.inl l0), .inl l1, .inl l2] [.inl l1, .inr (.inl x0)] σ Q := w_ld d103_18 rfl
theorem d103_19 : adec m103 19 = some (.invokevirtual 117, 3) := by decide +kernel
theorem s103_19 {l0 : Nat} {l1 : Int} {l2 : Int} {x1 : Int} : WP m103 19 [.inr (.inl l0), .inl l1, .inl l2] [.inl x1, .inr (.inl 0)] σ Q = CA m111 [.inr (.inl 0), .inl x1] σ (fun v σ2 => WP m103 22 [.inr (.inl l0), .inl l1, .inl l2] (v ++ []) σ2 Q) := (w_cV (k := 111) d103_19 (by decide +kernel) m111_at rfl rfl ⟨Nat.le_of_ble_eq_true rfl, Nat.le_of_ble_eq_true rfl, Nat.le_of_ble_eq_true rfl⟩ (by decide)).trans (g_and (isO_dec (by decide +kernel)))
theorem d103_22 : adec m103 22 = some (.ifCond .ne (11), 3) := by decide +kernel
theorem s103_22 {l0 : Nat} {l1 : Int} {l2 : Int} {x0 : Int} : WP m103 22 [.inr (.inl l0), .inl l1, .inl l2] [.inl x0] σ Q = (if x0 = 0 then WP m103 25 [.inr (.inl l0), .inl l1, .inl l2] [] σ Q else WP m103 33 [.inr (.inl l0), .inl l1, .inl l2] [] σ Q) := w_ifne d103_22 (by decide)
theorem d103_25 : adec m103 25 = some (.aload_n 0, 1) := by decide +kernel
theorem s103_25 {l0 : Nat} {l1 : Int} {l2 : Int} : WP m103 25 [.inr (.inl l0), .inl l1, .inl l2] [] σ Q = WP m103 26 [.inr (.inl l0), .inl l1, .inl l2] [.inr (.inl l0)] σ Q := w_ld d103_25 rfl
theorem d103_26 : adec m103 26 = some (.iload_n 2, 1) := by decide +kernel
theorem s103_26 {l0 : Nat} {l1 : Int} {l2 : Int} {x0 : Nat} : WP m103 26 [.inr (.inl l0), .inl l1, .inl l2] [.inr (.inl x0)] σ Q = WP m103 27 [.inr (.inl l0), .inl l1, .inl l2] [.inl l2, .inr (.inl x0)] σ Q := w_ld d103_26 rfl
theorem d103_27 : adec m103 27 = some (.invokevirtual 117, 3) := by decide +kernel
theorem s103_27 {l0 : Nat} {l1 : Int} {l2 : Int} {x1 : Int} : WP m103 27 [.inr (.inl l0), .inl l1, .inl l2] [.inl x1, .inr (.inl 0)] σ Q = CA m111 [.inr (.inl 0), .inl x1] σ (fun v σ2 => WP m103 30 [.inr (.inl l0), .inl l1, .inl l2] (v ++ []) σ2 Q) := (w_cV (k := 111) d103_27 (by decide +kernel) m111_at rfl rfl ⟨Nat.le_of_ble_eq_true rfl, Nat.le_of_ble_eq_true rfl, Nat.le_of_ble_eq_true rfl⟩ (by decide)).trans (g_and (isO_dec (by decide +kernel)))
theorem d103_30 : adec m103 30 = some (.ifCond .eq (6), 3) := by decide +kernel
theorem s103_30 {l0 : Nat} {l1 : Int} {l2 : Int} {x0 : Int} : WP m103 30 [.inr (.inl l0), .inl l1, .inl l2] [.inl x0] σ Q = (if x0 = 0 then WP m103 36 [.inr (.inl l0), .inl l1, .inl l2] [] σ Q else WP m103 33 [.inr (.inl l0), .inl l1, .inl l2] [] σ Q) := w_ifeq d103_30 (by decide)
theorem d103_33 : adec m103 33 = some (.ldc 120, 2) := by decide +kernel
theorem s103_33 {l0 : Nat} {l1 : Int} {l2 : Int} : WP m103 33 [.inr (.inl l0), .inl l1, .inl l2] [] σ Q = WP m103 35 [.inr (.inl l0), .inl l1, .inl l2] [.inl (-1000000003)] σ Q := w_ldc d103_33 (by decide +kernel) (by decide)
theorem d103_35 : adec m103 35 = some (.ireturn, 1) := by decide +kernel
theorem s103_35 {l0 : Nat} {l1 : Int} {l2 : Int} {x0 : Int} : WP m103 35 [.inr (.inl l0), .inl l1, .inl l2] [.inl x0] σ Q = Q [.inl x0] σ := w_ri d103_35 rfl
theorem d103_36 : adec m103 36 = some (.aload_n 0, 1) := by decide +kernel
theorem s103_36 {l0 : Nat} {l1 : Int} {l2 : Int} : WP m103 36 [.inr (.inl l0), .inl l1, .inl l2] [] σ Q = WP m103 37 [.inr (.inl l0), .inl l1, .inl l2] [.inr (.inl l0)] σ Q := w_ld d103_36 rfl
theorem d103_37 : adec m103 37 = some (.getfield 22, 3) := by decide +kernel
theorem s103_37 {l0 : Nat} {l1 : Int} {l2 : Int} : WP m103 37 [.inr (.inl l0), .inl l1, .inl l2] [.inr (.inl 0)] σ Q = WP m103 40 [.inr (.inl l0), .inl l1, .inl l2] [.inr (.inl 3)] σ Q := (w_getR (c := 9) (n := 1) d103_37 (by decide +kernel) (by decide +kernel)).trans (g_and ⟨isO_dec (by decide +kernel), by decide +kernel⟩)
theorem d103_40 : adec m103 40 = some (.iload_n 1, 1) := by decide +kernel
theorem s103_40 {l0 : Nat} {l1 : Int} {l2 : Int} {x0 : Nat} : WP m103 40 [.inr (.inl l0), .inl l1, .inl l2] [.inr (.inl x0)] σ Q = WP m103 41 [.inr (.inl l0), .inl l1, .inl l2] [.inl l1, .inr (.inl x0)] σ Q := w_ld d103_40 rfl
theorem d103_41 : adec m103 41 = some (.aaload, 1) := by decide +kernel
theorem s103_41 {l0 : Nat} {l1 : Int} {l2 : Int} {x0 : Nat} {x1 : Int} (h31 : x0 ≠ 31) : WP m103 41 [.inr (.inl l0), .inl l1, .inl l2] [.inl x1, .inr (.inl x0)] σ Q = ((kdS x0 = 22 ∧ 0 ≤ x1 ∧ x1 < ln x0 ∧ 0 ≤ PT x0 x1.toNat) ∧ WP m103 42 [.inr (.inl l0), .inl l1, .inl l2] [.inr (.inl (pt x0 x1.toNat))] σ Q) := w_aald d103_41 h31
theorem d103_42 : adec m103 42 = some (.aload_n 0, 1) := by decide +kernel
theorem s103_42 {l0 : Nat} {l1 : Int} {l2 : Int} {x0 : Nat} : WP m103 42 [.inr (.inl l0), .inl l1, .inl l2] [.inr (.inl x0)] σ Q = WP m103 43 [.inr (.inl l0), .inl l1, .inl l2] [.inr (.inl l0), .inr (.inl x0)] σ Q := w_ld d103_42 rfl
theorem d103_43 : adec m103 43 = some (.getfield 22, 3) := by decide +kernel
theorem s103_43 {l0 : Nat} {l1 : Int} {l2 : Int} {x0 : Nat} : WP m103 43 [.inr (.inl l0), .inl l1, .inl l2] [.inr (.inl 0), .inr (.inl x0)] σ Q = WP m103 46 [.inr (.inl l0), .inl l1, .inl l2] [.inr (.inl 3), .inr (.inl x0)] σ Q := (w_getR (c := 9) (n := 1) d103_43 (by decide +kernel) (by decide +kernel)).trans (g_and ⟨isO_dec (by decide +kernel), by decide +kernel⟩)
theorem d103_46 : adec m103 46 = some (.iload_n 2, 1) := by decide +kernel
theorem s103_46 {l0 : Nat} {l1 : Int} {l2 : Int} {x0 : Nat} {x1 : Nat} : WP m103 46 [.inr (.inl l0), .inl l1, .inl l2] [.inr (.inl x1), .inr (.inl x0)] σ Q = WP m103 47 [.inr (.inl l0), .inl l1, .inl l2] [.inl l2, .inr (.inl x1), .inr (.inl x0)] σ Q := w_ld d103_46 rfl
theorem d103_47 : adec m103 47 = some (.aaload, 1) := by decide +kernel
theorem s103_47 {l0 : Nat} {l1 : Int} {l2 : Int} {x0 : Nat} {x1 : Nat} {x2 : Int} (h31 : x1 ≠ 31) : WP m103 47 [.inr (.inl l0), .inl l1, .inl l2] [.inl x2, .inr (.inl x1), .inr (.inl x0)] σ Q = ((kdS x1 = 22 ∧ 0 ≤ x2 ∧ x2 < ln x1 ∧ 0 ≤ PT x1 x2.toNat) ∧ WP m103 48 [.inr (.inl l0), .inl l1, .inl l2] [.inr (.inl (pt x1 x2.toNat)), .inr (.inl x0)] σ Q) := w_aald d103_47 h31
theorem d103_48 : adec m103 48 = some (.invokevirtual 215, 3) := by decide +kernel
theorem s103_48 {l0 : Nat} {l1 : Int} {l2 : Int} {x0 : Nat} {x1 : Nat} : WP m103 48 [.inr (.inl l0), .inl l1, .inl l2] [.inr (.inl x1), .inr (.inl x0)] σ Q = (isO x0 3 ∧ CA m41 [.inr (.inl x0), .inr (.inl x1)] σ (fun v σ2 => WP m103 51 [.inr (.inl l0), .inl l1, .inl l2] (v ++ []) σ2 Q)) := w_cV (k := 41) d103_48 (by decide +kernel) m41_at rfl rfl ⟨Nat.le_of_ble_eq_true rfl, Nat.le_of_ble_eq_true rfl, Nat.le_of_ble_eq_true rfl⟩ (by decide)
theorem d103_51 : adec m103 51 = some (.ifCond .eq (7), 3) := by decide +kernel
theorem s103_51 {l0 : Nat} {l1 : Int} {l2 : Int} {x0 : Int} : WP m103 51 [.inr (.inl l0), .inl l1, .inl l2] [.inl x0] σ Q = (if x0 = 0 then WP m103 58 [.inr (.inl l0), .inl l1, .inl l2] [] σ Q else WP m103 54 [.inr (.inl l0), .inl l1, .inl l2] [] σ Q) := w_ifeq d103_51 (by decide)
theorem d103_54 : adec m103 54 = some (.iconst (1), 1) := by decide +kernel
theorem s103_54 {l0 : Nat} {l1 : Int} {l2 : Int} : WP m103 54 [.inr (.inl l0), .inl l1, .inl l2] [] σ Q = WP m103 55 [.inr (.inl l0), .inl l1, .inl l2] [.inl (1)] σ Q := w_iconst d103_54 (by decide)
theorem d103_55 : adec m103 55 = some (.goto (4), 3) := by decide +kernel
theorem s103_55 {l0 : Nat} {l1 : Int} {l2 : Int} {x0 : Int} : WP m103 55 [.inr (.inl l0), .inl l1, .inl l2] [.inl x0] σ Q = WP m103 59 [.inr (.inl l0), .inl l1, .inl l2] [.inl x0] σ Q := w_goto d103_55 (by decide)
theorem d103_58 : adec m103 58 = some (.iconst (0), 1) := by decide +kernel
theorem s103_58 {l0 : Nat} {l1 : Int} {l2 : Int} : WP m103 58 [.inr (.inl l0), .inl l1, .inl l2] [] σ Q = WP m103 59 [.inr (.inl l0), .inl l1, .inl l2] [.inl (0)] σ Q := w_iconst d103_58 (by decide)
theorem d103_59 : adec m103 59 = some (.ireturn, 1) := by decide +kernel
theorem s103_59 {l0 : Nat} {l1 : Int} {l2 : Int} {x0 : Int} : WP m103 59 [.inr (.inl l0), .inl l1, .inl l2] [.inl x0] σ Q = Q [.inl x0] σ := w_ri d103_59 rfl
theorem e103 {p0 : Nat} {p1 : Int} {p2 : Int} : CA m103 [.inr (.inl p0), .inl p1, .inl p2] σ Q = WP m103 0 [.inr (.inl p0), .inl p1, .inl p2] [] σ Q := rfl
-- BinderPress.sameKind(II)I
theorem d104_0 : adec m104 0 = some (.iload_n 1, 1) := by decide +kernel
theorem s104_0 {l0 : Nat} {l1 : Int} {l2 : Int} : WP m104 0 [.inr (.inl l0), .inl l1, .inl l2] [] σ Q = WP m104 1 [.inr (.inl l0), .inl l1, .inl l2] [.inl l1] σ Q := w_ld d104_0 rfl
theorem d104_1 : adec m104 1 = some (.invokestatic 98, 3) := by decide +kernel
theorem s104_1 {l0 : Nat} {l1 : Int} {l2 : Int} {x0 : Int} : WP m104 1 [.inr (.inl l0), .inl l1, .inl l2] [.inl x0] σ Q = CA m113 [.inl x0] σ (fun v σ2 => WP m104 4 [.inr (.inl l0), .inl l1, .inl l2] (v ++ []) σ2 Q) := w_cS (k := 113) d104_1 (by decide +kernel) (md := 1) (by decide +kernel) m113_at rfl rfl ⟨Nat.le_of_ble_eq_true rfl, Nat.le_of_ble_eq_true rfl, Nat.le_of_ble_eq_true rfl⟩ (by decide)
theorem d104_4 : adec m104 4 = some (.ifCond .eq (10), 3) := by decide +kernel
theorem s104_4 {l0 : Nat} {l1 : Int} {l2 : Int} {x0 : Int} : WP m104 4 [.inr (.inl l0), .inl l1, .inl l2] [.inl x0] σ Q = (if x0 = 0 then WP m104 14 [.inr (.inl l0), .inl l1, .inl l2] [] σ Q else WP m104 7 [.inr (.inl l0), .inl l1, .inl l2] [] σ Q) := w_ifeq d104_4 (by decide)
theorem d104_7 : adec m104 7 = some (.iload_n 2, 1) := by decide +kernel
theorem s104_7 {l0 : Nat} {l1 : Int} {l2 : Int} : WP m104 7 [.inr (.inl l0), .inl l1, .inl l2] [] σ Q = WP m104 8 [.inr (.inl l0), .inl l1, .inl l2] [.inl l2] σ Q := w_ld d104_7 rfl
theorem d104_8 : adec m104 8 = some (.invokestatic 98, 3) := by decide +kernel
theorem s104_8 {l0 : Nat} {l1 : Int} {l2 : Int} {x0 : Int} : WP m104 8 [.inr (.inl l0), .inl l1, .inl l2] [.inl x0] σ Q = CA m113 [.inl x0] σ (fun v σ2 => WP m104 11 [.inr (.inl l0), .inl l1, .inl l2] (v ++ []) σ2 Q) := w_cS (k := 113) d104_8 (by decide +kernel) (md := 1) (by decide +kernel) m113_at rfl rfl ⟨Nat.le_of_ble_eq_true rfl, Nat.le_of_ble_eq_true rfl, Nat.le_of_ble_eq_true rfl⟩ (by decide)
theorem d104_11 : adec m104 11 = some (.ifCond .ne (6), 3) := by decide +kernel
theorem s104_11 {l0 : Nat} {l1 : Int} {l2 : Int} {x0 : Int} : WP m104 11 [.inr (.inl l0), .inl l1, .inl l2] [.inl x0] σ Q = (if x0 = 0 then WP m104 14 [.inr (.inl l0), .inl l1, .inl l2] [] σ Q else WP m104 17 [.inr (.inl l0), .inl l1, .inl l2] [] σ Q) := w_ifne d104_11 (by decide)
theorem d104_14 : adec m104 14 = some (.ldc 102, 2) := by decide +kernel
theorem s104_14 {l0 : Nat} {l1 : Int} {l2 : Int} : WP m104 14 [.inr (.inl l0), .inl l1, .inl l2] [] σ Q = WP m104 16 [.inr (.inl l0), .inl l1, .inl l2] [.inl (-1000000001)] σ Q := w_ldc d104_14 (by decide +kernel) (by decide)
theorem d104_16 : adec m104 16 = some (.ireturn, 1) := by decide +kernel
theorem s104_16 {l0 : Nat} {l1 : Int} {l2 : Int} {x0 : Int} : WP m104 16 [.inr (.inl l0), .inl l1, .inl l2] [.inl x0] σ Q = Q [.inl x0] σ := w_ri d104_16 rfl
theorem d104_17 : adec m104 17 = some (.aload_n 0, 1) := by decide +kernel
theorem s104_17 {l0 : Nat} {l1 : Int} {l2 : Int} : WP m104 17 [.inr (.inl l0), .inl l1, .inl l2] [] σ Q = WP m104 18 [.inr (.inl l0), .inl l1, .inl l2] [.inr (.inl l0)] σ Q := w_ld d104_17 rfl
theorem d104_18 : adec m104 18 = some (.iload_n 1, 1) := by decide +kernel
theorem s104_18 {l0 : Nat} {l1 : Int} {l2 : Int} {x0 : Nat} : WP m104 18 [.inr (.inl l0), .inl l1, .inl l2] [.inr (.inl x0)] σ Q = WP m104 19 [.inr (.inl l0), .inl l1, .inl l2] [.inl l1, .inr (.inl x0)] σ Q := w_ld d104_18 rfl
theorem d104_19 : adec m104 19 = some (.invokevirtual 117, 3) := by decide +kernel
theorem s104_19 {l0 : Nat} {l1 : Int} {l2 : Int} {x1 : Int} : WP m104 19 [.inr (.inl l0), .inl l1, .inl l2] [.inl x1, .inr (.inl 0)] σ Q = CA m111 [.inr (.inl 0), .inl x1] σ (fun v σ2 => WP m104 22 [.inr (.inl l0), .inl l1, .inl l2] (v ++ []) σ2 Q) := (w_cV (k := 111) d104_19 (by decide +kernel) m111_at rfl rfl ⟨Nat.le_of_ble_eq_true rfl, Nat.le_of_ble_eq_true rfl, Nat.le_of_ble_eq_true rfl⟩ (by decide)).trans (g_and (isO_dec (by decide +kernel)))
theorem d104_22 : adec m104 22 = some (.ifCond .ne (11), 3) := by decide +kernel
theorem s104_22 {l0 : Nat} {l1 : Int} {l2 : Int} {x0 : Int} : WP m104 22 [.inr (.inl l0), .inl l1, .inl l2] [.inl x0] σ Q = (if x0 = 0 then WP m104 25 [.inr (.inl l0), .inl l1, .inl l2] [] σ Q else WP m104 33 [.inr (.inl l0), .inl l1, .inl l2] [] σ Q) := w_ifne d104_22 (by decide)
theorem d104_25 : adec m104 25 = some (.aload_n 0, 1) := by decide +kernel
theorem s104_25 {l0 : Nat} {l1 : Int} {l2 : Int} : WP m104 25 [.inr (.inl l0), .inl l1, .inl l2] [] σ Q = WP m104 26 [.inr (.inl l0), .inl l1, .inl l2] [.inr (.inl l0)] σ Q := w_ld d104_25 rfl
theorem d104_26 : adec m104 26 = some (.iload_n 2, 1) := by decide +kernel
theorem s104_26 {l0 : Nat} {l1 : Int} {l2 : Int} {x0 : Nat} : WP m104 26 [.inr (.inl l0), .inl l1, .inl l2] [.inr (.inl x0)] σ Q = WP m104 27 [.inr (.inl l0), .inl l1, .inl l2] [.inl l2, .inr (.inl x0)] σ Q := w_ld d104_26 rfl
theorem d104_27 : adec m104 27 = some (.invokevirtual 117, 3) := by decide +kernel
theorem s104_27 {l0 : Nat} {l1 : Int} {l2 : Int} {x1 : Int} : WP m104 27 [.inr (.inl l0), .inl l1, .inl l2] [.inl x1, .inr (.inl 0)] σ Q = CA m111 [.inr (.inl 0), .inl x1] σ (fun v σ2 => WP m104 30 [.inr (.inl l0), .inl l1, .inl l2] (v ++ []) σ2 Q) := (w_cV (k := 111) d104_27 (by decide +kernel) m111_at rfl rfl ⟨Nat.le_of_ble_eq_true rfl, Nat.le_of_ble_eq_true rfl, Nat.le_of_ble_eq_true rfl⟩ (by decide)).trans (g_and (isO_dec (by decide +kernel)))
theorem d104_30 : adec m104 30 = some (.ifCond .eq (6), 3) := by decide +kernel
theorem s104_30 {l0 : Nat} {l1 : Int} {l2 : Int} {x0 : Int} : WP m104 30 [.inr (.inl l0), .inl l1, .inl l2] [.inl x0] σ Q = (if x0 = 0 then WP m104 36 [.inr (.inl l0), .inl l1, .inl l2] [] σ Q else WP m104 33 [.inr (.inl l0), .inl l1, .inl l2] [] σ Q) := w_ifeq d104_30 (by decide)
theorem d104_33 : adec m104 33 = some (.ldc 120, 2) := by decide +kernel
theorem s104_33 {l0 : Nat} {l1 : Int} {l2 : Int} : WP m104 33 [.inr (.inl l0), .inl l1, .inl l2] [] σ Q = WP m104 35 [.inr (.inl l0), .inl l1, .inl l2] [.inl (-1000000003)] σ Q := w_ldc d104_33 (by decide +kernel) (by decide)
theorem d104_35 : adec m104 35 = some (.ireturn, 1) := by decide +kernel
theorem s104_35 {l0 : Nat} {l1 : Int} {l2 : Int} {x0 : Int} : WP m104 35 [.inr (.inl l0), .inl l1, .inl l2] [.inl x0] σ Q = Q [.inl x0] σ := w_ri d104_35 rfl
theorem d104_36 : adec m104 36 = some (.aload_n 0, 1) := by decide +kernel
theorem s104_36 {l0 : Nat} {l1 : Int} {l2 : Int} : WP m104 36 [.inr (.inl l0), .inl l1, .inl l2] [] σ Q = WP m104 37 [.inr (.inl l0), .inl l1, .inl l2] [.inr (.inl l0)] σ Q := w_ld d104_36 rfl
theorem d104_37 : adec m104 37 = some (.getfield 81, 3) := by decide +kernel
theorem s104_37 {l0 : Nat} {l1 : Int} {l2 : Int} : WP m104 37 [.inr (.inl l0), .inl l1, .inl l2] [.inr (.inl 0)] σ Q = WP m104 40 [.inr (.inl l0), .inl l1, .inl l2] [.inr (.inl 108)] σ Q := (w_getR (c := 9) (n := 11) d104_37 (by decide +kernel) (by decide +kernel)).trans (g_and ⟨isO_dec (by decide +kernel), by decide +kernel⟩)
theorem d104_40 : adec m104 40 = some (.aload_n 0, 1) := by decide +kernel
theorem s104_40 {l0 : Nat} {l1 : Int} {l2 : Int} {x0 : Nat} : WP m104 40 [.inr (.inl l0), .inl l1, .inl l2] [.inr (.inl x0)] σ Q = WP m104 41 [.inr (.inl l0), .inl l1, .inl l2] [.inr (.inl l0), .inr (.inl x0)] σ Q := w_ld d104_40 rfl
theorem d104_41 : adec m104 41 = some (.getfield 22, 3) := by decide +kernel
theorem s104_41 {l0 : Nat} {l1 : Int} {l2 : Int} {x0 : Nat} : WP m104 41 [.inr (.inl l0), .inl l1, .inl l2] [.inr (.inl 0), .inr (.inl x0)] σ Q = WP m104 44 [.inr (.inl l0), .inl l1, .inl l2] [.inr (.inl 3), .inr (.inl x0)] σ Q := (w_getR (c := 9) (n := 1) d104_41 (by decide +kernel) (by decide +kernel)).trans (g_and ⟨isO_dec (by decide +kernel), by decide +kernel⟩)
theorem d104_44 : adec m104 44 = some (.iload_n 1, 1) := by decide +kernel
theorem s104_44 {l0 : Nat} {l1 : Int} {l2 : Int} {x0 : Nat} {x1 : Nat} : WP m104 44 [.inr (.inl l0), .inl l1, .inl l2] [.inr (.inl x1), .inr (.inl x0)] σ Q = WP m104 45 [.inr (.inl l0), .inl l1, .inl l2] [.inl l1, .inr (.inl x1), .inr (.inl x0)] σ Q := w_ld d104_44 rfl
theorem d104_45 : adec m104 45 = some (.aaload, 1) := by decide +kernel
theorem s104_45 {l0 : Nat} {l1 : Int} {l2 : Int} {x0 : Nat} {x1 : Nat} {x2 : Int} (h31 : x1 ≠ 31) : WP m104 45 [.inr (.inl l0), .inl l1, .inl l2] [.inl x2, .inr (.inl x1), .inr (.inl x0)] σ Q = ((kdS x1 = 22 ∧ 0 ≤ x2 ∧ x2 < ln x1 ∧ 0 ≤ PT x1 x2.toNat) ∧ WP m104 46 [.inr (.inl l0), .inl l1, .inl l2] [.inr (.inl (pt x1 x2.toNat)), .inr (.inl x0)] σ Q) := w_aald d104_45 h31
theorem d104_46 : adec m104 46 = some (.invokevirtual 192, 3) := by decide +kernel
theorem s104_46 {l0 : Nat} {l1 : Int} {l2 : Int} {x1 : Nat} : WP m104 46 [.inr (.inl l0), .inl l1, .inl l2] [.inr (.inl x1), .inr (.inl 108)] σ Q = CA m51 [.inr (.inl 108), .inr (.inl x1)] σ (fun v σ2 => WP m104 49 [.inr (.inl l0), .inl l1, .inl l2] (v ++ []) σ2 Q) := (w_cV (k := 51) d104_46 (by decide +kernel) m51_at rfl rfl ⟨Nat.le_of_ble_eq_true rfl, Nat.le_of_ble_eq_true rfl, Nat.le_of_ble_eq_true rfl⟩ (by decide)).trans (g_and (isO_dec (by decide +kernel)))
theorem d104_49 : adec m104 49 = some (.ifCond .ne (6), 3) := by decide +kernel
theorem s104_49 {l0 : Nat} {l1 : Int} {l2 : Int} {x0 : Int} : WP m104 49 [.inr (.inl l0), .inl l1, .inl l2] [.inl x0] σ Q = (if x0 = 0 then WP m104 52 [.inr (.inl l0), .inl l1, .inl l2] [] σ Q else WP m104 55 [.inr (.inl l0), .inl l1, .inl l2] [] σ Q) := w_ifne d104_49 (by decide)
theorem d104_52 : adec m104 52 = some (.ldc 94, 2) := by decide +kernel
theorem s104_52 {l0 : Nat} {l1 : Int} {l2 : Int} : WP m104 52 [.inr (.inl l0), .inl l1, .inl l2] [] σ Q = WP m104 54 [.inr (.inl l0), .inl l1, .inl l2] [.inl (-1000000004)] σ Q := w_ldc d104_52 (by decide +kernel) (by decide)
theorem d104_54 : adec m104 54 = some (.ireturn, 1) := by decide +kernel
theorem s104_54 {l0 : Nat} {l1 : Int} {l2 : Int} {x0 : Int} : WP m104 54 [.inr (.inl l0), .inl l1, .inl l2] [.inl x0] σ Q = Q [.inl x0] σ := w_ri d104_54 rfl
theorem d104_55 : adec m104 55 = some (.aload_n 0, 1) := by decide +kernel
theorem s104_55 {l0 : Nat} {l1 : Int} {l2 : Int} : WP m104 55 [.inr (.inl l0), .inl l1, .inl l2] [] σ Q = WP m104 56 [.inr (.inl l0), .inl l1, .inl l2] [.inr (.inl l0)] σ Q := w_ld d104_55 rfl
theorem d104_56 : adec m104 56 = some (.getfield 40, 3) := by decide +kernel
theorem s104_56 {l0 : Nat} {l1 : Int} {l2 : Int} : WP m104 56 [.inr (.inl l0), .inl l1, .inl l2] [.inr (.inl 0)] σ Q = WP m104 59 [.inr (.inl l0), .inl l1, .inl l2] [.inr (.inl 53)] σ Q := (w_getR (c := 9) (n := 5) d104_56 (by decide +kernel) (by decide +kernel)).trans (g_and ⟨isO_dec (by decide +kernel), by decide +kernel⟩)
theorem d104_59 : adec m104 59 = some (.aload_n 0, 1) := by decide +kernel
theorem s104_59 {l0 : Nat} {l1 : Int} {l2 : Int} {x0 : Nat} : WP m104 59 [.inr (.inl l0), .inl l1, .inl l2] [.inr (.inl x0)] σ Q = WP m104 60 [.inr (.inl l0), .inl l1, .inl l2] [.inr (.inl l0), .inr (.inl x0)] σ Q := w_ld d104_59 rfl
theorem d104_60 : adec m104 60 = some (.getfield 81, 3) := by decide +kernel
theorem s104_60 {l0 : Nat} {l1 : Int} {l2 : Int} {x0 : Nat} : WP m104 60 [.inr (.inl l0), .inl l1, .inl l2] [.inr (.inl 0), .inr (.inl x0)] σ Q = WP m104 63 [.inr (.inl l0), .inl l1, .inl l2] [.inr (.inl 108), .inr (.inl x0)] σ Q := (w_getR (c := 9) (n := 11) d104_60 (by decide +kernel) (by decide +kernel)).trans (g_and ⟨isO_dec (by decide +kernel), by decide +kernel⟩)
theorem d104_63 : adec m104 63 = some (.invokevirtual 194, 3) := by decide +kernel
theorem s104_63 {l0 : Nat} {l1 : Int} {l2 : Int} {x0 : Nat} : WP m104 63 [.inr (.inl l0), .inl l1, .inl l2] [.inr (.inl 108), .inr (.inl x0)] σ Q = CA m49 [.inr (.inl 108)] σ (fun v σ2 => WP m104 66 [.inr (.inl l0), .inl l1, .inl l2] (v ++ [.inr (.inl x0)]) σ2 Q) := (w_cV (k := 49) d104_63 (by decide +kernel) m49_at rfl rfl ⟨Nat.le_of_ble_eq_true rfl, Nat.le_of_ble_eq_true rfl, Nat.le_of_ble_eq_true rfl⟩ (by decide)).trans (g_and (isO_dec (by decide +kernel)))
theorem d104_66 : adec m104 66 = some (.invokevirtual 154, 3) := by decide +kernel
theorem s104_66 {l0 : Nat} {l1 : Int} {l2 : Int} {x0 : Nat} {x1 : Nat} : WP m104 66 [.inr (.inl l0), .inl l1, .inl l2] [.inr (.inl x1), .inr (.inl x0)] σ Q = (isO x0 3 ∧ CA m40 [.inr (.inl x0), .inr (.inl x1)] σ (fun v σ2 => WP m104 69 [.inr (.inl l0), .inl l1, .inl l2] (v ++ []) σ2 Q)) := w_cV (k := 40) d104_66 (by decide +kernel) m40_at rfl rfl ⟨Nat.le_of_ble_eq_true rfl, Nat.le_of_ble_eq_true rfl, Nat.le_of_ble_eq_true rfl⟩ (by decide)
theorem d104_69 : adec m104 69 = some (.aload_n 0, 1) := by decide +kernel
theorem s104_69 {l0 : Nat} {l1 : Int} {l2 : Int} : WP m104 69 [.inr (.inl l0), .inl l1, .inl l2] [] σ Q = WP m104 70 [.inr (.inl l0), .inl l1, .inl l2] [.inr (.inl l0)] σ Q := w_ld d104_69 rfl
theorem d104_70 : adec m104 70 = some (.getfield 81, 3) := by decide +kernel
theorem s104_70 {l0 : Nat} {l1 : Int} {l2 : Int} : WP m104 70 [.inr (.inl l0), .inl l1, .inl l2] [.inr (.inl 0)] σ Q = WP m104 73 [.inr (.inl l0), .inl l1, .inl l2] [.inr (.inl 108)] σ Q := (w_getR (c := 9) (n := 11) d104_70 (by decide +kernel) (by decide +kernel)).trans (g_and ⟨isO_dec (by decide +kernel), by decide +kernel⟩)
theorem d104_73 : adec m104 73 = some (.aload_n 0, 1) := by decide +kernel
theorem s104_73 {l0 : Nat} {l1 : Int} {l2 : Int} {x0 : Nat} : WP m104 73 [.inr (.inl l0), .inl l1, .inl l2] [.inr (.inl x0)] σ Q = WP m104 74 [.inr (.inl l0), .inl l1, .inl l2] [.inr (.inl l0), .inr (.inl x0)] σ Q := w_ld d104_73 rfl
theorem d104_74 : adec m104 74 = some (.getfield 22, 3) := by decide +kernel
theorem s104_74 {l0 : Nat} {l1 : Int} {l2 : Int} {x0 : Nat} : WP m104 74 [.inr (.inl l0), .inl l1, .inl l2] [.inr (.inl 0), .inr (.inl x0)] σ Q = WP m104 77 [.inr (.inl l0), .inl l1, .inl l2] [.inr (.inl 3), .inr (.inl x0)] σ Q := (w_getR (c := 9) (n := 1) d104_74 (by decide +kernel) (by decide +kernel)).trans (g_and ⟨isO_dec (by decide +kernel), by decide +kernel⟩)
theorem d104_77 : adec m104 77 = some (.iload_n 2, 1) := by decide +kernel
theorem s104_77 {l0 : Nat} {l1 : Int} {l2 : Int} {x0 : Nat} {x1 : Nat} : WP m104 77 [.inr (.inl l0), .inl l1, .inl l2] [.inr (.inl x1), .inr (.inl x0)] σ Q = WP m104 78 [.inr (.inl l0), .inl l1, .inl l2] [.inl l2, .inr (.inl x1), .inr (.inl x0)] σ Q := w_ld d104_77 rfl
theorem d104_78 : adec m104 78 = some (.aaload, 1) := by decide +kernel
theorem s104_78 {l0 : Nat} {l1 : Int} {l2 : Int} {x0 : Nat} {x1 : Nat} {x2 : Int} (h31 : x1 ≠ 31) : WP m104 78 [.inr (.inl l0), .inl l1, .inl l2] [.inl x2, .inr (.inl x1), .inr (.inl x0)] σ Q = ((kdS x1 = 22 ∧ 0 ≤ x2 ∧ x2 < ln x1 ∧ 0 ≤ PT x1 x2.toNat) ∧ WP m104 79 [.inr (.inl l0), .inl l1, .inl l2] [.inr (.inl (pt x1 x2.toNat)), .inr (.inl x0)] σ Q) := w_aald d104_78 h31
theorem d104_79 : adec m104 79 = some (.invokevirtual 192, 3) := by decide +kernel
theorem s104_79 {l0 : Nat} {l1 : Int} {l2 : Int} {x1 : Nat} : WP m104 79 [.inr (.inl l0), .inl l1, .inl l2] [.inr (.inl x1), .inr (.inl 108)] σ Q = CA m51 [.inr (.inl 108), .inr (.inl x1)] σ (fun v σ2 => WP m104 82 [.inr (.inl l0), .inl l1, .inl l2] (v ++ []) σ2 Q) := (w_cV (k := 51) d104_79 (by decide +kernel) m51_at rfl rfl ⟨Nat.le_of_ble_eq_true rfl, Nat.le_of_ble_eq_true rfl, Nat.le_of_ble_eq_true rfl⟩ (by decide)).trans (g_and (isO_dec (by decide +kernel)))
theorem d104_82 : adec m104 82 = some (.ifCond .ne (6), 3) := by decide +kernel
theorem s104_82 {l0 : Nat} {l1 : Int} {l2 : Int} {x0 : Int} : WP m104 82 [.inr (.inl l0), .inl l1, .inl l2] [.inl x0] σ Q = (if x0 = 0 then WP m104 85 [.inr (.inl l0), .inl l1, .inl l2] [] σ Q else WP m104 88 [.inr (.inl l0), .inl l1, .inl l2] [] σ Q) := w_ifne d104_82 (by decide)
theorem d104_85 : adec m104 85 = some (.ldc 94, 2) := by decide +kernel
theorem s104_85 {l0 : Nat} {l1 : Int} {l2 : Int} : WP m104 85 [.inr (.inl l0), .inl l1, .inl l2] [] σ Q = WP m104 87 [.inr (.inl l0), .inl l1, .inl l2] [.inl (-1000000004)] σ Q := w_ldc d104_85 (by decide +kernel) (by decide)
theorem d104_87 : adec m104 87 = some (.ireturn, 1) := by decide +kernel
theorem s104_87 {l0 : Nat} {l1 : Int} {l2 : Int} {x0 : Int} : WP m104 87 [.inr (.inl l0), .inl l1, .inl l2] [.inl x0] σ Q = Q [.inl x0] σ := w_ri d104_87 rfl
theorem d104_88 : adec m104 88 = some (.aload_n 0, 1) := by decide +kernel
theorem s104_88 {l0 : Nat} {l1 : Int} {l2 : Int} : WP m104 88 [.inr (.inl l0), .inl l1, .inl l2] [] σ Q = WP m104 89 [.inr (.inl l0), .inl l1, .inl l2] [.inr (.inl l0)] σ Q := w_ld d104_88 rfl
theorem d104_89 : adec m104 89 = some (.getfield 40, 3) := by decide +kernel
theorem s104_89 {l0 : Nat} {l1 : Int} {l2 : Int} : WP m104 89 [.inr (.inl l0), .inl l1, .inl l2] [.inr (.inl 0)] σ Q = WP m104 92 [.inr (.inl l0), .inl l1, .inl l2] [.inr (.inl 53)] σ Q := (w_getR (c := 9) (n := 5) d104_89 (by decide +kernel) (by decide +kernel)).trans (g_and ⟨isO_dec (by decide +kernel), by decide +kernel⟩)
theorem d104_92 : adec m104 92 = some (.aload_n 0, 1) := by decide +kernel
theorem s104_92 {l0 : Nat} {l1 : Int} {l2 : Int} {x0 : Nat} : WP m104 92 [.inr (.inl l0), .inl l1, .inl l2] [.inr (.inl x0)] σ Q = WP m104 93 [.inr (.inl l0), .inl l1, .inl l2] [.inr (.inl l0), .inr (.inl x0)] σ Q := w_ld d104_92 rfl
theorem d104_93 : adec m104 93 = some (.getfield 81, 3) := by decide +kernel
theorem s104_93 {l0 : Nat} {l1 : Int} {l2 : Int} {x0 : Nat} : WP m104 93 [.inr (.inl l0), .inl l1, .inl l2] [.inr (.inl 0), .inr (.inl x0)] σ Q = WP m104 96 [.inr (.inl l0), .inl l1, .inl l2] [.inr (.inl 108), .inr (.inl x0)] σ Q := (w_getR (c := 9) (n := 11) d104_93 (by decide +kernel) (by decide +kernel)).trans (g_and ⟨isO_dec (by decide +kernel), by decide +kernel⟩)
theorem d104_96 : adec m104 96 = some (.invokevirtual 194, 3) := by decide +kernel
theorem s104_96 {l0 : Nat} {l1 : Int} {l2 : Int} {x0 : Nat} : WP m104 96 [.inr (.inl l0), .inl l1, .inl l2] [.inr (.inl 108), .inr (.inl x0)] σ Q = CA m49 [.inr (.inl 108)] σ (fun v σ2 => WP m104 99 [.inr (.inl l0), .inl l1, .inl l2] (v ++ [.inr (.inl x0)]) σ2 Q) := (w_cV (k := 49) d104_96 (by decide +kernel) m49_at rfl rfl ⟨Nat.le_of_ble_eq_true rfl, Nat.le_of_ble_eq_true rfl, Nat.le_of_ble_eq_true rfl⟩ (by decide)).trans (g_and (isO_dec (by decide +kernel)))
theorem d104_99 : adec m104 99 = some (.invokevirtual 215, 3) := by decide +kernel
theorem s104_99 {l0 : Nat} {l1 : Int} {l2 : Int} {x0 : Nat} {x1 : Nat} : WP m104 99 [.inr (.inl l0), .inl l1, .inl l2] [.inr (.inl x1), .inr (.inl x0)] σ Q = (isO x0 3 ∧ CA m41 [.inr (.inl x0), .inr (.inl x1)] σ (fun v σ2 => WP m104 102 [.inr (.inl l0), .inl l1, .inl l2] (v ++ []) σ2 Q)) := w_cV (k := 41) d104_99 (by decide +kernel) m41_at rfl rfl ⟨Nat.le_of_ble_eq_true rfl, Nat.le_of_ble_eq_true rfl, Nat.le_of_ble_eq_true rfl⟩ (by decide)
theorem d104_102 : adec m104 102 = some (.ifCond .eq (7), 3) := by decide +kernel
theorem s104_102 {l0 : Nat} {l1 : Int} {l2 : Int} {x0 : Int} : WP m104 102 [.inr (.inl l0), .inl l1, .inl l2] [.inl x0] σ Q = (if x0 = 0 then WP m104 109 [.inr (.inl l0), .inl l1, .inl l2] [] σ Q else WP m104 105 [.inr (.inl l0), .inl l1, .inl l2] [] σ Q) := w_ifeq d104_102 (by decide)
theorem d104_105 : adec m104 105 = some (.iconst (1), 1) := by decide +kernel
theorem s104_105 {l0 : Nat} {l1 : Int} {l2 : Int} : WP m104 105 [.inr (.inl l0), .inl l1, .inl l2] [] σ Q = WP m104 106 [.inr (.inl l0), .inl l1, .inl l2] [.inl (1)] σ Q := w_iconst d104_105 (by decide)
theorem d104_106 : adec m104 106 = some (.goto (4), 3) := by decide +kernel
theorem s104_106 {l0 : Nat} {l1 : Int} {l2 : Int} {x0 : Int} : WP m104 106 [.inr (.inl l0), .inl l1, .inl l2] [.inl x0] σ Q = WP m104 110 [.inr (.inl l0), .inl l1, .inl l2] [.inl x0] σ Q := w_goto d104_106 (by decide)
theorem d104_109 : adec m104 109 = some (.iconst (0), 1) := by decide +kernel
theorem s104_109 {l0 : Nat} {l1 : Int} {l2 : Int} : WP m104 109 [.inr (.inl l0), .inl l1, .inl l2] [] σ Q = WP m104 110 [.inr (.inl l0), .inl l1, .inl l2] [.inl (0)] σ Q := w_iconst d104_109 (by decide)
theorem d104_110 : adec m104 110 = some (.ireturn, 1) := by decide +kernel
theorem s104_110 {l0 : Nat} {l1 : Int} {l2 : Int} {x0 : Int} : WP m104 110 [.inr (.inl l0), .inl l1, .inl l2] [.inl x0] σ Q = Q [.inl x0] σ := w_ri d104_110 rfl
theorem e104 {p0 : Nat} {p1 : Int} {p2 : Int} : CA m104 [.inr (.inl p0), .inl p1, .inl p2] σ Q = WP m104 0 [.inr (.inl p0), .inl p1, .inl p2] [] σ Q := rfl
-- BinderPress.keep(I)I
theorem d105_0 : adec m105 0 = some (.iload_n 1, 1) := by decide +kernel
theorem s105_0 {l0 : Nat} {l1 : Int} {l2 : AV} : WP m105 0 [.inr (.inl l0), .inl l1, l2] [] σ Q = WP m105 1 [.inr (.inl l0), .inl l1, l2] [.inl l1] σ Q := w_ld d105_0 rfl
theorem d105_1 : adec m105 1 = some (.invokestatic 218, 3) := by decide +kernel
theorem s105_1 {l0 : Nat} {l1 : Int} {l2 : AV} {x0 : Int} : WP m105 1 [.inr (.inl l0), .inl l1, l2] [.inl x0] σ Q = CA m114 [.inl x0] σ (fun v σ2 => WP m105 4 [.inr (.inl l0), .inl l1, l2] (v ++ []) σ2 Q) := w_cS (k := 114) d105_1 (by decide +kernel) (md := 1) (by decide +kernel) m114_at rfl rfl ⟨Nat.le_of_ble_eq_true rfl, Nat.le_of_ble_eq_true rfl, Nat.le_of_ble_eq_true rfl⟩ (by decide)
theorem d105_4 : adec m105 4 = some (.ifCond .ne (6), 3) := by decide +kernel
theorem s105_4 {l0 : Nat} {l1 : Int} {l2 : AV} {x0 : Int} : WP m105 4 [.inr (.inl l0), .inl l1, l2] [.inl x0] σ Q = (if x0 = 0 then WP m105 7 [.inr (.inl l0), .inl l1, l2] [] σ Q else WP m105 10 [.inr (.inl l0), .inl l1, l2] [] σ Q) := w_ifne d105_4 (by decide)
theorem d105_7 : adec m105 7 = some (.ldc 102, 2) := by decide +kernel
theorem s105_7 {l0 : Nat} {l1 : Int} {l2 : AV} : WP m105 7 [.inr (.inl l0), .inl l1, l2] [] σ Q = WP m105 9 [.inr (.inl l0), .inl l1, l2] [.inl (-1000000001)] σ Q := w_ldc d105_7 (by decide +kernel) (by decide)
theorem d105_9 : adec m105 9 = some (.ireturn, 1) := by decide +kernel
theorem s105_9 {l0 : Nat} {l1 : Int} {l2 : AV} {x0 : Int} : WP m105 9 [.inr (.inl l0), .inl l1, l2] [.inl x0] σ Q = Q [.inl x0] σ := w_ri d105_9 rfl
theorem d105_10 : adec m105 10 = some (.iconst (0), 1) := by decide +kernel
theorem s105_10 {l0 : Nat} {l1 : Int} {l2 : AV} : WP m105 10 [.inr (.inl l0), .inl l1, l2] [] σ Q = WP m105 11 [.inr (.inl l0), .inl l1, l2] [.inl (0)] σ Q := w_iconst d105_10 (by decide)
theorem d105_11 : adec m105 11 = some (.istore_n 2, 1) := by decide +kernel
theorem s105_11 {l0 : Nat} {l1 : Int} {l2 : AV} {x0 : Int} : WP m105 11 [.inr (.inl l0), .inl l1, l2] [.inl x0] σ Q = WP m105 12 [.inr (.inl l0), .inl l1, .inl x0] [] σ Q := w_st1 (j := 2) d105_11 rfl (Nat.le_of_ble_eq_true rfl) rfl
theorem d105_12 : adec m105 12 = some (.iload_n 2, 1) := by decide +kernel
theorem s105_12 {l0 : Nat} {l1 : Int} {l2 : Int} : WP m105 12 [.inr (.inl l0), .inl l1, .inl l2] [] σ Q = WP m105 13 [.inr (.inl l0), .inl l1, .inl l2] [.inl l2] σ Q := w_ld d105_12 rfl
theorem d105_13 : adec m105 13 = some (.iconst (4), 1) := by decide +kernel
theorem s105_13 {l0 : Nat} {l1 : Int} {l2 : Int} {x0 : Int} : WP m105 13 [.inr (.inl l0), .inl l1, .inl l2] [.inl x0] σ Q = WP m105 14 [.inr (.inl l0), .inl l1, .inl l2] [.inl (4), .inl x0] σ Q := w_iconst d105_13 (by decide)
theorem d105_14 : adec m105 14 = some (.if_icmp .ge (28), 3) := by decide +kernel
theorem s105_14 {l0 : Nat} {l1 : Int} {l2 : Int} {x0 : Int} {x1 : Int} : WP m105 14 [.inr (.inl l0), .inl l1, .inl l2] [.inl x1, .inl x0] σ Q = (if x1 ≤ x0 then WP m105 42 [.inr (.inl l0), .inl l1, .inl l2] [] σ Q else WP m105 17 [.inr (.inl l0), .inl l1, .inl l2] [] σ Q) := w_icge d105_14 (by decide)
theorem d105_17 : adec m105 17 = some (.aload_n 0, 1) := by decide +kernel
theorem s105_17 {l0 : Nat} {l1 : Int} {l2 : Int} : WP m105 17 [.inr (.inl l0), .inl l1, .inl l2] [] σ Q = WP m105 18 [.inr (.inl l0), .inl l1, .inl l2] [.inr (.inl l0)] σ Q := w_ld d105_17 rfl
theorem d105_18 : adec m105 18 = some (.getfield 26, 3) := by decide +kernel
theorem s105_18 {l0 : Nat} {l1 : Int} {l2 : Int} : WP m105 18 [.inr (.inl l0), .inl l1, .inl l2] [.inr (.inl 0)] σ Q = WP m105 21 [.inr (.inl l0), .inl l1, .inl l2] [.inr (.inl 12)] σ Q := (w_getR (c := 9) (n := 2) d105_18 (by decide +kernel) (by decide +kernel)).trans (g_and ⟨isO_dec (by decide +kernel), by decide +kernel⟩)
theorem d105_21 : adec m105 21 = some (.iload_n 1, 1) := by decide +kernel
theorem s105_21 {l0 : Nat} {l1 : Int} {l2 : Int} {x0 : Nat} : WP m105 21 [.inr (.inl l0), .inl l1, .inl l2] [.inr (.inl x0)] σ Q = WP m105 22 [.inr (.inl l0), .inl l1, .inl l2] [.inl l1, .inr (.inl x0)] σ Q := w_ld d105_21 rfl
theorem d105_22 : adec m105 22 = some (.iconst (4), 1) := by decide +kernel
theorem s105_22 {l0 : Nat} {l1 : Int} {l2 : Int} {x0 : Nat} {x1 : Int} : WP m105 22 [.inr (.inl l0), .inl l1, .inl l2] [.inl x1, .inr (.inl x0)] σ Q = WP m105 23 [.inr (.inl l0), .inl l1, .inl l2] [.inl (4), .inl x1, .inr (.inl x0)] σ Q := w_iconst d105_22 (by decide)
theorem d105_23 : adec m105 23 = some (.imul, 1) := by decide +kernel
theorem s105_23 {l0 : Nat} {l1 : Int} {l2 : Int} {x0 : Nat} {x1 : Int} {x2 : Int} : WP m105 23 [.inr (.inl l0), .inl l1, .inl l2] [.inl x2, .inl x1, .inr (.inl x0)] σ Q = (inI (x1 * x2) ∧ WP m105 24 [.inr (.inl l0), .inl l1, .inl l2] [.inl (x1 * x2), .inr (.inl x0)] σ Q) := w_imul d105_23
theorem d105_24 : adec m105 24 = some (.iload_n 2, 1) := by decide +kernel
theorem s105_24 {l0 : Nat} {l1 : Int} {l2 : Int} {x0 : Nat} {x1 : Int} : WP m105 24 [.inr (.inl l0), .inl l1, .inl l2] [.inl x1, .inr (.inl x0)] σ Q = WP m105 25 [.inr (.inl l0), .inl l1, .inl l2] [.inl l2, .inl x1, .inr (.inl x0)] σ Q := w_ld d105_24 rfl
theorem d105_25 : adec m105 25 = some (.iadd, 1) := by decide +kernel
theorem s105_25 {l0 : Nat} {l1 : Int} {l2 : Int} {x0 : Nat} {x1 : Int} {x2 : Int} : WP m105 25 [.inr (.inl l0), .inl l1, .inl l2] [.inl x2, .inl x1, .inr (.inl x0)] σ Q = (inI (x1 + x2) ∧ WP m105 26 [.inr (.inl l0), .inl l1, .inl l2] [.inl (x1 + x2), .inr (.inl x0)] σ Q) := w_iadd d105_25
theorem d105_26 : adec m105 26 = some (.aaload, 1) := by decide +kernel
theorem s105_26 {l0 : Nat} {l1 : Int} {l2 : Int} {x0 : Nat} {x1 : Int} (h31 : x0 ≠ 31) : WP m105 26 [.inr (.inl l0), .inl l1, .inl l2] [.inl x1, .inr (.inl x0)] σ Q = ((kdS x0 = 22 ∧ 0 ≤ x1 ∧ x1 < ln x0 ∧ 0 ≤ PT x0 x1.toNat) ∧ WP m105 27 [.inr (.inl l0), .inl l1, .inl l2] [.inr (.inl (pt x0 x1.toNat))] σ Q) := w_aald d105_26 h31
theorem d105_27 : adec m105 27 = some (.aload_n 0, 1) := by decide +kernel
theorem s105_27 {l0 : Nat} {l1 : Int} {l2 : Int} {x0 : Nat} : WP m105 27 [.inr (.inl l0), .inl l1, .inl l2] [.inr (.inl x0)] σ Q = WP m105 28 [.inr (.inl l0), .inl l1, .inl l2] [.inr (.inl l0), .inr (.inl x0)] σ Q := w_ld d105_27 rfl
theorem d105_28 : adec m105 28 = some (.getfield 22, 3) := by decide +kernel
theorem s105_28 {l0 : Nat} {l1 : Int} {l2 : Int} {x0 : Nat} : WP m105 28 [.inr (.inl l0), .inl l1, .inl l2] [.inr (.inl 0), .inr (.inl x0)] σ Q = WP m105 31 [.inr (.inl l0), .inl l1, .inl l2] [.inr (.inl 3), .inr (.inl x0)] σ Q := (w_getR (c := 9) (n := 1) d105_28 (by decide +kernel) (by decide +kernel)).trans (g_and ⟨isO_dec (by decide +kernel), by decide +kernel⟩)
theorem d105_31 : adec m105 31 = some (.iload_n 2, 1) := by decide +kernel
theorem s105_31 {l0 : Nat} {l1 : Int} {l2 : Int} {x0 : Nat} {x1 : Nat} : WP m105 31 [.inr (.inl l0), .inl l1, .inl l2] [.inr (.inl x1), .inr (.inl x0)] σ Q = WP m105 32 [.inr (.inl l0), .inl l1, .inl l2] [.inl l2, .inr (.inl x1), .inr (.inl x0)] σ Q := w_ld d105_31 rfl
theorem d105_32 : adec m105 32 = some (.aaload, 1) := by decide +kernel
theorem s105_32 {l0 : Nat} {l1 : Int} {l2 : Int} {x0 : Nat} {x1 : Nat} {x2 : Int} (h31 : x1 ≠ 31) : WP m105 32 [.inr (.inl l0), .inl l1, .inl l2] [.inl x2, .inr (.inl x1), .inr (.inl x0)] σ Q = ((kdS x1 = 22 ∧ 0 ≤ x2 ∧ x2 < ln x1 ∧ 0 ≤ PT x1 x2.toNat) ∧ WP m105 33 [.inr (.inl l0), .inl l1, .inl l2] [.inr (.inl (pt x1 x2.toNat)), .inr (.inl x0)] σ Q) := w_aald d105_32 h31
theorem d105_33 : adec m105 33 = some (.invokevirtual 154, 3) := by decide +kernel
theorem s105_33 {l0 : Nat} {l1 : Int} {l2 : Int} {x0 : Nat} {x1 : Nat} : WP m105 33 [.inr (.inl l0), .inl l1, .inl l2] [.inr (.inl x1), .inr (.inl x0)] σ Q = (isO x0 3 ∧ CA m40 [.inr (.inl x0), .inr (.inl x1)] σ (fun v σ2 => WP m105 36 [.inr (.inl l0), .inl l1, .inl l2] (v ++ []) σ2 Q)) := w_cV (k := 40) d105_33 (by decide +kernel) m40_at rfl rfl ⟨Nat.le_of_ble_eq_true rfl, Nat.le_of_ble_eq_true rfl, Nat.le_of_ble_eq_true rfl⟩ (by decide)
theorem d105_36 : adec m105 36 = some (.iinc 2 (1), 3) := by decide +kernel
theorem s105_36 {l0 : Nat} {l1 : Int} {l2 : Int} : WP m105 36 [.inr (.inl l0), .inl l1, .inl l2] [] σ Q = (inI (l2 + (1)) ∧ WP m105 39 [.inr (.inl l0), .inl l1, .inl (l2 + (1))] [] σ Q) := w_iinc d105_36 rfl rfl
theorem d105_39 : adec m105 39 = some (.goto (-27), 3) := by decide +kernel
theorem s105_39 {l0 : Nat} {l1 : Int} {l2 : Int} : WP m105 39 [.inr (.inl l0), .inl l1, .inl l2] [] σ Q = WP m105 12 [.inr (.inl l0), .inl l1, .inl l2] [] σ Q := w_goto d105_39 (by decide)
theorem d105_42 : adec m105 42 = some (.aload_n 0, 1) := by decide +kernel
theorem s105_42 {l0 : Nat} {l1 : Int} {l2 : Int} : WP m105 42 [.inr (.inl l0), .inl l1, .inl l2] [] σ Q = WP m105 43 [.inr (.inl l0), .inl l1, .inl l2] [.inr (.inl l0)] σ Q := w_ld d105_42 rfl
theorem d105_43 : adec m105 43 = some (.getfield 29, 3) := by decide +kernel
theorem s105_43 {l0 : Nat} {l1 : Int} {l2 : Int} : WP m105 43 [.inr (.inl l0), .inl l1, .inl l2] [.inr (.inl 0)] σ Q = WP m105 46 [.inr (.inl l0), .inl l1, .inl l2] [.inr (.inl 29)] σ Q := (w_getR (c := 9) (n := 3) d105_43 (by decide +kernel) (by decide +kernel)).trans (g_and ⟨isO_dec (by decide +kernel), by decide +kernel⟩)
theorem d105_46 : adec m105 46 = some (.iload_n 1, 1) := by decide +kernel
theorem s105_46 {l0 : Nat} {l1 : Int} {l2 : Int} {x0 : Nat} : WP m105 46 [.inr (.inl l0), .inl l1, .inl l2] [.inr (.inl x0)] σ Q = WP m105 47 [.inr (.inl l0), .inl l1, .inl l2] [.inl l1, .inr (.inl x0)] σ Q := w_ld d105_46 rfl
theorem d105_47 : adec m105 47 = some (.iconst (1), 1) := by decide +kernel
theorem s105_47 {l0 : Nat} {l1 : Int} {l2 : Int} {x0 : Nat} {x1 : Int} : WP m105 47 [.inr (.inl l0), .inl l1, .inl l2] [.inl x1, .inr (.inl x0)] σ Q = WP m105 48 [.inr (.inl l0), .inl l1, .inl l2] [.inl (1), .inl x1, .inr (.inl x0)] σ Q := w_iconst d105_47 (by decide)
theorem d105_48 : adec m105 48 = some (.bastore, 1) := by decide +kernel
theorem s105_48 {l0 : Nat} {l1 : Int} {l2 : Int} {x0 : Nat} {x1 : Int} {x2 : Int} : WP m105 48 [.inr (.inl l0), .inl l1, .inl l2] [.inl x2, .inl x1, .inr (.inl x0)] σ Q = ((kdS x0 = 21 ∧ 0 ≤ x1 ∧ x1 < ln x0 ∧ (x2 = 0 ∨ x2 = 1)) ∧ WP m105 49 [.inr (.inl l0), .inl l1, .inl l2] [] (aup σ x0 x1.toNat x2) Q) := w_zast d105_48
theorem d105_49 : adec m105 49 = some (.aload_n 0, 1) := by decide +kernel
theorem s105_49 {l0 : Nat} {l1 : Int} {l2 : Int} : WP m105 49 [.inr (.inl l0), .inl l1, .inl l2] [] σ Q = WP m105 50 [.inr (.inl l0), .inl l1, .inl l2] [.inr (.inl l0)] σ Q := w_ld d105_49 rfl
theorem d105_50 : adec m105 50 = some (.getfield 36, 3) := by decide +kernel
theorem s105_50 {l0 : Nat} {l1 : Int} {l2 : Int} : WP m105 50 [.inr (.inl l0), .inl l1, .inl l2] [.inr (.inl 0)] σ Q = WP m105 53 [.inr (.inl l0), .inl l1, .inl l2] [.inr (.inl 30)] σ Q := (w_getR (c := 9) (n := 4) d105_50 (by decide +kernel) (by decide +kernel)).trans (g_and ⟨isO_dec (by decide +kernel), by decide +kernel⟩)
theorem d105_53 : adec m105 53 = some (.invokevirtual 221, 3) := by decide +kernel
theorem s105_53 {l0 : Nat} {l1 : Int} {l2 : Int} : WP m105 53 [.inr (.inl l0), .inl l1, .inl l2] [.inr (.inl 30)] σ Q = CA m10 [.inr (.inl 30)] σ (fun v σ2 => WP m105 56 [.inr (.inl l0), .inl l1, .inl l2] (v ++ []) σ2 Q) := (w_cV (k := 10) d105_53 (by decide +kernel) m10_at rfl rfl ⟨Nat.le_of_ble_eq_true rfl, Nat.le_of_ble_eq_true rfl, Nat.le_of_ble_eq_true rfl⟩ (by decide)).trans (g_and (isO_dec (by decide +kernel)))
theorem d105_56 : adec m105 56 = some (.iconst (1), 1) := by decide +kernel
theorem s105_56 {l0 : Nat} {l1 : Int} {l2 : Int} : WP m105 56 [.inr (.inl l0), .inl l1, .inl l2] [] σ Q = WP m105 57 [.inr (.inl l0), .inl l1, .inl l2] [.inl (1)] σ Q := w_iconst d105_56 (by decide)
theorem d105_57 : adec m105 57 = some (.ireturn, 1) := by decide +kernel
theorem s105_57 {l0 : Nat} {l1 : Int} {l2 : Int} {x0 : Int} : WP m105 57 [.inr (.inl l0), .inl l1, .inl l2] [.inl x0] σ Q = Q [.inl x0] σ := w_ri d105_57 rfl
theorem e105 {p0 : Nat} {p1 : Int} : CA m105 [.inr (.inl p0), .inl p1] σ Q = WP m105 0 [.inr (.inl p0), .inl p1, vU] [] σ Q := rfl
-- BinderPress.goBack(I)I
theorem d106_0 : adec m106 0 = some (.iload_n 1, 1) := by decide +kernel
theorem s106_0 {l0 : Nat} {l1 : Int} {l2 : AV} : WP m106 0 [.inr (.inl l0), .inl l1, l2] [] σ Q = WP m106 1 [.inr (.inl l0), .inl l1, l2] [.inl l1] σ Q := w_ld d106_0 rfl
theorem d106_1 : adec m106 1 = some (.invokestatic 218, 3) := by decide +kernel
theorem s106_1 {l0 : Nat} {l1 : Int} {l2 : AV} {x0 : Int} : WP m106 1 [.inr (.inl l0), .inl l1, l2] [.inl x0] σ Q = CA m114 [.inl x0] σ (fun v σ2 => WP m106 4 [.inr (.inl l0), .inl l1, l2] (v ++ []) σ2 Q) := w_cS (k := 114) d106_1 (by decide +kernel) (md := 1) (by decide +kernel) m114_at rfl rfl ⟨Nat.le_of_ble_eq_true rfl, Nat.le_of_ble_eq_true rfl, Nat.le_of_ble_eq_true rfl⟩ (by decide)
theorem d106_4 : adec m106 4 = some (.ifCond .ne (6), 3) := by decide +kernel
theorem s106_4 {l0 : Nat} {l1 : Int} {l2 : AV} {x0 : Int} : WP m106 4 [.inr (.inl l0), .inl l1, l2] [.inl x0] σ Q = (if x0 = 0 then WP m106 7 [.inr (.inl l0), .inl l1, l2] [] σ Q else WP m106 10 [.inr (.inl l0), .inl l1, l2] [] σ Q) := w_ifne d106_4 (by decide)
theorem d106_7 : adec m106 7 = some (.ldc 102, 2) := by decide +kernel
theorem s106_7 {l0 : Nat} {l1 : Int} {l2 : AV} : WP m106 7 [.inr (.inl l0), .inl l1, l2] [] σ Q = WP m106 9 [.inr (.inl l0), .inl l1, l2] [.inl (-1000000001)] σ Q := w_ldc d106_7 (by decide +kernel) (by decide)
theorem d106_9 : adec m106 9 = some (.ireturn, 1) := by decide +kernel
theorem s106_9 {l0 : Nat} {l1 : Int} {l2 : AV} {x0 : Int} : WP m106 9 [.inr (.inl l0), .inl l1, l2] [.inl x0] σ Q = Q [.inl x0] σ := w_ri d106_9 rfl
theorem d106_10 : adec m106 10 = some (.aload_n 0, 1) := by decide +kernel
theorem s106_10 {l0 : Nat} {l1 : Int} {l2 : AV} : WP m106 10 [.inr (.inl l0), .inl l1, l2] [] σ Q = WP m106 11 [.inr (.inl l0), .inl l1, l2] [.inr (.inl l0)] σ Q := w_ld d106_10 rfl
theorem d106_11 : adec m106 11 = some (.getfield 29, 3) := by decide +kernel
theorem s106_11 {l0 : Nat} {l1 : Int} {l2 : AV} : WP m106 11 [.inr (.inl l0), .inl l1, l2] [.inr (.inl 0)] σ Q = WP m106 14 [.inr (.inl l0), .inl l1, l2] [.inr (.inl 29)] σ Q := (w_getR (c := 9) (n := 3) d106_11 (by decide +kernel) (by decide +kernel)).trans (g_and ⟨isO_dec (by decide +kernel), by decide +kernel⟩)
theorem d106_14 : adec m106 14 = some (.iload_n 1, 1) := by decide +kernel
theorem s106_14 {l0 : Nat} {l1 : Int} {l2 : AV} {x0 : Nat} : WP m106 14 [.inr (.inl l0), .inl l1, l2] [.inr (.inl x0)] σ Q = WP m106 15 [.inr (.inl l0), .inl l1, l2] [.inl l1, .inr (.inl x0)] σ Q := w_ld d106_14 rfl
theorem d106_15 : adec m106 15 = some (.baload, 1) := by decide +kernel
theorem s106_15 {l0 : Nat} {l1 : Int} {l2 : AV} {x0 : Nat} {x1 : Int} : WP m106 15 [.inr (.inl l0), .inl l1, l2] [.inl x1, .inr (.inl x0)] σ Q = ((kdS x0 = 21 ∧ 0 ≤ x1 ∧ x1 < ln x0) ∧ WP m106 16 [.inr (.inl l0), .inl l1, l2] [.inl (σ x0 x1.toNat)] σ Q) := w_zald d106_15
theorem d106_16 : adec m106 16 = some (.ifCond .ne (6), 3) := by decide +kernel
theorem s106_16 {l0 : Nat} {l1 : Int} {l2 : AV} {x0 : Int} : WP m106 16 [.inr (.inl l0), .inl l1, l2] [.inl x0] σ Q = (if x0 = 0 then WP m106 19 [.inr (.inl l0), .inl l1, l2] [] σ Q else WP m106 22 [.inr (.inl l0), .inl l1, l2] [] σ Q) := w_ifne d106_16 (by decide)
theorem d106_19 : adec m106 19 = some (.ldc 120, 2) := by decide +kernel
theorem s106_19 {l0 : Nat} {l1 : Int} {l2 : AV} : WP m106 19 [.inr (.inl l0), .inl l1, l2] [] σ Q = WP m106 21 [.inr (.inl l0), .inl l1, l2] [.inl (-1000000003)] σ Q := w_ldc d106_19 (by decide +kernel) (by decide)
theorem d106_21 : adec m106 21 = some (.ireturn, 1) := by decide +kernel
theorem s106_21 {l0 : Nat} {l1 : Int} {l2 : AV} {x0 : Int} : WP m106 21 [.inr (.inl l0), .inl l1, l2] [.inl x0] σ Q = Q [.inl x0] σ := w_ri d106_21 rfl
theorem d106_22 : adec m106 22 = some (.iconst (0), 1) := by decide +kernel
theorem s106_22 {l0 : Nat} {l1 : Int} {l2 : AV} : WP m106 22 [.inr (.inl l0), .inl l1, l2] [] σ Q = WP m106 23 [.inr (.inl l0), .inl l1, l2] [.inl (0)] σ Q := w_iconst d106_22 (by decide)
theorem d106_23 : adec m106 23 = some (.istore_n 2, 1) := by decide +kernel
theorem s106_23 {l0 : Nat} {l1 : Int} {l2 : AV} {x0 : Int} : WP m106 23 [.inr (.inl l0), .inl l1, l2] [.inl x0] σ Q = WP m106 24 [.inr (.inl l0), .inl l1, .inl x0] [] σ Q := w_st1 (j := 2) d106_23 rfl (Nat.le_of_ble_eq_true rfl) rfl
theorem d106_24 : adec m106 24 = some (.iload_n 2, 1) := by decide +kernel
theorem s106_24 {l0 : Nat} {l1 : Int} {l2 : Int} : WP m106 24 [.inr (.inl l0), .inl l1, .inl l2] [] σ Q = WP m106 25 [.inr (.inl l0), .inl l1, .inl l2] [.inl l2] σ Q := w_ld d106_24 rfl
theorem d106_25 : adec m106 25 = some (.iconst (4), 1) := by decide +kernel
theorem s106_25 {l0 : Nat} {l1 : Int} {l2 : Int} {x0 : Int} : WP m106 25 [.inr (.inl l0), .inl l1, .inl l2] [.inl x0] σ Q = WP m106 26 [.inr (.inl l0), .inl l1, .inl l2] [.inl (4), .inl x0] σ Q := w_iconst d106_25 (by decide)
theorem d106_26 : adec m106 26 = some (.if_icmp .ge (28), 3) := by decide +kernel
theorem s106_26 {l0 : Nat} {l1 : Int} {l2 : Int} {x0 : Int} {x1 : Int} : WP m106 26 [.inr (.inl l0), .inl l1, .inl l2] [.inl x1, .inl x0] σ Q = (if x1 ≤ x0 then WP m106 54 [.inr (.inl l0), .inl l1, .inl l2] [] σ Q else WP m106 29 [.inr (.inl l0), .inl l1, .inl l2] [] σ Q) := w_icge d106_26 (by decide)
theorem d106_29 : adec m106 29 = some (.aload_n 0, 1) := by decide +kernel
theorem s106_29 {l0 : Nat} {l1 : Int} {l2 : Int} : WP m106 29 [.inr (.inl l0), .inl l1, .inl l2] [] σ Q = WP m106 30 [.inr (.inl l0), .inl l1, .inl l2] [.inr (.inl l0)] σ Q := w_ld d106_29 rfl
theorem d106_30 : adec m106 30 = some (.getfield 22, 3) := by decide +kernel
theorem s106_30 {l0 : Nat} {l1 : Int} {l2 : Int} : WP m106 30 [.inr (.inl l0), .inl l1, .inl l2] [.inr (.inl 0)] σ Q = WP m106 33 [.inr (.inl l0), .inl l1, .inl l2] [.inr (.inl 3)] σ Q := (w_getR (c := 9) (n := 1) d106_30 (by decide +kernel) (by decide +kernel)).trans (g_and ⟨isO_dec (by decide +kernel), by decide +kernel⟩)
theorem d106_33 : adec m106 33 = some (.iload_n 2, 1) := by decide +kernel
theorem s106_33 {l0 : Nat} {l1 : Int} {l2 : Int} {x0 : Nat} : WP m106 33 [.inr (.inl l0), .inl l1, .inl l2] [.inr (.inl x0)] σ Q = WP m106 34 [.inr (.inl l0), .inl l1, .inl l2] [.inl l2, .inr (.inl x0)] σ Q := w_ld d106_33 rfl
theorem d106_34 : adec m106 34 = some (.aaload, 1) := by decide +kernel
theorem s106_34 {l0 : Nat} {l1 : Int} {l2 : Int} {x0 : Nat} {x1 : Int} (h31 : x0 ≠ 31) : WP m106 34 [.inr (.inl l0), .inl l1, .inl l2] [.inl x1, .inr (.inl x0)] σ Q = ((kdS x0 = 22 ∧ 0 ≤ x1 ∧ x1 < ln x0 ∧ 0 ≤ PT x0 x1.toNat) ∧ WP m106 35 [.inr (.inl l0), .inl l1, .inl l2] [.inr (.inl (pt x0 x1.toNat))] σ Q) := w_aald d106_34 h31
theorem d106_35 : adec m106 35 = some (.aload_n 0, 1) := by decide +kernel
theorem s106_35 {l0 : Nat} {l1 : Int} {l2 : Int} {x0 : Nat} : WP m106 35 [.inr (.inl l0), .inl l1, .inl l2] [.inr (.inl x0)] σ Q = WP m106 36 [.inr (.inl l0), .inl l1, .inl l2] [.inr (.inl l0), .inr (.inl x0)] σ Q := w_ld d106_35 rfl
theorem d106_36 : adec m106 36 = some (.getfield 26, 3) := by decide +kernel
theorem s106_36 {l0 : Nat} {l1 : Int} {l2 : Int} {x0 : Nat} : WP m106 36 [.inr (.inl l0), .inl l1, .inl l2] [.inr (.inl 0), .inr (.inl x0)] σ Q = WP m106 39 [.inr (.inl l0), .inl l1, .inl l2] [.inr (.inl 12), .inr (.inl x0)] σ Q := (w_getR (c := 9) (n := 2) d106_36 (by decide +kernel) (by decide +kernel)).trans (g_and ⟨isO_dec (by decide +kernel), by decide +kernel⟩)
theorem d106_39 : adec m106 39 = some (.iload_n 1, 1) := by decide +kernel
theorem s106_39 {l0 : Nat} {l1 : Int} {l2 : Int} {x0 : Nat} {x1 : Nat} : WP m106 39 [.inr (.inl l0), .inl l1, .inl l2] [.inr (.inl x1), .inr (.inl x0)] σ Q = WP m106 40 [.inr (.inl l0), .inl l1, .inl l2] [.inl l1, .inr (.inl x1), .inr (.inl x0)] σ Q := w_ld d106_39 rfl
theorem d106_40 : adec m106 40 = some (.iconst (4), 1) := by decide +kernel
theorem s106_40 {l0 : Nat} {l1 : Int} {l2 : Int} {x0 : Nat} {x1 : Nat} {x2 : Int} : WP m106 40 [.inr (.inl l0), .inl l1, .inl l2] [.inl x2, .inr (.inl x1), .inr (.inl x0)] σ Q = WP m106 41 [.inr (.inl l0), .inl l1, .inl l2] [.inl (4), .inl x2, .inr (.inl x1), .inr (.inl x0)] σ Q := w_iconst d106_40 (by decide)
theorem d106_41 : adec m106 41 = some (.imul, 1) := by decide +kernel
theorem s106_41 {l0 : Nat} {l1 : Int} {l2 : Int} {x0 : Nat} {x1 : Nat} {x2 : Int} {x3 : Int} : WP m106 41 [.inr (.inl l0), .inl l1, .inl l2] [.inl x3, .inl x2, .inr (.inl x1), .inr (.inl x0)] σ Q = (inI (x2 * x3) ∧ WP m106 42 [.inr (.inl l0), .inl l1, .inl l2] [.inl (x2 * x3), .inr (.inl x1), .inr (.inl x0)] σ Q) := w_imul d106_41
theorem d106_42 : adec m106 42 = some (.iload_n 2, 1) := by decide +kernel
theorem s106_42 {l0 : Nat} {l1 : Int} {l2 : Int} {x0 : Nat} {x1 : Nat} {x2 : Int} : WP m106 42 [.inr (.inl l0), .inl l1, .inl l2] [.inl x2, .inr (.inl x1), .inr (.inl x0)] σ Q = WP m106 43 [.inr (.inl l0), .inl l1, .inl l2] [.inl l2, .inl x2, .inr (.inl x1), .inr (.inl x0)] σ Q := w_ld d106_42 rfl
theorem d106_43 : adec m106 43 = some (.iadd, 1) := by decide +kernel
theorem s106_43 {l0 : Nat} {l1 : Int} {l2 : Int} {x0 : Nat} {x1 : Nat} {x2 : Int} {x3 : Int} : WP m106 43 [.inr (.inl l0), .inl l1, .inl l2] [.inl x3, .inl x2, .inr (.inl x1), .inr (.inl x0)] σ Q = (inI (x2 + x3) ∧ WP m106 44 [.inr (.inl l0), .inl l1, .inl l2] [.inl (x2 + x3), .inr (.inl x1), .inr (.inl x0)] σ Q) := w_iadd d106_43
theorem d106_44 : adec m106 44 = some (.aaload, 1) := by decide +kernel
theorem s106_44 {l0 : Nat} {l1 : Int} {l2 : Int} {x0 : Nat} {x1 : Nat} {x2 : Int} (h31 : x1 ≠ 31) : WP m106 44 [.inr (.inl l0), .inl l1, .inl l2] [.inl x2, .inr (.inl x1), .inr (.inl x0)] σ Q = ((kdS x1 = 22 ∧ 0 ≤ x2 ∧ x2 < ln x1 ∧ 0 ≤ PT x1 x2.toNat) ∧ WP m106 45 [.inr (.inl l0), .inl l1, .inl l2] [.inr (.inl (pt x1 x2.toNat)), .inr (.inl x0)] σ Q) := w_aald d106_44 h31
theorem d106_45 : adec m106 45 = some (.invokevirtual 154, 3) := by decide +kernel
theorem s106_45 {l0 : Nat} {l1 : Int} {l2 : Int} {x0 : Nat} {x1 : Nat} : WP m106 45 [.inr (.inl l0), .inl l1, .inl l2] [.inr (.inl x1), .inr (.inl x0)] σ Q = (isO x0 3 ∧ CA m40 [.inr (.inl x0), .inr (.inl x1)] σ (fun v σ2 => WP m106 48 [.inr (.inl l0), .inl l1, .inl l2] (v ++ []) σ2 Q)) := w_cV (k := 40) d106_45 (by decide +kernel) m40_at rfl rfl ⟨Nat.le_of_ble_eq_true rfl, Nat.le_of_ble_eq_true rfl, Nat.le_of_ble_eq_true rfl⟩ (by decide)
theorem d106_48 : adec m106 48 = some (.iinc 2 (1), 3) := by decide +kernel
theorem s106_48 {l0 : Nat} {l1 : Int} {l2 : Int} : WP m106 48 [.inr (.inl l0), .inl l1, .inl l2] [] σ Q = (inI (l2 + (1)) ∧ WP m106 51 [.inr (.inl l0), .inl l1, .inl (l2 + (1))] [] σ Q) := w_iinc d106_48 rfl rfl
theorem d106_51 : adec m106 51 = some (.goto (-27), 3) := by decide +kernel
theorem s106_51 {l0 : Nat} {l1 : Int} {l2 : Int} : WP m106 51 [.inr (.inl l0), .inl l1, .inl l2] [] σ Q = WP m106 24 [.inr (.inl l0), .inl l1, .inl l2] [] σ Q := w_goto d106_51 (by decide)
theorem d106_54 : adec m106 54 = some (.aload_n 0, 1) := by decide +kernel
theorem s106_54 {l0 : Nat} {l1 : Int} {l2 : Int} : WP m106 54 [.inr (.inl l0), .inl l1, .inl l2] [] σ Q = WP m106 55 [.inr (.inl l0), .inl l1, .inl l2] [.inr (.inl l0)] σ Q := w_ld d106_54 rfl
theorem d106_55 : adec m106 55 = some (.getfield 36, 3) := by decide +kernel
theorem s106_55 {l0 : Nat} {l1 : Int} {l2 : Int} : WP m106 55 [.inr (.inl l0), .inl l1, .inl l2] [.inr (.inl 0)] σ Q = WP m106 58 [.inr (.inl l0), .inl l1, .inl l2] [.inr (.inl 30)] σ Q := (w_getR (c := 9) (n := 4) d106_55 (by decide +kernel) (by decide +kernel)).trans (g_and ⟨isO_dec (by decide +kernel), by decide +kernel⟩)
theorem d106_58 : adec m106 58 = some (.invokevirtual 221, 3) := by decide +kernel
theorem s106_58 {l0 : Nat} {l1 : Int} {l2 : Int} : WP m106 58 [.inr (.inl l0), .inl l1, .inl l2] [.inr (.inl 30)] σ Q = CA m10 [.inr (.inl 30)] σ (fun v σ2 => WP m106 61 [.inr (.inl l0), .inl l1, .inl l2] (v ++ []) σ2 Q) := (w_cV (k := 10) d106_58 (by decide +kernel) m10_at rfl rfl ⟨Nat.le_of_ble_eq_true rfl, Nat.le_of_ble_eq_true rfl, Nat.le_of_ble_eq_true rfl⟩ (by decide)).trans (g_and (isO_dec (by decide +kernel)))
theorem d106_61 : adec m106 61 = some (.iconst (1), 1) := by decide +kernel
theorem s106_61 {l0 : Nat} {l1 : Int} {l2 : Int} : WP m106 61 [.inr (.inl l0), .inl l1, .inl l2] [] σ Q = WP m106 62 [.inr (.inl l0), .inl l1, .inl l2] [.inl (1)] σ Q := w_iconst d106_61 (by decide)
theorem d106_62 : adec m106 62 = some (.ireturn, 1) := by decide +kernel
theorem s106_62 {l0 : Nat} {l1 : Int} {l2 : Int} {x0 : Int} : WP m106 62 [.inr (.inl l0), .inl l1, .inl l2] [.inl x0] σ Q = Q [.inl x0] σ := w_ri d106_62 rfl
theorem e106 {p0 : Nat} {p1 : Int} : CA m106 [.inr (.inl p0), .inl p1] σ Q = WP m106 0 [.inr (.inl p0), .inl p1, vU] [] σ Q := rfl
-- BinderPress.change(I)I
theorem d107_0 : adec m107 0 = some (.iload_n 1, 1) := by decide +kernel
theorem s107_0 {l0 : Nat} {l1 : Int} : WP m107 0 [.inr (.inl l0), .inl l1] [] σ Q = WP m107 1 [.inr (.inl l0), .inl l1] [.inl l1] σ Q := w_ld d107_0 rfl
theorem d107_1 : adec m107 1 = some (.invokestatic 98, 3) := by decide +kernel
theorem s107_1 {l0 : Nat} {l1 : Int} {x0 : Int} : WP m107 1 [.inr (.inl l0), .inl l1] [.inl x0] σ Q = CA m113 [.inl x0] σ (fun v σ2 => WP m107 4 [.inr (.inl l0), .inl l1] (v ++ []) σ2 Q) := w_cS (k := 113) d107_1 (by decide +kernel) (md := 1) (by decide +kernel) m113_at rfl rfl ⟨Nat.le_of_ble_eq_true rfl, Nat.le_of_ble_eq_true rfl, Nat.le_of_ble_eq_true rfl⟩ (by decide)
theorem d107_4 : adec m107 4 = some (.ifCond .ne (6), 3) := by decide +kernel
theorem s107_4 {l0 : Nat} {l1 : Int} {x0 : Int} : WP m107 4 [.inr (.inl l0), .inl l1] [.inl x0] σ Q = (if x0 = 0 then WP m107 7 [.inr (.inl l0), .inl l1] [] σ Q else WP m107 10 [.inr (.inl l0), .inl l1] [] σ Q) := w_ifne d107_4 (by decide)
theorem d107_7 : adec m107 7 = some (.ldc 102, 2) := by decide +kernel
theorem s107_7 {l0 : Nat} {l1 : Int} : WP m107 7 [.inr (.inl l0), .inl l1] [] σ Q = WP m107 9 [.inr (.inl l0), .inl l1] [.inl (-1000000001)] σ Q := w_ldc d107_7 (by decide +kernel) (by decide)
theorem d107_9 : adec m107 9 = some (.ireturn, 1) := by decide +kernel
theorem s107_9 {l0 : Nat} {l1 : Int} {x0 : Int} : WP m107 9 [.inr (.inl l0), .inl l1] [.inl x0] σ Q = Q [.inl x0] σ := w_ri d107_9 rfl
theorem d107_10 : adec m107 10 = some (.aload_n 0, 1) := by decide +kernel
theorem s107_10 {l0 : Nat} {l1 : Int} : WP m107 10 [.inr (.inl l0), .inl l1] [] σ Q = WP m107 11 [.inr (.inl l0), .inl l1] [.inr (.inl l0)] σ Q := w_ld d107_10 rfl
theorem d107_11 : adec m107 11 = some (.getfield 40, 3) := by decide +kernel
theorem s107_11 {l0 : Nat} {l1 : Int} : WP m107 11 [.inr (.inl l0), .inl l1] [.inr (.inl 0)] σ Q = WP m107 14 [.inr (.inl l0), .inl l1] [.inr (.inl 53)] σ Q := (w_getR (c := 9) (n := 5) d107_11 (by decide +kernel) (by decide +kernel)).trans (g_and ⟨isO_dec (by decide +kernel), by decide +kernel⟩)
theorem d107_14 : adec m107 14 = some (.invokevirtual 90, 3) := by decide +kernel
theorem s107_14 {l0 : Nat} {l1 : Int} {x0 : Nat} : WP m107 14 [.inr (.inl l0), .inl l1] [.inr (.inl x0)] σ Q = (isO x0 3 ∧ CA m28 [.inr (.inl x0)] σ (fun v σ2 => WP m107 17 [.inr (.inl l0), .inl l1] (v ++ []) σ2 Q)) := w_cV (k := 28) d107_14 (by decide +kernel) m28_at rfl rfl ⟨Nat.le_of_ble_eq_true rfl, Nat.le_of_ble_eq_true rfl, Nat.le_of_ble_eq_true rfl⟩ (by decide)
theorem d107_17 : adec m107 17 = some (.bipush (120), 2) := by decide +kernel
theorem s107_17 {l0 : Nat} {l1 : Int} {x0 : Int} : WP m107 17 [.inr (.inl l0), .inl l1] [.inl x0] σ Q = WP m107 19 [.inr (.inl l0), .inl l1] [.inl (120), .inl x0] σ Q := w_bipush d107_17 (by decide)
theorem d107_19 : adec m107 19 = some (.if_icmp .le (6), 3) := by decide +kernel
theorem s107_19 {l0 : Nat} {l1 : Int} {x0 : Int} {x1 : Int} : WP m107 19 [.inr (.inl l0), .inl l1] [.inl x1, .inl x0] σ Q = (if x0 ≤ x1 then WP m107 25 [.inr (.inl l0), .inl l1] [] σ Q else WP m107 22 [.inr (.inl l0), .inl l1] [] σ Q) := w_icle d107_19 (by decide)
theorem d107_22 : adec m107 22 = some (.ldc 94, 2) := by decide +kernel
theorem s107_22 {l0 : Nat} {l1 : Int} : WP m107 22 [.inr (.inl l0), .inl l1] [] σ Q = WP m107 24 [.inr (.inl l0), .inl l1] [.inl (-1000000004)] σ Q := w_ldc d107_22 (by decide +kernel) (by decide)
theorem d107_24 : adec m107 24 = some (.ireturn, 1) := by decide +kernel
theorem s107_24 {l0 : Nat} {l1 : Int} {x0 : Int} : WP m107 24 [.inr (.inl l0), .inl l1] [.inl x0] σ Q = Q [.inl x0] σ := w_ri d107_24 rfl
theorem d107_25 : adec m107 25 = some (.aload_n 0, 1) := by decide +kernel
theorem s107_25 {l0 : Nat} {l1 : Int} : WP m107 25 [.inr (.inl l0), .inl l1] [] σ Q = WP m107 26 [.inr (.inl l0), .inl l1] [.inr (.inl l0)] σ Q := w_ld d107_25 rfl
theorem d107_26 : adec m107 26 = some (.getfield 36, 3) := by decide +kernel
theorem s107_26 {l0 : Nat} {l1 : Int} : WP m107 26 [.inr (.inl l0), .inl l1] [.inr (.inl 0)] σ Q = WP m107 29 [.inr (.inl l0), .inl l1] [.inr (.inl 30)] σ Q := (w_getR (c := 9) (n := 4) d107_26 (by decide +kernel) (by decide +kernel)).trans (g_and ⟨isO_dec (by decide +kernel), by decide +kernel⟩)
theorem d107_29 : adec m107 29 = some (.iload_n 1, 1) := by decide +kernel
theorem s107_29 {l0 : Nat} {l1 : Int} {x0 : Nat} : WP m107 29 [.inr (.inl l0), .inl l1] [.inr (.inl x0)] σ Q = WP m107 30 [.inr (.inl l0), .inl l1] [.inl l1, .inr (.inl x0)] σ Q := w_ld d107_29 rfl
theorem d107_30 : adec m107 30 = some (.aload_n 0, 1) := by decide +kernel
theorem s107_30 {l0 : Nat} {l1 : Int} {x0 : Nat} {x1 : Int} : WP m107 30 [.inr (.inl l0), .inl l1] [.inl x1, .inr (.inl x0)] σ Q = WP m107 31 [.inr (.inl l0), .inl l1] [.inr (.inl l0), .inl x1, .inr (.inl x0)] σ Q := w_ld d107_30 rfl
theorem d107_31 : adec m107 31 = some (.getfield 22, 3) := by decide +kernel
theorem s107_31 {l0 : Nat} {l1 : Int} {x0 : Nat} {x1 : Int} : WP m107 31 [.inr (.inl l0), .inl l1] [.inr (.inl 0), .inl x1, .inr (.inl x0)] σ Q = WP m107 34 [.inr (.inl l0), .inl l1] [.inr (.inl 3), .inl x1, .inr (.inl x0)] σ Q := (w_getR (c := 9) (n := 1) d107_31 (by decide +kernel) (by decide +kernel)).trans (g_and ⟨isO_dec (by decide +kernel), by decide +kernel⟩)
theorem d107_34 : adec m107 34 = some (.iload_n 1, 1) := by decide +kernel
theorem s107_34 {l0 : Nat} {l1 : Int} {x0 : Nat} {x1 : Int} {x2 : Nat} : WP m107 34 [.inr (.inl l0), .inl l1] [.inr (.inl x2), .inl x1, .inr (.inl x0)] σ Q = WP m107 35 [.inr (.inl l0), .inl l1] [.inl l1, .inr (.inl x2), .inl x1, .inr (.inl x0)] σ Q := w_ld d107_34 rfl
theorem d107_35 : adec m107 35 = some (.aaload, 1) := by decide +kernel
theorem s107_35 {l0 : Nat} {l1 : Int} {x0 : Nat} {x1 : Int} {x2 : Nat} {x3 : Int} (h31 : x2 ≠ 31) : WP m107 35 [.inr (.inl l0), .inl l1] [.inl x3, .inr (.inl x2), .inl x1, .inr (.inl x0)] σ Q = ((kdS x2 = 22 ∧ 0 ≤ x3 ∧ x3 < ln x2 ∧ 0 ≤ PT x2 x3.toNat) ∧ WP m107 36 [.inr (.inl l0), .inl l1] [.inr (.inl (pt x2 x3.toNat)), .inl x1, .inr (.inl x0)] σ Q) := w_aald d107_35 h31
theorem d107_36 : adec m107 36 = some (.invokevirtual 224, 3) := by decide +kernel
theorem s107_36 {l0 : Nat} {l1 : Int} {x1 : Int} {x2 : Nat} : WP m107 36 [.inr (.inl l0), .inl l1] [.inr (.inl x2), .inl x1, .inr (.inl 30)] σ Q = CA m11 [.inr (.inl 30), .inl x1, .inr (.inl x2)] σ (fun v σ2 => WP m107 39 [.inr (.inl l0), .inl l1] (v ++ []) σ2 Q) := (w_cV (k := 11) d107_36 (by decide +kernel) m11_at rfl rfl ⟨Nat.le_of_ble_eq_true rfl, Nat.le_of_ble_eq_true rfl, Nat.le_of_ble_eq_true rfl⟩ (by decide)).trans (g_and (isO_dec (by decide +kernel)))
theorem d107_39 : adec m107 39 = some (.aload_n 0, 1) := by decide +kernel
theorem s107_39 {l0 : Nat} {l1 : Int} : WP m107 39 [.inr (.inl l0), .inl l1] [] σ Q = WP m107 40 [.inr (.inl l0), .inl l1] [.inr (.inl l0)] σ Q := w_ld d107_39 rfl
theorem d107_40 : adec m107 40 = some (.getfield 22, 3) := by decide +kernel
theorem s107_40 {l0 : Nat} {l1 : Int} : WP m107 40 [.inr (.inl l0), .inl l1] [.inr (.inl 0)] σ Q = WP m107 43 [.inr (.inl l0), .inl l1] [.inr (.inl 3)] σ Q := (w_getR (c := 9) (n := 1) d107_40 (by decide +kernel) (by decide +kernel)).trans (g_and ⟨isO_dec (by decide +kernel), by decide +kernel⟩)
theorem d107_43 : adec m107 43 = some (.iload_n 1, 1) := by decide +kernel
theorem s107_43 {l0 : Nat} {l1 : Int} {x0 : Nat} : WP m107 43 [.inr (.inl l0), .inl l1] [.inr (.inl x0)] σ Q = WP m107 44 [.inr (.inl l0), .inl l1] [.inl l1, .inr (.inl x0)] σ Q := w_ld d107_43 rfl
theorem d107_44 : adec m107 44 = some (.aaload, 1) := by decide +kernel
theorem s107_44 {l0 : Nat} {l1 : Int} {x0 : Nat} {x1 : Int} (h31 : x0 ≠ 31) : WP m107 44 [.inr (.inl l0), .inl l1] [.inl x1, .inr (.inl x0)] σ Q = ((kdS x0 = 22 ∧ 0 ≤ x1 ∧ x1 < ln x0 ∧ 0 ≤ PT x0 x1.toNat) ∧ WP m107 45 [.inr (.inl l0), .inl l1] [.inr (.inl (pt x0 x1.toNat))] σ Q) := w_aald d107_44 h31
theorem d107_45 : adec m107 45 = some (.aload_n 0, 1) := by decide +kernel
theorem s107_45 {l0 : Nat} {l1 : Int} {x0 : Nat} : WP m107 45 [.inr (.inl l0), .inl l1] [.inr (.inl x0)] σ Q = WP m107 46 [.inr (.inl l0), .inl l1] [.inr (.inl l0), .inr (.inl x0)] σ Q := w_ld d107_45 rfl
theorem d107_46 : adec m107 46 = some (.getfield 40, 3) := by decide +kernel
theorem s107_46 {l0 : Nat} {l1 : Int} {x0 : Nat} : WP m107 46 [.inr (.inl l0), .inl l1] [.inr (.inl 0), .inr (.inl x0)] σ Q = WP m107 49 [.inr (.inl l0), .inl l1] [.inr (.inl 53), .inr (.inl x0)] σ Q := (w_getR (c := 9) (n := 5) d107_46 (by decide +kernel) (by decide +kernel)).trans (g_and ⟨isO_dec (by decide +kernel), by decide +kernel⟩)
theorem d107_49 : adec m107 49 = some (.invokevirtual 154, 3) := by decide +kernel
theorem s107_49 {l0 : Nat} {l1 : Int} {x0 : Nat} {x1 : Nat} : WP m107 49 [.inr (.inl l0), .inl l1] [.inr (.inl x1), .inr (.inl x0)] σ Q = (isO x0 3 ∧ CA m40 [.inr (.inl x0), .inr (.inl x1)] σ (fun v σ2 => WP m107 52 [.inr (.inl l0), .inl l1] (v ++ []) σ2 Q)) := w_cV (k := 40) d107_49 (by decide +kernel) m40_at rfl rfl ⟨Nat.le_of_ble_eq_true rfl, Nat.le_of_ble_eq_true rfl, Nat.le_of_ble_eq_true rfl⟩ (by decide)
theorem d107_52 : adec m107 52 = some (.aload_n 0, 1) := by decide +kernel
theorem s107_52 {l0 : Nat} {l1 : Int} : WP m107 52 [.inr (.inl l0), .inl l1] [] σ Q = WP m107 53 [.inr (.inl l0), .inl l1] [.inr (.inl l0)] σ Q := w_ld d107_52 rfl
theorem d107_53 : adec m107 53 = some (.getfield 40, 3) := by decide +kernel
theorem s107_53 {l0 : Nat} {l1 : Int} : WP m107 53 [.inr (.inl l0), .inl l1] [.inr (.inl 0)] σ Q = WP m107 56 [.inr (.inl l0), .inl l1] [.inr (.inl 53)] σ Q := (w_getR (c := 9) (n := 5) d107_53 (by decide +kernel) (by decide +kernel)).trans (g_and ⟨isO_dec (by decide +kernel), by decide +kernel⟩)
theorem d107_56 : adec m107 56 = some (.invokevirtual 90, 3) := by decide +kernel
theorem s107_56 {l0 : Nat} {l1 : Int} {x0 : Nat} : WP m107 56 [.inr (.inl l0), .inl l1] [.inr (.inl x0)] σ Q = (isO x0 3 ∧ CA m28 [.inr (.inl x0)] σ (fun v σ2 => WP m107 59 [.inr (.inl l0), .inl l1] (v ++ []) σ2 Q)) := w_cV (k := 28) d107_56 (by decide +kernel) m28_at rfl rfl ⟨Nat.le_of_ble_eq_true rfl, Nat.le_of_ble_eq_true rfl, Nat.le_of_ble_eq_true rfl⟩ (by decide)
theorem d107_59 : adec m107 59 = some (.ireturn, 1) := by decide +kernel
theorem s107_59 {l0 : Nat} {l1 : Int} {x0 : Int} : WP m107 59 [.inr (.inl l0), .inl l1] [.inl x0] σ Q = Q [.inl x0] σ := w_ri d107_59 rfl
theorem e107 {p0 : Nat} {p1 : Int} : CA m107 [.inr (.inl p0), .inl p1] σ Q = WP m107 0 [.inr (.inl p0), .inl p1] [] σ Q := rfl
-- BinderPress.makePutIn(LBinderPress$Row;ILBinderPress$Row;)V
theorem d108_0 : adec m108 0 = some (.aload_n 0, 1) := by decide +kernel
theorem s108_0 {l0 : Nat} {l1 : Nat} {l2 : Int} {l3 : Nat} {l4 : AV} : WP m108 0 [.inr (.inl l0), .inr (.inl l1), .inl l2, .inr (.inl l3), l4] [] σ Q = WP m108 1 [.inr (.inl l0), .inr (.inl l1), .inl l2, .inr (.inl l3), l4] [.inr (.inl l0)] σ Q := w_ld d108_0 rfl
theorem d108_1 : adec m108 1 = some (.getfield 40, 3) := by decide +kernel
theorem s108_1 {l0 : Nat} {l1 : Nat} {l2 : Int} {l3 : Nat} {l4 : AV} : WP m108 1 [.inr (.inl l0), .inr (.inl l1), .inl l2, .inr (.inl l3), l4] [.inr (.inl 0)] σ Q = WP m108 4 [.inr (.inl l0), .inr (.inl l1), .inl l2, .inr (.inl l3), l4] [.inr (.inl 53)] σ Q := (w_getR (c := 9) (n := 5) d108_1 (by decide +kernel) (by decide +kernel)).trans (g_and ⟨isO_dec (by decide +kernel), by decide +kernel⟩)
theorem d108_4 : adec m108 4 = some (.invokevirtual 107, 3) := by decide +kernel
theorem s108_4 {l0 : Nat} {l1 : Nat} {l2 : Int} {l3 : Nat} {l4 : AV} {x0 : Nat} : WP m108 4 [.inr (.inl l0), .inr (.inl l1), .inl l2, .inr (.inl l3), l4] [.inr (.inl x0)] σ Q = (isO x0 3 ∧ CA m29 [.inr (.inl x0)] σ (fun v σ2 => WP m108 7 [.inr (.inl l0), .inr (.inl l1), .inl l2, .inr (.inl l3), l4] (v ++ []) σ2 Q)) := w_cV (k := 29) d108_4 (by decide +kernel) m29_at rfl rfl ⟨Nat.le_of_ble_eq_true rfl, Nat.le_of_ble_eq_true rfl, Nat.le_of_ble_eq_true rfl⟩ (by decide)
theorem d108_7 : adec m108 7 = some (.iconst (0), 1) := by decide +kernel
theorem s108_7 {l0 : Nat} {l1 : Nat} {l2 : Int} {l3 : Nat} {l4 : AV} : WP m108 7 [.inr (.inl l0), .inr (.inl l1), .inl l2, .inr (.inl l3), l4] [] σ Q = WP m108 8 [.inr (.inl l0), .inr (.inl l1), .inl l2, .inr (.inl l3), l4] [.inl (0)] σ Q := w_iconst d108_7 (by decide)
theorem d108_8 : adec m108 8 = some (.istore 4, 2) := by decide +kernel
theorem s108_8 {l0 : Nat} {l1 : Nat} {l2 : Int} {l3 : Nat} {l4 : AV} {x0 : Int} : WP m108 8 [.inr (.inl l0), .inr (.inl l1), .inl l2, .inr (.inl l3), l4] [.inl x0] σ Q = WP m108 10 [.inr (.inl l0), .inr (.inl l1), .inl l2, .inr (.inl l3), .inl x0] [] σ Q := w_st1 (j := 4) d108_8 rfl (Nat.le_of_ble_eq_true rfl) rfl
theorem d108_10 : adec m108 10 = some (.iload 4, 2) := by decide +kernel
theorem s108_10 {l0 : Nat} {l1 : Nat} {l2 : Int} {l3 : Nat} {l4 : Int} : WP m108 10 [.inr (.inl l0), .inr (.inl l1), .inl l2, .inr (.inl l3), .inl l4] [] σ Q = WP m108 12 [.inr (.inl l0), .inr (.inl l1), .inl l2, .inr (.inl l3), .inl l4] [.inl l4] σ Q := w_ld d108_10 rfl
theorem d108_12 : adec m108 12 = some (.aload_n 1, 1) := by decide +kernel
theorem s108_12 {l0 : Nat} {l1 : Nat} {l2 : Int} {l3 : Nat} {l4 : Int} {x0 : Int} : WP m108 12 [.inr (.inl l0), .inr (.inl l1), .inl l2, .inr (.inl l3), .inl l4] [.inl x0] σ Q = WP m108 13 [.inr (.inl l0), .inr (.inl l1), .inl l2, .inr (.inl l3), .inl l4] [.inr (.inl l1), .inl x0] σ Q := w_ld d108_12 rfl
theorem d108_13 : adec m108 13 = some (.invokevirtual 90, 3) := by decide +kernel
theorem s108_13 {l0 : Nat} {l1 : Nat} {l2 : Int} {l3 : Nat} {l4 : Int} {x0 : Int} {x1 : Nat} : WP m108 13 [.inr (.inl l0), .inr (.inl l1), .inl l2, .inr (.inl l3), .inl l4] [.inr (.inl x1), .inl x0] σ Q = (isO x1 3 ∧ CA m28 [.inr (.inl x1)] σ (fun v σ2 => WP m108 16 [.inr (.inl l0), .inr (.inl l1), .inl l2, .inr (.inl l3), .inl l4] (v ++ [.inl x0]) σ2 Q)) := w_cV (k := 28) d108_13 (by decide +kernel) m28_at rfl rfl ⟨Nat.le_of_ble_eq_true rfl, Nat.le_of_ble_eq_true rfl, Nat.le_of_ble_eq_true rfl⟩ (by decide)
theorem d108_16 : adec m108 16 = some (.if_icmp .ge (43), 3) := by decide +kernel
theorem s108_16 {l0 : Nat} {l1 : Nat} {l2 : Int} {l3 : Nat} {l4 : Int} {x0 : Int} {x1 : Int} : WP m108 16 [.inr (.inl l0), .inr (.inl l1), .inl l2, .inr (.inl l3), .inl l4] [.inl x1, .inl x0] σ Q = (if x1 ≤ x0 then WP m108 59 [.inr (.inl l0), .inr (.inl l1), .inl l2, .inr (.inl l3), .inl l4] [] σ Q else WP m108 19 [.inr (.inl l0), .inr (.inl l1), .inl l2, .inr (.inl l3), .inl l4] [] σ Q) := w_icge d108_16 (by decide)
theorem d108_19 : adec m108 19 = some (.aload_n 1, 1) := by decide +kernel
theorem s108_19 {l0 : Nat} {l1 : Nat} {l2 : Int} {l3 : Nat} {l4 : Int} : WP m108 19 [.inr (.inl l0), .inr (.inl l1), .inl l2, .inr (.inl l3), .inl l4] [] σ Q = WP m108 20 [.inr (.inl l0), .inr (.inl l1), .inl l2, .inr (.inl l3), .inl l4] [.inr (.inl l1)] σ Q := w_ld d108_19 rfl
theorem d108_20 : adec m108 20 = some (.iload 4, 2) := by decide +kernel
theorem s108_20 {l0 : Nat} {l1 : Nat} {l2 : Int} {l3 : Nat} {l4 : Int} {x0 : Nat} : WP m108 20 [.inr (.inl l0), .inr (.inl l1), .inl l2, .inr (.inl l3), .inl l4] [.inr (.inl x0)] σ Q = WP m108 22 [.inr (.inl l0), .inr (.inl l1), .inl l2, .inr (.inl l3), .inl l4] [.inl l4, .inr (.inl x0)] σ Q := w_ld d108_20 rfl
theorem d108_22 : adec m108 22 = some (.invokevirtual 228, 3) := by decide +kernel
theorem s108_22 {l0 : Nat} {l1 : Nat} {l2 : Int} {l3 : Nat} {l4 : Int} {x0 : Nat} {x1 : Int} : WP m108 22 [.inr (.inl l0), .inr (.inl l1), .inl l2, .inr (.inl l3), .inl l4] [.inl x1, .inr (.inl x0)] σ Q = (isO x0 3 ∧ CA m30 [.inr (.inl x0), .inl x1] σ (fun v σ2 => WP m108 25 [.inr (.inl l0), .inr (.inl l1), .inl l2, .inr (.inl l3), .inl l4] (v ++ []) σ2 Q)) := w_cV (k := 30) d108_22 (by decide +kernel) m30_at rfl rfl ⟨Nat.le_of_ble_eq_true rfl, Nat.le_of_ble_eq_true rfl, Nat.le_of_ble_eq_true rfl⟩ (by decide)
theorem d108_25 : adec m108 25 = some (.iload_n 2, 1) := by decide +kernel
theorem s108_25 {l0 : Nat} {l1 : Nat} {l2 : Int} {l3 : Nat} {l4 : Int} {x0 : Int} : WP m108 25 [.inr (.inl l0), .inr (.inl l1), .inl l2, .inr (.inl l3), .inl l4] [.inl x0] σ Q = WP m108 26 [.inr (.inl l0), .inr (.inl l1), .inl l2, .inr (.inl l3), .inl l4] [.inl l2, .inl x0] σ Q := w_ld d108_25 rfl
theorem d108_26 : adec m108 26 = some (.if_icmp .ne (14), 3) := by decide +kernel
theorem s108_26 {l0 : Nat} {l1 : Nat} {l2 : Int} {l3 : Nat} {l4 : Int} {x0 : Int} {x1 : Int} : WP m108 26 [.inr (.inl l0), .inr (.inl l1), .inl l2, .inr (.inl l3), .inl l4] [.inl x1, .inl x0] σ Q = (if x0 = x1 then WP m108 29 [.inr (.inl l0), .inr (.inl l1), .inl l2, .inr (.inl l3), .inl l4] [] σ Q else WP m108 40 [.inr (.inl l0), .inr (.inl l1), .inl l2, .inr (.inl l3), .inl l4] [] σ Q) := w_icne d108_26 (by decide)
theorem d108_29 : adec m108 29 = some (.aload_n 0, 1) := by decide +kernel
theorem s108_29 {l0 : Nat} {l1 : Nat} {l2 : Int} {l3 : Nat} {l4 : Int} : WP m108 29 [.inr (.inl l0), .inr (.inl l1), .inl l2, .inr (.inl l3), .inl l4] [] σ Q = WP m108 30 [.inr (.inl l0), .inr (.inl l1), .inl l2, .inr (.inl l3), .inl l4] [.inr (.inl l0)] σ Q := w_ld d108_29 rfl
theorem d108_30 : adec m108 30 = some (.getfield 40, 3) := by decide +kernel
theorem s108_30 {l0 : Nat} {l1 : Nat} {l2 : Int} {l3 : Nat} {l4 : Int} : WP m108 30 [.inr (.inl l0), .inr (.inl l1), .inl l2, .inr (.inl l3), .inl l4] [.inr (.inl 0)] σ Q = WP m108 33 [.inr (.inl l0), .inr (.inl l1), .inl l2, .inr (.inl l3), .inl l4] [.inr (.inl 53)] σ Q := (w_getR (c := 9) (n := 5) d108_30 (by decide +kernel) (by decide +kernel)).trans (g_and ⟨isO_dec (by decide +kernel), by decide +kernel⟩)
theorem d108_33 : adec m108 33 = some (.aload_n 3, 1) := by decide +kernel
theorem s108_33 {l0 : Nat} {l1 : Nat} {l2 : Int} {l3 : Nat} {l4 : Int} {x0 : Nat} : WP m108 33 [.inr (.inl l0), .inr (.inl l1), .inl l2, .inr (.inl l3), .inl l4] [.inr (.inl x0)] σ Q = WP m108 34 [.inr (.inl l0), .inr (.inl l1), .inl l2, .inr (.inl l3), .inl l4] [.inr (.inl l3), .inr (.inl x0)] σ Q := w_ld d108_33 rfl
theorem d108_34 : adec m108 34 = some (.invokevirtual 132, 3) := by decide +kernel
theorem s108_34 {l0 : Nat} {l1 : Nat} {l2 : Int} {l3 : Nat} {l4 : Int} {x0 : Nat} {x1 : Nat} : WP m108 34 [.inr (.inl l0), .inr (.inl l1), .inl l2, .inr (.inl l3), .inl l4] [.inr (.inl x1), .inr (.inl x0)] σ Q = (isO x0 3 ∧ CA m38 [.inr (.inl x0), .inr (.inl x1)] σ (fun v σ2 => WP m108 37 [.inr (.inl l0), .inr (.inl l1), .inl l2, .inr (.inl l3), .inl l4] (v ++ []) σ2 Q)) := w_cV (k := 38) d108_34 (by decide +kernel) m38_at rfl rfl ⟨Nat.le_of_ble_eq_true rfl, Nat.le_of_ble_eq_true rfl, Nat.le_of_ble_eq_true rfl⟩ (by decide)
theorem d108_37 : adec m108 37 = some (.goto (16), 3) := by decide +kernel
theorem s108_37 {l0 : Nat} {l1 : Nat} {l2 : Int} {l3 : Nat} {l4 : Int} : WP m108 37 [.inr (.inl l0), .inr (.inl l1), .inl l2, .inr (.inl l3), .inl l4] [] σ Q = WP m108 53 [.inr (.inl l0), .inr (.inl l1), .inl l2, .inr (.inl l3), .inl l4] [] σ Q := w_goto d108_37 (by decide)
theorem d108_40 : adec m108 40 = some (.aload_n 0, 1) := by decide +kernel
theorem s108_40 {l0 : Nat} {l1 : Nat} {l2 : Int} {l3 : Nat} {l4 : Int} : WP m108 40 [.inr (.inl l0), .inr (.inl l1), .inl l2, .inr (.inl l3), .inl l4] [] σ Q = WP m108 41 [.inr (.inl l0), .inr (.inl l1), .inl l2, .inr (.inl l3), .inl l4] [.inr (.inl l0)] σ Q := w_ld d108_40 rfl
theorem d108_41 : adec m108 41 = some (.getfield 40, 3) := by decide +kernel
theorem s108_41 {l0 : Nat} {l1 : Nat} {l2 : Int} {l3 : Nat} {l4 : Int} : WP m108 41 [.inr (.inl l0), .inr (.inl l1), .inl l2, .inr (.inl l3), .inl l4] [.inr (.inl 0)] σ Q = WP m108 44 [.inr (.inl l0), .inr (.inl l1), .inl l2, .inr (.inl l3), .inl l4] [.inr (.inl 53)] σ Q := (w_getR (c := 9) (n := 5) d108_41 (by decide +kernel) (by decide +kernel)).trans (g_and ⟨isO_dec (by decide +kernel), by decide +kernel⟩)
theorem d108_44 : adec m108 44 = some (.aload_n 1, 1) := by decide +kernel
theorem s108_44 {l0 : Nat} {l1 : Nat} {l2 : Int} {l3 : Nat} {l4 : Int} {x0 : Nat} : WP m108 44 [.inr (.inl l0), .inr (.inl l1), .inl l2, .inr (.inl l3), .inl l4] [.inr (.inl x0)] σ Q = WP m108 45 [.inr (.inl l0), .inr (.inl l1), .inl l2, .inr (.inl l3), .inl l4] [.inr (.inl l1), .inr (.inl x0)] σ Q := w_ld d108_44 rfl
theorem d108_45 : adec m108 45 = some (.iload 4, 2) := by decide +kernel
theorem s108_45 {l0 : Nat} {l1 : Nat} {l2 : Int} {l3 : Nat} {l4 : Int} {x0 : Nat} {x1 : Nat} : WP m108 45 [.inr (.inl l0), .inr (.inl l1), .inl l2, .inr (.inl l3), .inl l4] [.inr (.inl x1), .inr (.inl x0)] σ Q = WP m108 47 [.inr (.inl l0), .inr (.inl l1), .inl l2, .inr (.inl l3), .inl l4] [.inl l4, .inr (.inl x1), .inr (.inl x0)] σ Q := w_ld d108_45 rfl
theorem d108_47 : adec m108 47 = some (.invokevirtual 228, 3) := by decide +kernel
theorem s108_47 {l0 : Nat} {l1 : Nat} {l2 : Int} {l3 : Nat} {l4 : Int} {x0 : Nat} {x1 : Nat} {x2 : Int} : WP m108 47 [.inr (.inl l0), .inr (.inl l1), .inl l2, .inr (.inl l3), .inl l4] [.inl x2, .inr (.inl x1), .inr (.inl x0)] σ Q = (isO x1 3 ∧ CA m30 [.inr (.inl x1), .inl x2] σ (fun v σ2 => WP m108 50 [.inr (.inl l0), .inr (.inl l1), .inl l2, .inr (.inl l3), .inl l4] (v ++ [.inr (.inl x0)]) σ2 Q)) := w_cV (k := 30) d108_47 (by decide +kernel) m30_at rfl rfl ⟨Nat.le_of_ble_eq_true rfl, Nat.le_of_ble_eq_true rfl, Nat.le_of_ble_eq_true rfl⟩ (by decide)
theorem d108_50 : adec m108 50 = some (.invokevirtual 95, 3) := by decide +kernel
theorem s108_50 {l0 : Nat} {l1 : Nat} {l2 : Int} {l3 : Nat} {l4 : Int} {x0 : Nat} {x1 : Int} : WP m108 50 [.inr (.inl l0), .inr (.inl l1), .inl l2, .inr (.inl l3), .inl l4] [.inl x1, .inr (.inl x0)] σ Q = (isO x0 3 ∧ CA m34 [.inr (.inl x0), .inl x1] σ (fun v σ2 => WP m108 53 [.inr (.inl l0), .inr (.inl l1), .inl l2, .inr (.inl l3), .inl l4] (v ++ []) σ2 Q)) := w_cV (k := 34) d108_50 (by decide +kernel) m34_at rfl rfl ⟨Nat.le_of_ble_eq_true rfl, Nat.le_of_ble_eq_true rfl, Nat.le_of_ble_eq_true rfl⟩ (by decide)
theorem d108_53 : adec m108 53 = some (.iinc 4 (1), 3) := by decide +kernel
theorem s108_53 {l0 : Nat} {l1 : Nat} {l2 : Int} {l3 : Nat} {l4 : Int} : WP m108 53 [.inr (.inl l0), .inr (.inl l1), .inl l2, .inr (.inl l3), .inl l4] [] σ Q = (inI (l4 + (1)) ∧ WP m108 56 [.inr (.inl l0), .inr (.inl l1), .inl l2, .inr (.inl l3), .inl (l4 + (1))] [] σ Q) := w_iinc d108_53 rfl rfl
theorem d108_56 : adec m108 56 = some (.goto (-46), 3) := by decide +kernel
theorem s108_56 {l0 : Nat} {l1 : Nat} {l2 : Int} {l3 : Nat} {l4 : Int} : WP m108 56 [.inr (.inl l0), .inr (.inl l1), .inl l2, .inr (.inl l3), .inl l4] [] σ Q = WP m108 10 [.inr (.inl l0), .inr (.inl l1), .inl l2, .inr (.inl l3), .inl l4] [] σ Q := w_goto d108_56 (by decide)
theorem d108_59 : adec m108 59 = some (.return_, 1) := by decide +kernel
theorem s108_59 {l0 : Nat} {l1 : Nat} {l2 : Int} {l3 : Nat} {l4 : Int} : WP m108 59 [.inr (.inl l0), .inr (.inl l1), .inl l2, .inr (.inl l3), .inl l4] [] σ Q = Q [] σ := w_rv d108_59 rfl
theorem e108 {p0 : Nat} {p1 : Nat} {p2 : Int} {p3 : Nat} : CA m108 [.inr (.inl p0), .inr (.inl p1), .inl p2, .inr (.inl p3)] σ Q = WP m108 0 [.inr (.inl p0), .inr (.inl p1), .inl p2, .inr (.inl p3), vU] [] σ Q := rfl
-- BinderPress.makeByLots(II)V
theorem d109_0 : adec m109 0 = some (.iload_n 2, 1) := by decide +kernel
theorem s109_0 {l0 : Nat} {l1 : Int} {l2 : Int} {l3 : AV} {l4 : AV} {l5 : AV} {l6 : AV} : WP m109 0 [.inr (.inl l0), .inl l1, .inl l2, l3, l4, l5, l6] [] σ Q = WP m109 1 [.inr (.inl l0), .inl l1, .inl l2, l3, l4, l5, l6] [.inl l2] σ Q := w_ld d109_0 rfl
theorem d109_1 : adec m109 1 = some (.i2l, 1) := by decide +kernel
theorem s109_1 {l0 : Nat} {l1 : Int} {l2 : Int} {l3 : AV} {l4 : AV} {l5 : AV} {l6 : AV} {x0 : Int} : WP m109 1 [.inr (.inl l0), .inl l1, .inl l2, l3, l4, l5, l6] [.inl x0] σ Q = WP m109 2 [.inr (.inl l0), .inl l1, .inl l2, l3, l4, l5, l6] [.inr (.inr (.inl x0))] σ Q := w_ld d109_1 rfl
theorem d109_2 : adec m109 2 = some (.invokestatic 231, 3) := by decide +kernel
theorem s109_2 {l0 : Nat} {l1 : Int} {l2 : Int} {l3 : AV} {l4 : AV} {l5 : AV} {l6 : AV} {x0 : Int} : WP m109 2 [.inr (.inl l0), .inl l1, .inl l2, l3, l4, l5, l6] [.inr (.inr (.inl x0))] σ Q = CA m122 [.inr (.inr (.inl x0))] σ (fun v σ2 => WP m109 5 [.inr (.inl l0), .inl l1, .inl l2, l3, l4, l5, l6] (v ++ []) σ2 Q) := w_cS (k := 122) d109_2 (by decide +kernel) (md := 1) (by decide +kernel) m122_at rfl rfl ⟨Nat.le_of_ble_eq_true rfl, Nat.le_of_ble_eq_true rfl, Nat.le_of_ble_eq_true rfl⟩ (by decide)
theorem d109_5 : adec m109 5 = some (.lstore_n 3, 1) := by decide +kernel
theorem s109_5 {l0 : Nat} {l1 : Int} {l2 : Int} {l3 : AV} {l4 : AV} {l5 : AV} {l6 : AV} {x0 : Int} : WP m109 5 [.inr (.inl l0), .inl l1, .inl l2, l3, l4, l5, l6] [.inr (.inr (.inl x0))] σ Q = WP m109 6 [.inr (.inl l0), .inl l1, .inl l2, .inr (.inr (.inl x0)), vU, l5, l6] [] σ Q := w_stL (j := 3) d109_5 rfl (Nat.le_of_ble_eq_true rfl) rfl
theorem d109_6 : adec m109 6 = some (.aload_n 0, 1) := by decide +kernel
theorem s109_6 {l0 : Nat} {l1 : Int} {l2 : Int} {l3 : Int} {l4 : AV} {l5 : AV} {l6 : AV} : WP m109 6 [.inr (.inl l0), .inl l1, .inl l2, .inr (.inr (.inl l3)), l4, l5, l6] [] σ Q = WP m109 7 [.inr (.inl l0), .inl l1, .inl l2, .inr (.inr (.inl l3)), l4, l5, l6] [.inr (.inl l0)] σ Q := w_ld d109_6 rfl
theorem d109_7 : adec m109 7 = some (.getfield 40, 3) := by decide +kernel
theorem s109_7 {l0 : Nat} {l1 : Int} {l2 : Int} {l3 : Int} {l4 : AV} {l5 : AV} {l6 : AV} : WP m109 7 [.inr (.inl l0), .inl l1, .inl l2, .inr (.inr (.inl l3)), l4, l5, l6] [.inr (.inl 0)] σ Q = WP m109 10 [.inr (.inl l0), .inl l1, .inl l2, .inr (.inr (.inl l3)), l4, l5, l6] [.inr (.inl 53)] σ Q := (w_getR (c := 9) (n := 5) d109_7 (by decide +kernel) (by decide +kernel)).trans (g_and ⟨isO_dec (by decide +kernel), by decide +kernel⟩)
theorem d109_10 : adec m109 10 = some (.invokevirtual 107, 3) := by decide +kernel
theorem s109_10 {l0 : Nat} {l1 : Int} {l2 : Int} {l3 : Int} {l4 : AV} {l5 : AV} {l6 : AV} {x0 : Nat} : WP m109 10 [.inr (.inl l0), .inl l1, .inl l2, .inr (.inr (.inl l3)), l4, l5, l6] [.inr (.inl x0)] σ Q = (isO x0 3 ∧ CA m29 [.inr (.inl x0)] σ (fun v σ2 => WP m109 13 [.inr (.inl l0), .inl l1, .inl l2, .inr (.inr (.inl l3)), l4, l5, l6] (v ++ []) σ2 Q)) := w_cV (k := 29) d109_10 (by decide +kernel) m29_at rfl rfl ⟨Nat.le_of_ble_eq_true rfl, Nat.le_of_ble_eq_true rfl, Nat.le_of_ble_eq_true rfl⟩ (by decide)
theorem d109_13 : adec m109 13 = some (.aload_n 0, 1) := by decide +kernel
theorem s109_13 {l0 : Nat} {l1 : Int} {l2 : Int} {l3 : Int} {l4 : AV} {l5 : AV} {l6 : AV} : WP m109 13 [.inr (.inl l0), .inl l1, .inl l2, .inr (.inr (.inl l3)), l4, l5, l6] [] σ Q = WP m109 14 [.inr (.inl l0), .inl l1, .inl l2, .inr (.inr (.inl l3)), l4, l5, l6] [.inr (.inl l0)] σ Q := w_ld d109_13 rfl
theorem d109_14 : adec m109 14 = some (.getfield 40, 3) := by decide +kernel
theorem s109_14 {l0 : Nat} {l1 : Int} {l2 : Int} {l3 : Int} {l4 : AV} {l5 : AV} {l6 : AV} : WP m109 14 [.inr (.inl l0), .inl l1, .inl l2, .inr (.inr (.inl l3)), l4, l5, l6] [.inr (.inl 0)] σ Q = WP m109 17 [.inr (.inl l0), .inl l1, .inl l2, .inr (.inr (.inl l3)), l4, l5, l6] [.inr (.inl 53)] σ Q := (w_getR (c := 9) (n := 5) d109_14 (by decide +kernel) (by decide +kernel)).trans (g_and ⟨isO_dec (by decide +kernel), by decide +kernel⟩)
theorem d109_17 : adec m109 17 = some (.lload_n 3, 1) := by decide +kernel
theorem s109_17 {l0 : Nat} {l1 : Int} {l2 : Int} {l3 : Int} {l4 : AV} {l5 : AV} {l6 : AV} {x0 : Nat} : WP m109 17 [.inr (.inl l0), .inl l1, .inl l2, .inr (.inr (.inl l3)), l4, l5, l6] [.inr (.inl x0)] σ Q = WP m109 18 [.inr (.inl l0), .inl l1, .inl l2, .inr (.inr (.inl l3)), l4, l5, l6] [.inr (.inr (.inl l3)), .inr (.inl x0)] σ Q := w_ld d109_17 rfl
theorem d109_18 : adec m109 18 = some (.invokestatic 235, 3) := by decide +kernel
theorem s109_18 {l0 : Nat} {l1 : Int} {l2 : Int} {l3 : Int} {l4 : AV} {l5 : AV} {l6 : AV} {x0 : Nat} {x1 : Int} : WP m109 18 [.inr (.inl l0), .inl l1, .inl l2, .inr (.inr (.inl l3)), l4, l5, l6] [.inr (.inr (.inl x1)), .inr (.inl x0)] σ Q = CA m123 [.inr (.inr (.inl x1))] σ (fun v σ2 => WP m109 21 [.inr (.inl l0), .inl l1, .inl l2, .inr (.inr (.inl l3)), l4, l5, l6] (v ++ [.inr (.inl x0)]) σ2 Q) := w_cS (k := 123) d109_18 (by decide +kernel) (md := 1) (by decide +kernel) m123_at rfl rfl ⟨Nat.le_of_ble_eq_true rfl, Nat.le_of_ble_eq_true rfl, Nat.le_of_ble_eq_true rfl⟩ (by decide)
theorem d109_21 : adec m109 21 = some (.invokevirtual 95, 3) := by decide +kernel
theorem s109_21 {l0 : Nat} {l1 : Int} {l2 : Int} {l3 : Int} {l4 : AV} {l5 : AV} {l6 : AV} {x0 : Nat} {x1 : Int} : WP m109 21 [.inr (.inl l0), .inl l1, .inl l2, .inr (.inr (.inl l3)), l4, l5, l6] [.inl x1, .inr (.inl x0)] σ Q = (isO x0 3 ∧ CA m34 [.inr (.inl x0), .inl x1] σ (fun v σ2 => WP m109 24 [.inr (.inl l0), .inl l1, .inl l2, .inr (.inr (.inl l3)), l4, l5, l6] (v ++ []) σ2 Q)) := w_cV (k := 34) d109_21 (by decide +kernel) m34_at rfl rfl ⟨Nat.le_of_ble_eq_true rfl, Nat.le_of_ble_eq_true rfl, Nat.le_of_ble_eq_true rfl⟩ (by decide)
theorem d109_24 : adec m109 24 = some (.iconst (1), 1) := by decide +kernel
theorem s109_24 {l0 : Nat} {l1 : Int} {l2 : Int} {l3 : Int} {l4 : AV} {l5 : AV} {l6 : AV} : WP m109 24 [.inr (.inl l0), .inl l1, .inl l2, .inr (.inr (.inl l3)), l4, l5, l6] [] σ Q = WP m109 25 [.inr (.inl l0), .inl l1, .inl l2, .inr (.inr (.inl l3)), l4, l5, l6] [.inl (1)] σ Q := w_iconst d109_24 (by decide)
theorem d109_25 : adec m109 25 = some (.istore 5, 2) := by decide +kernel
theorem s109_25 {l0 : Nat} {l1 : Int} {l2 : Int} {l3 : Int} {l4 : AV} {l5 : AV} {l6 : AV} {x0 : Int} (hg : isL l4 = false) : WP m109 25 [.inr (.inl l0), .inl l1, .inl l2, .inr (.inr (.inl l3)), l4, l5, l6] [.inl x0] σ Q = WP m109 27 [.inr (.inl l0), .inl l1, .inl l2, .inr (.inr (.inl l3)), l4, .inl x0, l6] [] σ Q := w_st1 (j := 5) d109_25 rfl (Nat.le_of_ble_eq_true rfl) (by simp [okSt, hg])
theorem d109_27 : adec m109 27 = some (.iload 5, 2) := by decide +kernel
theorem s109_27 {l0 : Nat} {l1 : Int} {l2 : Int} {l3 : Int} {l4 : AV} {l5 : Int} {l6 : AV} : WP m109 27 [.inr (.inl l0), .inl l1, .inl l2, .inr (.inr (.inl l3)), l4, .inl l5, l6] [] σ Q = WP m109 29 [.inr (.inl l0), .inl l1, .inl l2, .inr (.inr (.inl l3)), l4, .inl l5, l6] [.inl l5] σ Q := w_ld d109_27 rfl
theorem d109_29 : adec m109 29 = some (.iload_n 1, 1) := by decide +kernel
theorem s109_29 {l0 : Nat} {l1 : Int} {l2 : Int} {l3 : Int} {l4 : AV} {l5 : Int} {l6 : AV} {x0 : Int} : WP m109 29 [.inr (.inl l0), .inl l1, .inl l2, .inr (.inr (.inl l3)), l4, .inl l5, l6] [.inl x0] σ Q = WP m109 30 [.inr (.inl l0), .inl l1, .inl l2, .inr (.inr (.inl l3)), l4, .inl l5, l6] [.inl l1, .inl x0] σ Q := w_ld d109_29 rfl
theorem d109_30 : adec m109 30 = some (.if_icmp .ge (72), 3) := by decide +kernel
theorem s109_30 {l0 : Nat} {l1 : Int} {l2 : Int} {l3 : Int} {l4 : AV} {l5 : Int} {l6 : AV} {x0 : Int} {x1 : Int} : WP m109 30 [.inr (.inl l0), .inl l1, .inl l2, .inr (.inr (.inl l3)), l4, .inl l5, l6] [.inl x1, .inl x0] σ Q = (if x1 ≤ x0 then WP m109 102 [.inr (.inl l0), .inl l1, .inl l2, .inr (.inr (.inl l3)), l4, .inl l5, l6] [] σ Q else WP m109 33 [.inr (.inl l0), .inl l1, .inl l2, .inr (.inr (.inl l3)), l4, .inl l5, l6] [] σ Q) := w_icge d109_30 (by decide)
theorem d109_33 : adec m109 33 = some (.lload_n 3, 1) := by decide +kernel
theorem s109_33 {l0 : Nat} {l1 : Int} {l2 : Int} {l3 : Int} {l4 : AV} {l5 : Int} {l6 : AV} : WP m109 33 [.inr (.inl l0), .inl l1, .inl l2, .inr (.inr (.inl l3)), l4, .inl l5, l6] [] σ Q = WP m109 34 [.inr (.inl l0), .inl l1, .inl l2, .inr (.inr (.inl l3)), l4, .inl l5, l6] [.inr (.inr (.inl l3))] σ Q := w_ld d109_33 rfl
theorem d109_34 : adec m109 34 = some (.invokestatic 231, 3) := by decide +kernel
theorem s109_34 {l0 : Nat} {l1 : Int} {l2 : Int} {l3 : Int} {l4 : AV} {l5 : Int} {l6 : AV} {x0 : Int} : WP m109 34 [.inr (.inl l0), .inl l1, .inl l2, .inr (.inr (.inl l3)), l4, .inl l5, l6] [.inr (.inr (.inl x0))] σ Q = CA m122 [.inr (.inr (.inl x0))] σ (fun v σ2 => WP m109 37 [.inr (.inl l0), .inl l1, .inl l2, .inr (.inr (.inl l3)), l4, .inl l5, l6] (v ++ []) σ2 Q) := w_cS (k := 122) d109_34 (by decide +kernel) (md := 1) (by decide +kernel) m122_at rfl rfl ⟨Nat.le_of_ble_eq_true rfl, Nat.le_of_ble_eq_true rfl, Nat.le_of_ble_eq_true rfl⟩ (by decide)
theorem d109_37 : adec m109 37 = some (.lstore_n 3, 1) := by decide +kernel
theorem s109_37 {l0 : Nat} {l1 : Int} {l2 : Int} {l3 : Int} {l4 : AV} {l5 : Int} {l6 : AV} {x0 : Int} : WP m109 37 [.inr (.inl l0), .inl l1, .inl l2, .inr (.inr (.inl l3)), l4, .inl l5, l6] [.inr (.inr (.inl x0))] σ Q = WP m109 38 [.inr (.inl l0), .inl l1, .inl l2, .inr (.inr (.inl x0)), vU, .inl l5, l6] [] σ Q := w_stL (j := 3) d109_37 rfl (Nat.le_of_ble_eq_true rfl) rfl
theorem d109_38 : adec m109 38 = some (.lload_n 3, 1) := by decide +kernel
theorem s109_38 {l0 : Nat} {l1 : Int} {l2 : Int} {l3 : Int} {l4 : AV} {l5 : Int} {l6 : AV} : WP m109 38 [.inr (.inl l0), .inl l1, .inl l2, .inr (.inr (.inl l3)), l4, .inl l5, l6] [] σ Q = WP m109 39 [.inr (.inl l0), .inl l1, .inl l2, .inr (.inr (.inl l3)), l4, .inl l5, l6] [.inr (.inr (.inl l3))] σ Q := w_ld d109_38 rfl
theorem d109_39 : adec m109 39 = some (.ldc2_w 239, 3) := by decide +kernel
theorem s109_39 {l0 : Nat} {l1 : Int} {l2 : Int} {l3 : Int} {l4 : AV} {l5 : Int} {l6 : AV} {x0 : Int} : WP m109 39 [.inr (.inl l0), .inl l1, .inl l2, .inr (.inr (.inl l3)), l4, .inl l5, l6] [.inr (.inr (.inl x0))] σ Q = WP m109 42 [.inr (.inl l0), .inl l1, .inl l2, .inr (.inr (.inl l3)), l4, .inl l5, l6] [.inr (.inr (.inl (2))), .inr (.inr (.inl x0))] σ Q := w_ldc2 d109_39 (by decide +kernel) (by decide)
theorem d109_42 : adec m109 42 = some (.lrem, 1) := by decide +kernel
theorem s109_42 {l0 : Nat} {l1 : Int} {l2 : Int} {l3 : Int} {l4 : AV} {l5 : Int} {l6 : AV} {x0 : Int} {x1 : Int} : WP m109 42 [.inr (.inl l0), .inl l1, .inl l2, .inr (.inr (.inl l3)), l4, .inl l5, l6] [.inr (.inr (.inl x1)), .inr (.inr (.inl x0))] σ Q = ((0 ≤ x0 ∧ 0 < x1 ∧ inL (x0 % x1)) ∧ WP m109 43 [.inr (.inl l0), .inl l1, .inl l2, .inr (.inr (.inl l3)), l4, .inl l5, l6] [.inr (.inr (.inl (x0 % x1)))] σ Q) := w_lrem d109_42
theorem d109_43 : adec m109 43 = some (.lconst 1, 1) := by decide +kernel
theorem s109_43 {l0 : Nat} {l1 : Int} {l2 : Int} {l3 : Int} {l4 : AV} {l5 : Int} {l6 : AV} {x0 : Int} : WP m109 43 [.inr (.inl l0), .inl l1, .inl l2, .inr (.inr (.inl l3)), l4, .inl l5, l6] [.inr (.inr (.inl x0))] σ Q = WP m109 44 [.inr (.inl l0), .inl l1, .inl l2, .inr (.inr (.inl l3)), l4, .inl l5, l6] [.inr (.inr (.inl (1))), .inr (.inr (.inl x0))] σ Q := w_lconst d109_43
theorem d109_44 : adec m109 44 = some (.lcmp, 1) := by decide +kernel
theorem s109_44 {l0 : Nat} {l1 : Int} {l2 : Int} {l3 : Int} {l4 : AV} {l5 : Int} {l6 : AV} {x0 : Int} {x1 : Int} : WP m109 44 [.inr (.inl l0), .inl l1, .inl l2, .inr (.inr (.inl l3)), l4, .inl l5, l6] [.inr (.inr (.inl x1)), .inr (.inr (.inl x0))] σ Q = WP m109 45 [.inr (.inl l0), .inl l1, .inl l2, .inr (.inr (.inl l3)), l4, .inl l5, l6] [.inl (cmpL x0 x1)] σ Q := w_ld d109_44 rfl
theorem d109_45 : adec m109 45 = some (.ifCond .ne (7), 3) := by decide +kernel
theorem s109_45 {l0 : Nat} {l1 : Int} {l2 : Int} {l3 : Int} {l4 : AV} {l5 : Int} {l6 : AV} {x0 : Int} : WP m109 45 [.inr (.inl l0), .inl l1, .inl l2, .inr (.inr (.inl l3)), l4, .inl l5, l6] [.inl x0] σ Q = (if x0 = 0 then WP m109 48 [.inr (.inl l0), .inl l1, .inl l2, .inr (.inr (.inl l3)), l4, .inl l5, l6] [] σ Q else WP m109 52 [.inr (.inl l0), .inl l1, .inl l2, .inr (.inr (.inl l3)), l4, .inl l5, l6] [] σ Q) := w_ifne d109_45 (by decide)
theorem d109_48 : adec m109 48 = some (.iconst (1), 1) := by decide +kernel
theorem s109_48 {l0 : Nat} {l1 : Int} {l2 : Int} {l3 : Int} {l4 : AV} {l5 : Int} {l6 : AV} : WP m109 48 [.inr (.inl l0), .inl l1, .inl l2, .inr (.inr (.inl l3)), l4, .inl l5, l6] [] σ Q = WP m109 49 [.inr (.inl l0), .inl l1, .inl l2, .inr (.inr (.inl l3)), l4, .inl l5, l6] [.inl (1)] σ Q := w_iconst d109_48 (by decide)
theorem d109_49 : adec m109 49 = some (.goto (4), 3) := by decide +kernel
theorem s109_49 {l0 : Nat} {l1 : Int} {l2 : Int} {l3 : Int} {l4 : AV} {l5 : Int} {l6 : AV} {x0 : Int} : WP m109 49 [.inr (.inl l0), .inl l1, .inl l2, .inr (.inr (.inl l3)), l4, .inl l5, l6] [.inl x0] σ Q = WP m109 53 [.inr (.inl l0), .inl l1, .inl l2, .inr (.inr (.inl l3)), l4, .inl l5, l6] [.inl x0] σ Q := w_goto d109_49 (by decide)
theorem d109_52 : adec m109 52 = some (.iconst (0), 1) := by decide +kernel
theorem s109_52 {l0 : Nat} {l1 : Int} {l2 : Int} {l3 : Int} {l4 : AV} {l5 : Int} {l6 : AV} : WP m109 52 [.inr (.inl l0), .inl l1, .inl l2, .inr (.inr (.inl l3)), l4, .inl l5, l6] [] σ Q = WP m109 53 [.inr (.inl l0), .inl l1, .inl l2, .inr (.inr (.inl l3)), l4, .inl l5, l6] [.inl (0)] σ Q := w_iconst d109_52 (by decide)
theorem d109_53 : adec m109 53 = some (.istore 6, 2) := by decide +kernel
theorem s109_53 {l0 : Nat} {l1 : Int} {l2 : Int} {l3 : Int} {l4 : AV} {l5 : Int} {l6 : AV} {x0 : Int} : WP m109 53 [.inr (.inl l0), .inl l1, .inl l2, .inr (.inr (.inl l3)), l4, .inl l5, l6] [.inl x0] σ Q = WP m109 55 [.inr (.inl l0), .inl l1, .inl l2, .inr (.inr (.inl l3)), l4, .inl l5, .inl x0] [] σ Q := w_st1 (j := 6) d109_53 rfl (Nat.le_of_ble_eq_true rfl) rfl
theorem d109_55 : adec m109 55 = some (.lload_n 3, 1) := by decide +kernel
theorem s109_55 {l0 : Nat} {l1 : Int} {l2 : Int} {l3 : Int} {l4 : AV} {l5 : Int} {l6 : Int} : WP m109 55 [.inr (.inl l0), .inl l1, .inl l2, .inr (.inr (.inl l3)), l4, .inl l5, .inl l6] [] σ Q = WP m109 56 [.inr (.inl l0), .inl l1, .inl l2, .inr (.inr (.inl l3)), l4, .inl l5, .inl l6] [.inr (.inr (.inl l3))] σ Q := w_ld d109_55 rfl
theorem d109_56 : adec m109 56 = some (.invokestatic 231, 3) := by decide +kernel
theorem s109_56 {l0 : Nat} {l1 : Int} {l2 : Int} {l3 : Int} {l4 : AV} {l5 : Int} {l6 : Int} {x0 : Int} : WP m109 56 [.inr (.inl l0), .inl l1, .inl l2, .inr (.inr (.inl l3)), l4, .inl l5, .inl l6] [.inr (.inr (.inl x0))] σ Q = CA m122 [.inr (.inr (.inl x0))] σ (fun v σ2 => WP m109 59 [.inr (.inl l0), .inl l1, .inl l2, .inr (.inr (.inl l3)), l4, .inl l5, .inl l6] (v ++ []) σ2 Q) := w_cS (k := 122) d109_56 (by decide +kernel) (md := 1) (by decide +kernel) m122_at rfl rfl ⟨Nat.le_of_ble_eq_true rfl, Nat.le_of_ble_eq_true rfl, Nat.le_of_ble_eq_true rfl⟩ (by decide)
theorem d109_59 : adec m109 59 = some (.lstore_n 3, 1) := by decide +kernel
theorem s109_59 {l0 : Nat} {l1 : Int} {l2 : Int} {l3 : Int} {l4 : AV} {l5 : Int} {l6 : Int} {x0 : Int} : WP m109 59 [.inr (.inl l0), .inl l1, .inl l2, .inr (.inr (.inl l3)), l4, .inl l5, .inl l6] [.inr (.inr (.inl x0))] σ Q = WP m109 60 [.inr (.inl l0), .inl l1, .inl l2, .inr (.inr (.inl x0)), vU, .inl l5, .inl l6] [] σ Q := w_stL (j := 3) d109_59 rfl (Nat.le_of_ble_eq_true rfl) rfl
theorem d109_60 : adec m109 60 = some (.aload_n 0, 1) := by decide +kernel
theorem s109_60 {l0 : Nat} {l1 : Int} {l2 : Int} {l3 : Int} {l4 : AV} {l5 : Int} {l6 : Int} : WP m109 60 [.inr (.inl l0), .inl l1, .inl l2, .inr (.inr (.inl l3)), l4, .inl l5, .inl l6] [] σ Q = WP m109 61 [.inr (.inl l0), .inl l1, .inl l2, .inr (.inr (.inl l3)), l4, .inl l5, .inl l6] [.inr (.inl l0)] σ Q := w_ld d109_60 rfl
theorem d109_61 : adec m109 61 = some (.getfield 40, 3) := by decide +kernel
theorem s109_61 {l0 : Nat} {l1 : Int} {l2 : Int} {l3 : Int} {l4 : AV} {l5 : Int} {l6 : Int} : WP m109 61 [.inr (.inl l0), .inl l1, .inl l2, .inr (.inr (.inl l3)), l4, .inl l5, .inl l6] [.inr (.inl 0)] σ Q = WP m109 64 [.inr (.inl l0), .inl l1, .inl l2, .inr (.inr (.inl l3)), l4, .inl l5, .inl l6] [.inr (.inl 53)] σ Q := (w_getR (c := 9) (n := 5) d109_61 (by decide +kernel) (by decide +kernel)).trans (g_and ⟨isO_dec (by decide +kernel), by decide +kernel⟩)
theorem d109_64 : adec m109 64 = some (.iload 6, 2) := by decide +kernel
theorem s109_64 {l0 : Nat} {l1 : Int} {l2 : Int} {l3 : Int} {l4 : AV} {l5 : Int} {l6 : Int} {x0 : Nat} : WP m109 64 [.inr (.inl l0), .inl l1, .inl l2, .inr (.inr (.inl l3)), l4, .inl l5, .inl l6] [.inr (.inl x0)] σ Q = WP m109 66 [.inr (.inl l0), .inl l1, .inl l2, .inr (.inr (.inl l3)), l4, .inl l5, .inl l6] [.inl l6, .inr (.inl x0)] σ Q := w_ld d109_64 rfl
theorem d109_66 : adec m109 66 = some (.ifCond .eq (7), 3) := by decide +kernel
theorem s109_66 {l0 : Nat} {l1 : Int} {l2 : Int} {l3 : Int} {l4 : AV} {l5 : Int} {l6 : Int} {x0 : Nat} {x1 : Int} : WP m109 66 [.inr (.inl l0), .inl l1, .inl l2, .inr (.inr (.inl l3)), l4, .inl l5, .inl l6] [.inl x1, .inr (.inl x0)] σ Q = (if x1 = 0 then WP m109 73 [.inr (.inl l0), .inl l1, .inl l2, .inr (.inr (.inl l3)), l4, .inl l5, .inl l6] [.inr (.inl x0)] σ Q else WP m109 69 [.inr (.inl l0), .inl l1, .inl l2, .inr (.inr (.inl l3)), l4, .inl l5, .inl l6] [.inr (.inl x0)] σ Q) := w_ifeq d109_66 (by decide)
theorem d109_69 : adec m109 69 = some (.iconst (0), 1) := by decide +kernel
theorem s109_69 {l0 : Nat} {l1 : Int} {l2 : Int} {l3 : Int} {l4 : AV} {l5 : Int} {l6 : Int} {x0 : Nat} : WP m109 69 [.inr (.inl l0), .inl l1, .inl l2, .inr (.inr (.inl l3)), l4, .inl l5, .inl l6] [.inr (.inl x0)] σ Q = WP m109 70 [.inr (.inl l0), .inl l1, .inl l2, .inr (.inr (.inl l3)), l4, .inl l5, .inl l6] [.inl (0), .inr (.inl x0)] σ Q := w_iconst d109_69 (by decide)
theorem d109_70 : adec m109 70 = some (.goto (10), 3) := by decide +kernel
theorem s109_70 {l0 : Nat} {l1 : Int} {l2 : Int} {l3 : Int} {l4 : AV} {l5 : Int} {l6 : Int} {x0 : Nat} {x1 : Int} : WP m109 70 [.inr (.inl l0), .inl l1, .inl l2, .inr (.inr (.inl l3)), l4, .inl l5, .inl l6] [.inl x1, .inr (.inl x0)] σ Q = WP m109 80 [.inr (.inl l0), .inl l1, .inl l2, .inr (.inr (.inl l3)), l4, .inl l5, .inl l6] [.inl x1, .inr (.inl x0)] σ Q := w_goto d109_70 (by decide)
theorem d109_73 : adec m109 73 = some (.aload_n 0, 1) := by decide +kernel
theorem s109_73 {l0 : Nat} {l1 : Int} {l2 : Int} {l3 : Int} {l4 : AV} {l5 : Int} {l6 : Int} {x0 : Nat} : WP m109 73 [.inr (.inl l0), .inl l1, .inl l2, .inr (.inr (.inl l3)), l4, .inl l5, .inl l6] [.inr (.inl x0)] σ Q = WP m109 74 [.inr (.inl l0), .inl l1, .inl l2, .inr (.inr (.inl l3)), l4, .inl l5, .inl l6] [.inr (.inl l0), .inr (.inl x0)] σ Q := w_ld d109_73 rfl
theorem d109_74 : adec m109 74 = some (.getfield 40, 3) := by decide +kernel
theorem s109_74 {l0 : Nat} {l1 : Int} {l2 : Int} {l3 : Int} {l4 : AV} {l5 : Int} {l6 : Int} {x0 : Nat} : WP m109 74 [.inr (.inl l0), .inl l1, .inl l2, .inr (.inr (.inl l3)), l4, .inl l5, .inl l6] [.inr (.inl 0), .inr (.inl x0)] σ Q = WP m109 77 [.inr (.inl l0), .inl l1, .inl l2, .inr (.inr (.inl l3)), l4, .inl l5, .inl l6] [.inr (.inl 53), .inr (.inl x0)] σ Q := (w_getR (c := 9) (n := 5) d109_74 (by decide +kernel) (by decide +kernel)).trans (g_and ⟨isO_dec (by decide +kernel), by decide +kernel⟩)
theorem d109_77 : adec m109 77 = some (.invokevirtual 90, 3) := by decide +kernel
theorem s109_77 {l0 : Nat} {l1 : Int} {l2 : Int} {l3 : Int} {l4 : AV} {l5 : Int} {l6 : Int} {x0 : Nat} {x1 : Nat} : WP m109 77 [.inr (.inl l0), .inl l1, .inl l2, .inr (.inr (.inl l3)), l4, .inl l5, .inl l6] [.inr (.inl x1), .inr (.inl x0)] σ Q = (isO x1 3 ∧ CA m28 [.inr (.inl x1)] σ (fun v σ2 => WP m109 80 [.inr (.inl l0), .inl l1, .inl l2, .inr (.inr (.inl l3)), l4, .inl l5, .inl l6] (v ++ [.inr (.inl x0)]) σ2 Q)) := w_cV (k := 28) d109_77 (by decide +kernel) m28_at rfl rfl ⟨Nat.le_of_ble_eq_true rfl, Nat.le_of_ble_eq_true rfl, Nat.le_of_ble_eq_true rfl⟩ (by decide)
theorem d109_80 : adec m109 80 = some (.lload_n 3, 1) := by decide +kernel
theorem s109_80 {l0 : Nat} {l1 : Int} {l2 : Int} {l3 : Int} {l4 : AV} {l5 : Int} {l6 : Int} {x0 : Nat} {x1 : Int} : WP m109 80 [.inr (.inl l0), .inl l1, .inl l2, .inr (.inr (.inl l3)), l4, .inl l5, .inl l6] [.inl x1, .inr (.inl x0)] σ Q = WP m109 81 [.inr (.inl l0), .inl l1, .inl l2, .inr (.inr (.inl l3)), l4, .inl l5, .inl l6] [.inr (.inr (.inl l3)), .inl x1, .inr (.inl x0)] σ Q := w_ld d109_80 rfl
theorem d109_81 : adec m109 81 = some (.invokestatic 235, 3) := by decide +kernel
theorem s109_81 {l0 : Nat} {l1 : Int} {l2 : Int} {l3 : Int} {l4 : AV} {l5 : Int} {l6 : Int} {x0 : Nat} {x1 : Int} {x2 : Int} : WP m109 81 [.inr (.inl l0), .inl l1, .inl l2, .inr (.inr (.inl l3)), l4, .inl l5, .inl l6] [.inr (.inr (.inl x2)), .inl x1, .inr (.inl x0)] σ Q = CA m123 [.inr (.inr (.inl x2))] σ (fun v σ2 => WP m109 84 [.inr (.inl l0), .inl l1, .inl l2, .inr (.inr (.inl l3)), l4, .inl l5, .inl l6] (v ++ [.inl x1, .inr (.inl x0)]) σ2 Q) := w_cS (k := 123) d109_81 (by decide +kernel) (md := 1) (by decide +kernel) m123_at rfl rfl ⟨Nat.le_of_ble_eq_true rfl, Nat.le_of_ble_eq_true rfl, Nat.le_of_ble_eq_true rfl⟩ (by decide)
theorem d109_84 : adec m109 84 = some (.invokevirtual 241, 3) := by decide +kernel
theorem s109_84 {l0 : Nat} {l1 : Int} {l2 : Int} {l3 : Int} {l4 : AV} {l5 : Int} {l6 : Int} {x0 : Nat} {x1 : Int} {x2 : Int} : WP m109 84 [.inr (.inl l0), .inl l1, .inl l2, .inr (.inr (.inl l3)), l4, .inl l5, .inl l6] [.inl x2, .inl x1, .inr (.inl x0)] σ Q = (isO x0 3 ∧ CA m36 [.inr (.inl x0), .inl x1, .inl x2] σ (fun v σ2 => WP m109 87 [.inr (.inl l0), .inl l1, .inl l2, .inr (.inr (.inl l3)), l4, .inl l5, .inl l6] (v ++ []) σ2 Q)) := w_cV (k := 36) d109_84 (by decide +kernel) m36_at rfl rfl ⟨Nat.le_of_ble_eq_true rfl, Nat.le_of_ble_eq_true rfl, Nat.le_of_ble_eq_true rfl⟩ (by decide)
theorem d109_87 : adec m109 87 = some (.aload_n 0, 1) := by decide +kernel
theorem s109_87 {l0 : Nat} {l1 : Int} {l2 : Int} {l3 : Int} {l4 : AV} {l5 : Int} {l6 : Int} : WP m109 87 [.inr (.inl l0), .inl l1, .inl l2, .inr (.inr (.inl l3)), l4, .inl l5, .inl l6] [] σ Q = WP m109 88 [.inr (.inl l0), .inl l1, .inl l2, .inr (.inr (.inl l3)), l4, .inl l5, .inl l6] [.inr (.inl l0)] σ Q := w_ld d109_87 rfl
theorem d109_88 : adec m109 88 = some (.getfield 40, 3) := by decide +kernel
theorem s109_88 {l0 : Nat} {l1 : Int} {l2 : Int} {l3 : Int} {l4 : AV} {l5 : Int} {l6 : Int} : WP m109 88 [.inr (.inl l0), .inl l1, .inl l2, .inr (.inr (.inl l3)), l4, .inl l5, .inl l6] [.inr (.inl 0)] σ Q = WP m109 91 [.inr (.inl l0), .inl l1, .inl l2, .inr (.inr (.inl l3)), l4, .inl l5, .inl l6] [.inr (.inl 53)] σ Q := (w_getR (c := 9) (n := 5) d109_88 (by decide +kernel) (by decide +kernel)).trans (g_and ⟨isO_dec (by decide +kernel), by decide +kernel⟩)
theorem d109_91 : adec m109 91 = some (.iconst (0), 1) := by decide +kernel
theorem s109_91 {l0 : Nat} {l1 : Int} {l2 : Int} {l3 : Int} {l4 : AV} {l5 : Int} {l6 : Int} {x0 : Nat} : WP m109 91 [.inr (.inl l0), .inl l1, .inl l2, .inr (.inr (.inl l3)), l4, .inl l5, .inl l6] [.inr (.inl x0)] σ Q = WP m109 92 [.inr (.inl l0), .inl l1, .inl l2, .inr (.inr (.inl l3)), l4, .inl l5, .inl l6] [.inl (0), .inr (.inl x0)] σ Q := w_iconst d109_91 (by decide)
theorem d109_92 : adec m109 92 = some (.iconst (1), 1) := by decide +kernel
theorem s109_92 {l0 : Nat} {l1 : Int} {l2 : Int} {l3 : Int} {l4 : AV} {l5 : Int} {l6 : Int} {x0 : Nat} {x1 : Int} : WP m109 92 [.inr (.inl l0), .inl l1, .inl l2, .inr (.inr (.inl l3)), l4, .inl l5, .inl l6] [.inl x1, .inr (.inl x0)] σ Q = WP m109 93 [.inr (.inl l0), .inl l1, .inl l2, .inr (.inr (.inl l3)), l4, .inl l5, .inl l6] [.inl (1), .inl x1, .inr (.inl x0)] σ Q := w_iconst d109_92 (by decide)
theorem d109_93 : adec m109 93 = some (.invokevirtual 241, 3) := by decide +kernel
theorem s109_93 {l0 : Nat} {l1 : Int} {l2 : Int} {l3 : Int} {l4 : AV} {l5 : Int} {l6 : Int} {x0 : Nat} {x1 : Int} {x2 : Int} : WP m109 93 [.inr (.inl l0), .inl l1, .inl l2, .inr (.inr (.inl l3)), l4, .inl l5, .inl l6] [.inl x2, .inl x1, .inr (.inl x0)] σ Q = (isO x0 3 ∧ CA m36 [.inr (.inl x0), .inl x1, .inl x2] σ (fun v σ2 => WP m109 96 [.inr (.inl l0), .inl l1, .inl l2, .inr (.inr (.inl l3)), l4, .inl l5, .inl l6] (v ++ []) σ2 Q)) := w_cV (k := 36) d109_93 (by decide +kernel) m36_at rfl rfl ⟨Nat.le_of_ble_eq_true rfl, Nat.le_of_ble_eq_true rfl, Nat.le_of_ble_eq_true rfl⟩ (by decide)
theorem d109_96 : adec m109 96 = some (.iinc 5 (1), 3) := by decide +kernel
theorem s109_96 {l0 : Nat} {l1 : Int} {l2 : Int} {l3 : Int} {l4 : AV} {l5 : Int} {l6 : Int} (hg : isL l4 = false) : WP m109 96 [.inr (.inl l0), .inl l1, .inl l2, .inr (.inr (.inl l3)), l4, .inl l5, .inl l6] [] σ Q = (inI (l5 + (1)) ∧ WP m109 99 [.inr (.inl l0), .inl l1, .inl l2, .inr (.inr (.inl l3)), l4, .inl (l5 + (1)), .inl l6] [] σ Q) := w_iinc d109_96 rfl (by simp [okSt, hg])
theorem d109_99 : adec m109 99 = some (.goto (-72), 3) := by decide +kernel
theorem s109_99 {l0 : Nat} {l1 : Int} {l2 : Int} {l3 : Int} {l4 : AV} {l5 : Int} {l6 : Int} : WP m109 99 [.inr (.inl l0), .inl l1, .inl l2, .inr (.inr (.inl l3)), l4, .inl l5, .inl l6] [] σ Q = WP m109 27 [.inr (.inl l0), .inl l1, .inl l2, .inr (.inr (.inl l3)), l4, .inl l5, .inl l6] [] σ Q := w_goto d109_99 (by decide)
theorem d109_102 : adec m109 102 = some (.return_, 1) := by decide +kernel
theorem s109_102 {l0 : Nat} {l1 : Int} {l2 : Int} {l3 : Int} {l4 : AV} {l5 : Int} {l6 : AV} : WP m109 102 [.inr (.inl l0), .inl l1, .inl l2, .inr (.inr (.inl l3)), l4, .inl l5, l6] [] σ Q = Q [] σ := w_rv d109_102 rfl
theorem e109 {p0 : Nat} {p1 : Int} {p2 : Int} : CA m109 [.inr (.inl p0), .inl p1, .inl p2] σ Q = WP m109 0 [.inr (.inl p0), .inl p1, .inl p2, vU, vU, vU, vU] [] σ Q := rfl
-- BinderPress.fullShelves()I
theorem d110_0 : adec m110 0 = some (.iconst (0), 1) := by decide +kernel
theorem s110_0 {l0 : Nat} {l1 : AV} {l2 : AV} : WP m110 0 [.inr (.inl l0), l1, l2] [] σ Q = WP m110 1 [.inr (.inl l0), l1, l2] [.inl (0)] σ Q := w_iconst d110_0 (by decide)
theorem d110_1 : adec m110 1 = some (.istore_n 1, 1) := by decide +kernel
theorem s110_1 {l0 : Nat} {l1 : AV} {l2 : AV} {x0 : Int} : WP m110 1 [.inr (.inl l0), l1, l2] [.inl x0] σ Q = WP m110 2 [.inr (.inl l0), .inl x0, l2] [] σ Q := w_st1 (j := 1) d110_1 rfl (Nat.le_of_ble_eq_true rfl) rfl
theorem d110_2 : adec m110 2 = some (.iconst (0), 1) := by decide +kernel
theorem s110_2 {l0 : Nat} {l1 : Int} {l2 : AV} : WP m110 2 [.inr (.inl l0), .inl l1, l2] [] σ Q = WP m110 3 [.inr (.inl l0), .inl l1, l2] [.inl (0)] σ Q := w_iconst d110_2 (by decide)
theorem d110_3 : adec m110 3 = some (.istore_n 2, 1) := by decide +kernel
theorem s110_3 {l0 : Nat} {l1 : Int} {l2 : AV} {x0 : Int} : WP m110 3 [.inr (.inl l0), .inl l1, l2] [.inl x0] σ Q = WP m110 4 [.inr (.inl l0), .inl l1, .inl x0] [] σ Q := w_st1 (j := 2) d110_3 rfl (Nat.le_of_ble_eq_true rfl) rfl
theorem d110_4 : adec m110 4 = some (.iload_n 2, 1) := by decide +kernel
theorem s110_4 {l0 : Nat} {l1 : Int} {l2 : Int} : WP m110 4 [.inr (.inl l0), .inl l1, .inl l2] [] σ Q = WP m110 5 [.inr (.inl l0), .inl l1, .inl l2] [.inl l2] σ Q := w_ld d110_4 rfl
theorem d110_5 : adec m110 5 = some (.iconst (4), 1) := by decide +kernel
theorem s110_5 {l0 : Nat} {l1 : Int} {l2 : Int} {x0 : Int} : WP m110 5 [.inr (.inl l0), .inl l1, .inl l2] [.inl x0] σ Q = WP m110 6 [.inr (.inl l0), .inl l1, .inl l2] [.inl (4), .inl x0] σ Q := w_iconst d110_5 (by decide)
theorem d110_6 : adec m110 6 = some (.if_icmp .ge (23), 3) := by decide +kernel
theorem s110_6 {l0 : Nat} {l1 : Int} {l2 : Int} {x0 : Int} {x1 : Int} : WP m110 6 [.inr (.inl l0), .inl l1, .inl l2] [.inl x1, .inl x0] σ Q = (if x1 ≤ x0 then WP m110 29 [.inr (.inl l0), .inl l1, .inl l2] [] σ Q else WP m110 9 [.inr (.inl l0), .inl l1, .inl l2] [] σ Q) := w_icge d110_6 (by decide)
theorem d110_9 : adec m110 9 = some (.aload_n 0, 1) := by decide +kernel
theorem s110_9 {l0 : Nat} {l1 : Int} {l2 : Int} : WP m110 9 [.inr (.inl l0), .inl l1, .inl l2] [] σ Q = WP m110 10 [.inr (.inl l0), .inl l1, .inl l2] [.inr (.inl l0)] σ Q := w_ld d110_9 rfl
theorem d110_10 : adec m110 10 = some (.iload_n 2, 1) := by decide +kernel
theorem s110_10 {l0 : Nat} {l1 : Int} {l2 : Int} {x0 : Nat} : WP m110 10 [.inr (.inl l0), .inl l1, .inl l2] [.inr (.inl x0)] σ Q = WP m110 11 [.inr (.inl l0), .inl l1, .inl l2] [.inl l2, .inr (.inl x0)] σ Q := w_ld d110_10 rfl
theorem d110_11 : adec m110 11 = some (.invokevirtual 117, 3) := by decide +kernel
theorem s110_11 {l0 : Nat} {l1 : Int} {l2 : Int} {x1 : Int} : WP m110 11 [.inr (.inl l0), .inl l1, .inl l2] [.inl x1, .inr (.inl 0)] σ Q = CA m111 [.inr (.inl 0), .inl x1] σ (fun v σ2 => WP m110 14 [.inr (.inl l0), .inl l1, .inl l2] (v ++ []) σ2 Q) := (w_cV (k := 111) d110_11 (by decide +kernel) m111_at rfl rfl ⟨Nat.le_of_ble_eq_true rfl, Nat.le_of_ble_eq_true rfl, Nat.le_of_ble_eq_true rfl⟩ (by decide)).trans (g_and (isO_dec (by decide +kernel)))
theorem d110_14 : adec m110 14 = some (.ifCond .ne (9), 3) := by decide +kernel
theorem s110_14 {l0 : Nat} {l1 : Int} {l2 : Int} {x0 : Int} : WP m110 14 [.inr (.inl l0), .inl l1, .inl l2] [.inl x0] σ Q = (if x0 = 0 then WP m110 17 [.inr (.inl l0), .inl l1, .inl l2] [] σ Q else WP m110 23 [.inr (.inl l0), .inl l1, .inl l2] [] σ Q) := w_ifne d110_14 (by decide)
theorem d110_17 : adec m110 17 = some (.iload_n 1, 1) := by decide +kernel
theorem s110_17 {l0 : Nat} {l1 : Int} {l2 : Int} : WP m110 17 [.inr (.inl l0), .inl l1, .inl l2] [] σ Q = WP m110 18 [.inr (.inl l0), .inl l1, .inl l2] [.inl l1] σ Q := w_ld d110_17 rfl
theorem d110_18 : adec m110 18 = some (.iconst (1), 1) := by decide +kernel
theorem s110_18 {l0 : Nat} {l1 : Int} {l2 : Int} {x0 : Int} : WP m110 18 [.inr (.inl l0), .inl l1, .inl l2] [.inl x0] σ Q = WP m110 19 [.inr (.inl l0), .inl l1, .inl l2] [.inl (1), .inl x0] σ Q := w_iconst d110_18 (by decide)
theorem d110_19 : adec m110 19 = some (.iload_n 2, 1) := by decide +kernel
theorem s110_19 {l0 : Nat} {l1 : Int} {l2 : Int} {x0 : Int} {x1 : Int} : WP m110 19 [.inr (.inl l0), .inl l1, .inl l2] [.inl x1, .inl x0] σ Q = WP m110 20 [.inr (.inl l0), .inl l1, .inl l2] [.inl l2, .inl x1, .inl x0] σ Q := w_ld d110_19 rfl
theorem d110_20 : adec m110 20 = some (.ishl, 1) := by decide +kernel
theorem s110_20 {l0 : Nat} {l1 : Int} {l2 : Int} {x0 : Int} {x1 : Int} {x2 : Int} : WP m110 20 [.inr (.inl l0), .inl l1, .inl l2] [.inl x2, .inl x1, .inl x0] σ Q = (((0 ≤ x1 ∧ 0 ≤ x2 ∧ x2 ≤ 30) ∧ inI (x1 * 2 ^ x2.toNat)) ∧ WP m110 21 [.inr (.inl l0), .inl l1, .inl l2] [.inl (x1 * 2 ^ x2.toNat), .inl x0] σ Q) := w_ishl d110_20
theorem d110_21 : adec m110 21 = some (.ior, 1) := by decide +kernel
theorem s110_21 {l0 : Nat} {l1 : Int} {l2 : Int} {x0 : Int} {x1 : Int} : WP m110 21 [.inr (.inl l0), .inl l1, .inl l2] [.inl x1, .inl x0] σ Q = WP m110 22 [.inr (.inl l0), .inl l1, .inl l2] [.inl (bitA (· ||| ·) x0 x1)] σ Q := w_ior d110_21
theorem d110_22 : adec m110 22 = some (.istore_n 1, 1) := by decide +kernel
theorem s110_22 {l0 : Nat} {l1 : Int} {l2 : Int} {x0 : Int} : WP m110 22 [.inr (.inl l0), .inl l1, .inl l2] [.inl x0] σ Q = WP m110 23 [.inr (.inl l0), .inl x0, .inl l2] [] σ Q := w_st1 (j := 1) d110_22 rfl (Nat.le_of_ble_eq_true rfl) rfl
theorem d110_23 : adec m110 23 = some (.iinc 2 (1), 3) := by decide +kernel
theorem s110_23 {l0 : Nat} {l1 : Int} {l2 : Int} : WP m110 23 [.inr (.inl l0), .inl l1, .inl l2] [] σ Q = (inI (l2 + (1)) ∧ WP m110 26 [.inr (.inl l0), .inl l1, .inl (l2 + (1))] [] σ Q) := w_iinc d110_23 rfl rfl
theorem d110_26 : adec m110 26 = some (.goto (-22), 3) := by decide +kernel
theorem s110_26 {l0 : Nat} {l1 : Int} {l2 : Int} : WP m110 26 [.inr (.inl l0), .inl l1, .inl l2] [] σ Q = WP m110 4 [.inr (.inl l0), .inl l1, .inl l2] [] σ Q := w_goto d110_26 (by decide)
theorem d110_29 : adec m110 29 = some (.iload_n 1, 1) := by decide +kernel
theorem s110_29 {l0 : Nat} {l1 : Int} {l2 : Int} : WP m110 29 [.inr (.inl l0), .inl l1, .inl l2] [] σ Q = WP m110 30 [.inr (.inl l0), .inl l1, .inl l2] [.inl l1] σ Q := w_ld d110_29 rfl
theorem d110_30 : adec m110 30 = some (.ireturn, 1) := by decide +kernel
theorem s110_30 {l0 : Nat} {l1 : Int} {l2 : Int} {x0 : Int} : WP m110 30 [.inr (.inl l0), .inl l1, .inl l2] [.inl x0] σ Q = Q [.inl x0] σ := w_ri d110_30 rfl
theorem e110 {p0 : Nat} : CA m110 [.inr (.inl p0)] σ Q = WP m110 0 [.inr (.inl p0), vU, vU] [] σ Q := rfl
-- BinderPress.isEmpty(I)Z
theorem d111_0 : adec m111 0 = some (.iload_n 1, 1) := by decide +kernel
theorem s111_0 {l0 : Nat} {l1 : Int} : WP m111 0 [.inr (.inl l0), .inl l1] [] σ Q = WP m111 1 [.inr (.inl l0), .inl l1] [.inl l1] σ Q := w_ld d111_0 rfl
theorem d111_1 : adec m111 1 = some (.invokestatic 98, 3) := by decide +kernel
theorem s111_1 {l0 : Nat} {l1 : Int} {x0 : Int} : WP m111 1 [.inr (.inl l0), .inl l1] [.inl x0] σ Q = CA m113 [.inl x0] σ (fun v σ2 => WP m111 4 [.inr (.inl l0), .inl l1] (v ++ []) σ2 Q) := w_cS (k := 113) d111_1 (by decide +kernel) (md := 1) (by decide +kernel) m113_at rfl rfl ⟨Nat.le_of_ble_eq_true rfl, Nat.le_of_ble_eq_true rfl, Nat.le_of_ble_eq_true rfl⟩ (by decide)
theorem d111_4 : adec m111 4 = some (.ifCond .eq (15), 3) := by decide +kernel
theorem s111_4 {l0 : Nat} {l1 : Int} {x0 : Int} : WP m111 4 [.inr (.inl l0), .inl l1] [.inl x0] σ Q = (if x0 = 0 then WP m111 19 [.inr (.inl l0), .inl l1] [] σ Q else WP m111 7 [.inr (.inl l0), .inl l1] [] σ Q) := w_ifeq d111_4 (by decide)
theorem d111_7 : adec m111 7 = some (.aload_n 0, 1) := by decide +kernel
theorem s111_7 {l0 : Nat} {l1 : Int} : WP m111 7 [.inr (.inl l0), .inl l1] [] σ Q = WP m111 8 [.inr (.inl l0), .inl l1] [.inr (.inl l0)] σ Q := w_ld d111_7 rfl
theorem d111_8 : adec m111 8 = some (.getfield 22, 3) := by decide +kernel
theorem s111_8 {l0 : Nat} {l1 : Int} : WP m111 8 [.inr (.inl l0), .inl l1] [.inr (.inl 0)] σ Q = WP m111 11 [.inr (.inl l0), .inl l1] [.inr (.inl 3)] σ Q := (w_getR (c := 9) (n := 1) d111_8 (by decide +kernel) (by decide +kernel)).trans (g_and ⟨isO_dec (by decide +kernel), by decide +kernel⟩)
theorem d111_11 : adec m111 11 = some (.iload_n 1, 1) := by decide +kernel
theorem s111_11 {l0 : Nat} {l1 : Int} {x0 : Nat} : WP m111 11 [.inr (.inl l0), .inl l1] [.inr (.inl x0)] σ Q = WP m111 12 [.inr (.inl l0), .inl l1] [.inl l1, .inr (.inl x0)] σ Q := w_ld d111_11 rfl
theorem d111_12 : adec m111 12 = some (.aaload, 1) := by decide +kernel
theorem s111_12 {l0 : Nat} {l1 : Int} {x0 : Nat} {x1 : Int} (h31 : x0 ≠ 31) : WP m111 12 [.inr (.inl l0), .inl l1] [.inl x1, .inr (.inl x0)] σ Q = ((kdS x0 = 22 ∧ 0 ≤ x1 ∧ x1 < ln x0 ∧ 0 ≤ PT x0 x1.toNat) ∧ WP m111 13 [.inr (.inl l0), .inl l1] [.inr (.inl (pt x0 x1.toNat))] σ Q) := w_aald d111_12 h31
theorem d111_13 : adec m111 13 = some (.invokevirtual 90, 3) := by decide +kernel
theorem s111_13 {l0 : Nat} {l1 : Int} {x0 : Nat} : WP m111 13 [.inr (.inl l0), .inl l1] [.inr (.inl x0)] σ Q = (isO x0 3 ∧ CA m28 [.inr (.inl x0)] σ (fun v σ2 => WP m111 16 [.inr (.inl l0), .inl l1] (v ++ []) σ2 Q)) := w_cV (k := 28) d111_13 (by decide +kernel) m28_at rfl rfl ⟨Nat.le_of_ble_eq_true rfl, Nat.le_of_ble_eq_true rfl, Nat.le_of_ble_eq_true rfl⟩ (by decide)
theorem d111_16 : adec m111 16 = some (.ifCond .ne (7), 3) := by decide +kernel
theorem s111_16 {l0 : Nat} {l1 : Int} {x0 : Int} : WP m111 16 [.inr (.inl l0), .inl l1] [.inl x0] σ Q = (if x0 = 0 then WP m111 19 [.inr (.inl l0), .inl l1] [] σ Q else WP m111 23 [.inr (.inl l0), .inl l1] [] σ Q) := w_ifne d111_16 (by decide)
theorem d111_19 : adec m111 19 = some (.iconst (1), 1) := by decide +kernel
theorem s111_19 {l0 : Nat} {l1 : Int} : WP m111 19 [.inr (.inl l0), .inl l1] [] σ Q = WP m111 20 [.inr (.inl l0), .inl l1] [.inl (1)] σ Q := w_iconst d111_19 (by decide)
theorem d111_20 : adec m111 20 = some (.goto (4), 3) := by decide +kernel
theorem s111_20 {l0 : Nat} {l1 : Int} {x0 : Int} : WP m111 20 [.inr (.inl l0), .inl l1] [.inl x0] σ Q = WP m111 24 [.inr (.inl l0), .inl l1] [.inl x0] σ Q := w_goto d111_20 (by decide)
theorem d111_23 : adec m111 23 = some (.iconst (0), 1) := by decide +kernel
theorem s111_23 {l0 : Nat} {l1 : Int} : WP m111 23 [.inr (.inl l0), .inl l1] [] σ Q = WP m111 24 [.inr (.inl l0), .inl l1] [.inl (0)] σ Q := w_iconst d111_23 (by decide)
theorem d111_24 : adec m111 24 = some (.ireturn, 1) := by decide +kernel
theorem s111_24 {l0 : Nat} {l1 : Int} {x0 : Int} : WP m111 24 [.inr (.inl l0), .inl l1] [.inl x0] σ Q = ((x0 = 0 ∨ x0 = 1) ∧ Q [.inl x0] σ) := w_rz d111_24 rfl
theorem e111 {p0 : Nat} {p1 : Int} : CA m111 [.inr (.inl p0), .inl p1] σ Q = WP m111 0 [.inr (.inl p0), .inl p1] [] σ Q := rfl
-- BinderPress.hasBinders(I)Z
theorem d112_0 : adec m112 0 = some (.iload_n 1, 1) := by decide +kernel
theorem s112_0 {l0 : Nat} {l1 : Int} : WP m112 0 [.inr (.inl l0), .inl l1] [] σ Q = WP m112 1 [.inr (.inl l0), .inl l1] [.inl l1] σ Q := w_ld d112_0 rfl
theorem d112_1 : adec m112 1 = some (.invokestatic 98, 3) := by decide +kernel
theorem s112_1 {l0 : Nat} {l1 : Int} {x0 : Int} : WP m112 1 [.inr (.inl l0), .inl l1] [.inl x0] σ Q = CA m113 [.inl x0] σ (fun v σ2 => WP m112 4 [.inr (.inl l0), .inl l1] (v ++ []) σ2 Q) := w_cS (k := 113) d112_1 (by decide +kernel) (md := 1) (by decide +kernel) m113_at rfl rfl ⟨Nat.le_of_ble_eq_true rfl, Nat.le_of_ble_eq_true rfl, Nat.le_of_ble_eq_true rfl⟩ (by decide)
theorem d112_4 : adec m112 4 = some (.ifCond .eq (19), 3) := by decide +kernel
theorem s112_4 {l0 : Nat} {l1 : Int} {x0 : Int} : WP m112 4 [.inr (.inl l0), .inl l1] [.inl x0] σ Q = (if x0 = 0 then WP m112 23 [.inr (.inl l0), .inl l1] [] σ Q else WP m112 7 [.inr (.inl l0), .inl l1] [] σ Q) := w_ifeq d112_4 (by decide)
theorem d112_7 : adec m112 7 = some (.aload_n 0, 1) := by decide +kernel
theorem s112_7 {l0 : Nat} {l1 : Int} : WP m112 7 [.inr (.inl l0), .inl l1] [] σ Q = WP m112 8 [.inr (.inl l0), .inl l1] [.inr (.inl l0)] σ Q := w_ld d112_7 rfl
theorem d112_8 : adec m112 8 = some (.getfield 22, 3) := by decide +kernel
theorem s112_8 {l0 : Nat} {l1 : Int} : WP m112 8 [.inr (.inl l0), .inl l1] [.inr (.inl 0)] σ Q = WP m112 11 [.inr (.inl l0), .inl l1] [.inr (.inl 3)] σ Q := (w_getR (c := 9) (n := 1) d112_8 (by decide +kernel) (by decide +kernel)).trans (g_and ⟨isO_dec (by decide +kernel), by decide +kernel⟩)
theorem d112_11 : adec m112 11 = some (.iload_n 1, 1) := by decide +kernel
theorem s112_11 {l0 : Nat} {l1 : Int} {x0 : Nat} : WP m112 11 [.inr (.inl l0), .inl l1] [.inr (.inl x0)] σ Q = WP m112 12 [.inr (.inl l0), .inl l1] [.inl l1, .inr (.inl x0)] σ Q := w_ld d112_11 rfl
theorem d112_12 : adec m112 12 = some (.aaload, 1) := by decide +kernel
theorem s112_12 {l0 : Nat} {l1 : Int} {x0 : Nat} {x1 : Int} (h31 : x0 ≠ 31) : WP m112 12 [.inr (.inl l0), .inl l1] [.inl x1, .inr (.inl x0)] σ Q = ((kdS x0 = 22 ∧ 0 ≤ x1 ∧ x1 < ln x0 ∧ 0 ≤ PT x0 x1.toNat) ∧ WP m112 13 [.inr (.inl l0), .inl l1] [.inr (.inl (pt x0 x1.toNat))] σ Q) := w_aald d112_12 h31
theorem d112_13 : adec m112 13 = some (.invokestatic 176, 3) := by decide +kernel
theorem s112_13 {l0 : Nat} {l1 : Int} {x0 : Nat} : WP m112 13 [.inr (.inl l0), .inl l1] [.inr (.inl x0)] σ Q = CA m121 [.inr (.inl x0)] σ (fun v σ2 => WP m112 16 [.inr (.inl l0), .inl l1] (v ++ []) σ2 Q) := w_cS (k := 121) d112_13 (by decide +kernel) (md := 1) (by decide +kernel) m121_at rfl rfl ⟨Nat.le_of_ble_eq_true rfl, Nat.le_of_ble_eq_true rfl, Nat.le_of_ble_eq_true rfl⟩ (by decide)
theorem d112_16 : adec m112 16 = some (.ifCond .le (7), 3) := by decide +kernel
theorem s112_16 {l0 : Nat} {l1 : Int} {x0 : Int} : WP m112 16 [.inr (.inl l0), .inl l1] [.inl x0] σ Q = (if x0 ≤ 0 then WP m112 23 [.inr (.inl l0), .inl l1] [] σ Q else WP m112 19 [.inr (.inl l0), .inl l1] [] σ Q) := w_ifle d112_16 (by decide)
theorem d112_19 : adec m112 19 = some (.iconst (1), 1) := by decide +kernel
theorem s112_19 {l0 : Nat} {l1 : Int} : WP m112 19 [.inr (.inl l0), .inl l1] [] σ Q = WP m112 20 [.inr (.inl l0), .inl l1] [.inl (1)] σ Q := w_iconst d112_19 (by decide)
theorem d112_20 : adec m112 20 = some (.goto (4), 3) := by decide +kernel
theorem s112_20 {l0 : Nat} {l1 : Int} {x0 : Int} : WP m112 20 [.inr (.inl l0), .inl l1] [.inl x0] σ Q = WP m112 24 [.inr (.inl l0), .inl l1] [.inl x0] σ Q := w_goto d112_20 (by decide)
theorem d112_23 : adec m112 23 = some (.iconst (0), 1) := by decide +kernel
theorem s112_23 {l0 : Nat} {l1 : Int} : WP m112 23 [.inr (.inl l0), .inl l1] [] σ Q = WP m112 24 [.inr (.inl l0), .inl l1] [.inl (0)] σ Q := w_iconst d112_23 (by decide)
theorem d112_24 : adec m112 24 = some (.ireturn, 1) := by decide +kernel
theorem s112_24 {l0 : Nat} {l1 : Int} {x0 : Int} : WP m112 24 [.inr (.inl l0), .inl l1] [.inl x0] σ Q = ((x0 = 0 ∨ x0 = 1) ∧ Q [.inl x0] σ) := w_rz d112_24 rfl
theorem e112 {p0 : Nat} {p1 : Int} : CA m112 [.inr (.inl p0), .inl p1] σ Q = WP m112 0 [.inr (.inl p0), .inl p1] [] σ Q := rfl
-- BinderPress.isShelf(I)Z
theorem d113_0 : adec m113 0 = some (.iload_n 0, 1) := by decide +kernel
theorem s113_0 {l0 : Int} : WP m113 0 [.inl l0] [] σ Q = WP m113 1 [.inl l0] [.inl l0] σ Q := w_ld d113_0 rfl
theorem d113_1 : adec m113 1 = some (.ifCond .lt (12), 3) := by decide +kernel
theorem s113_1 {l0 : Int} {x0 : Int} : WP m113 1 [.inl l0] [.inl x0] σ Q = (if x0 < 0 then WP m113 13 [.inl l0] [] σ Q else WP m113 4 [.inl l0] [] σ Q) := w_iflt d113_1 (by decide)
theorem d113_4 : adec m113 4 = some (.iload_n 0, 1) := by decide +kernel
theorem s113_4 {l0 : Int} : WP m113 4 [.inl l0] [] σ Q = WP m113 5 [.inl l0] [.inl l0] σ Q := w_ld d113_4 rfl
theorem d113_5 : adec m113 5 = some (.iconst (4), 1) := by decide +kernel
theorem s113_5 {l0 : Int} {x0 : Int} : WP m113 5 [.inl l0] [.inl x0] σ Q = WP m113 6 [.inl l0] [.inl (4), .inl x0] σ Q := w_iconst d113_5 (by decide)
theorem d113_6 : adec m113 6 = some (.if_icmp .ge (7), 3) := by decide +kernel
theorem s113_6 {l0 : Int} {x0 : Int} {x1 : Int} : WP m113 6 [.inl l0] [.inl x1, .inl x0] σ Q = (if x1 ≤ x0 then WP m113 13 [.inl l0] [] σ Q else WP m113 9 [.inl l0] [] σ Q) := w_icge d113_6 (by decide)
theorem d113_9 : adec m113 9 = some (.iconst (1), 1) := by decide +kernel
theorem s113_9 {l0 : Int} : WP m113 9 [.inl l0] [] σ Q = WP m113 10 [.inl l0] [.inl (1)] σ Q := w_iconst d113_9 (by decide)
theorem d113_10 : adec m113 10 = some (.goto (4), 3) := by decide +kernel
theorem s113_10 {l0 : Int} {x0 : Int} : WP m113 10 [.inl l0] [.inl x0] σ Q = WP m113 14 [.inl l0] [.inl x0] σ Q := w_goto d113_10 (by decide)
theorem d113_13 : adec m113 13 = some (.iconst (0), 1) := by decide +kernel
theorem s113_13 {l0 : Int} : WP m113 13 [.inl l0] [] σ Q = WP m113 14 [.inl l0] [.inl (0)] σ Q := w_iconst d113_13 (by decide)
theorem d113_14 : adec m113 14 = some (.ireturn, 1) := by decide +kernel
theorem s113_14 {l0 : Int} {x0 : Int} : WP m113 14 [.inl l0] [.inl x0] σ Q = ((x0 = 0 ∨ x0 = 1) ∧ Q [.inl x0] σ) := w_rz d113_14 rfl
theorem e113 {p0 : Int} : CA m113 [.inl p0] σ Q = WP m113 0 [.inl p0] [] σ Q := rfl
-- BinderPress.isImage(I)Z
theorem d114_0 : adec m114 0 = some (.iload_n 0, 1) := by decide +kernel
theorem s114_0 {l0 : Int} : WP m114 0 [.inl l0] [] σ Q = WP m114 1 [.inl l0] [.inl l0] σ Q := w_ld d114_0 rfl
theorem d114_1 : adec m114 1 = some (.ifCond .lt (12), 3) := by decide +kernel
theorem s114_1 {l0 : Int} {x0 : Int} : WP m114 1 [.inl l0] [.inl x0] σ Q = (if x0 < 0 then WP m114 13 [.inl l0] [] σ Q else WP m114 4 [.inl l0] [] σ Q) := w_iflt d114_1 (by decide)
theorem d114_4 : adec m114 4 = some (.iload_n 0, 1) := by decide +kernel
theorem s114_4 {l0 : Int} : WP m114 4 [.inl l0] [] σ Q = WP m114 5 [.inl l0] [.inl l0] σ Q := w_ld d114_4 rfl
theorem d114_5 : adec m114 5 = some (.iconst (2), 1) := by decide +kernel
theorem s114_5 {l0 : Int} {x0 : Int} : WP m114 5 [.inl l0] [.inl x0] σ Q = WP m114 6 [.inl l0] [.inl (2), .inl x0] σ Q := w_iconst d114_5 (by decide)
theorem d114_6 : adec m114 6 = some (.if_icmp .ge (7), 3) := by decide +kernel
theorem s114_6 {l0 : Int} {x0 : Int} {x1 : Int} : WP m114 6 [.inl l0] [.inl x1, .inl x0] σ Q = (if x1 ≤ x0 then WP m114 13 [.inl l0] [] σ Q else WP m114 9 [.inl l0] [] σ Q) := w_icge d114_6 (by decide)
theorem d114_9 : adec m114 9 = some (.iconst (1), 1) := by decide +kernel
theorem s114_9 {l0 : Int} : WP m114 9 [.inl l0] [] σ Q = WP m114 10 [.inl l0] [.inl (1)] σ Q := w_iconst d114_9 (by decide)
theorem d114_10 : adec m114 10 = some (.goto (4), 3) := by decide +kernel
theorem s114_10 {l0 : Int} {x0 : Int} : WP m114 10 [.inl l0] [.inl x0] σ Q = WP m114 14 [.inl l0] [.inl x0] σ Q := w_goto d114_10 (by decide)
theorem d114_13 : adec m114 13 = some (.iconst (0), 1) := by decide +kernel
theorem s114_13 {l0 : Int} : WP m114 13 [.inl l0] [] σ Q = WP m114 14 [.inl l0] [.inl (0)] σ Q := w_iconst d114_13 (by decide)
theorem d114_14 : adec m114 14 = some (.ireturn, 1) := by decide +kernel
theorem s114_14 {l0 : Int} {x0 : Int} : WP m114 14 [.inl l0] [.inl x0] σ Q = ((x0 = 0 ∨ x0 = 1) ∧ Q [.inl x0] σ) := w_rz d114_14 rfl
theorem e114 {p0 : Int} : CA m114 [.inl p0] σ Q = WP m114 0 [.inl p0] [] σ Q := rfl
-- BinderPress.isHow(I)Z
theorem d115_0 : adec m115 0 = some (.iload_n 0, 1) := by decide +kernel
theorem s115_0 {l0 : Int} : WP m115 0 [.inl l0] [] σ Q = WP m115 1 [.inl l0] [.inl l0] σ Q := w_ld d115_0 rfl
theorem d115_1 : adec m115 1 = some (.ifCond .eq (8), 3) := by decide +kernel
theorem s115_1 {l0 : Int} {x0 : Int} : WP m115 1 [.inl l0] [.inl x0] σ Q = (if x0 = 0 then WP m115 9 [.inl l0] [] σ Q else WP m115 4 [.inl l0] [] σ Q) := w_ifeq d115_1 (by decide)
theorem d115_4 : adec m115 4 = some (.iload_n 0, 1) := by decide +kernel
theorem s115_4 {l0 : Int} : WP m115 4 [.inl l0] [] σ Q = WP m115 5 [.inl l0] [.inl l0] σ Q := w_ld d115_4 rfl
theorem d115_5 : adec m115 5 = some (.iconst (1), 1) := by decide +kernel
theorem s115_5 {l0 : Int} {x0 : Int} : WP m115 5 [.inl l0] [.inl x0] σ Q = WP m115 6 [.inl l0] [.inl (1), .inl x0] σ Q := w_iconst d115_5 (by decide)
theorem d115_6 : adec m115 6 = some (.if_icmp .ne (7), 3) := by decide +kernel
theorem s115_6 {l0 : Int} {x0 : Int} {x1 : Int} : WP m115 6 [.inl l0] [.inl x1, .inl x0] σ Q = (if x0 = x1 then WP m115 9 [.inl l0] [] σ Q else WP m115 13 [.inl l0] [] σ Q) := w_icne d115_6 (by decide)
theorem d115_9 : adec m115 9 = some (.iconst (1), 1) := by decide +kernel
theorem s115_9 {l0 : Int} : WP m115 9 [.inl l0] [] σ Q = WP m115 10 [.inl l0] [.inl (1)] σ Q := w_iconst d115_9 (by decide)
theorem d115_10 : adec m115 10 = some (.goto (4), 3) := by decide +kernel
theorem s115_10 {l0 : Int} {x0 : Int} : WP m115 10 [.inl l0] [.inl x0] σ Q = WP m115 14 [.inl l0] [.inl x0] σ Q := w_goto d115_10 (by decide)
theorem d115_13 : adec m115 13 = some (.iconst (0), 1) := by decide +kernel
theorem s115_13 {l0 : Int} : WP m115 13 [.inl l0] [] σ Q = WP m115 14 [.inl l0] [.inl (0)] σ Q := w_iconst d115_13 (by decide)
theorem d115_14 : adec m115 14 = some (.ireturn, 1) := by decide +kernel
theorem s115_14 {l0 : Int} {x0 : Int} : WP m115 14 [.inl l0] [.inl x0] σ Q = ((x0 = 0 ∨ x0 = 1) ∧ Q [.inl x0] σ) := w_rz d115_14 rfl
theorem e115 {p0 : Int} : CA m115 [.inl p0] σ Q = WP m115 0 [.inl p0] [] σ Q := rfl
-- BinderPress.isName(I)Z
theorem d116_0 : adec m116 0 = some (.iload_n 0, 1) := by decide +kernel
theorem s116_0 {l0 : Int} : WP m116 0 [.inl l0] [] σ Q = WP m116 1 [.inl l0] [.inl l0] σ Q := w_ld d116_0 rfl
theorem d116_1 : adec m116 1 = some (.bipush (97), 2) := by decide +kernel
theorem s116_1 {l0 : Int} {x0 : Int} : WP m116 1 [.inl l0] [.inl x0] σ Q = WP m116 3 [.inl l0] [.inl (97), .inl x0] σ Q := w_bipush d116_1 (by decide)
theorem d116_3 : adec m116 3 = some (.if_icmp .lt (13), 3) := by decide +kernel
theorem s116_3 {l0 : Int} {x0 : Int} {x1 : Int} : WP m116 3 [.inl l0] [.inl x1, .inl x0] σ Q = (if x0 < x1 then WP m116 16 [.inl l0] [] σ Q else WP m116 6 [.inl l0] [] σ Q) := w_iclt d116_3 (by decide)
theorem d116_6 : adec m116 6 = some (.iload_n 0, 1) := by decide +kernel
theorem s116_6 {l0 : Int} : WP m116 6 [.inl l0] [] σ Q = WP m116 7 [.inl l0] [.inl l0] σ Q := w_ld d116_6 rfl
theorem d116_7 : adec m116 7 = some (.bipush (122), 2) := by decide +kernel
theorem s116_7 {l0 : Int} {x0 : Int} : WP m116 7 [.inl l0] [.inl x0] σ Q = WP m116 9 [.inl l0] [.inl (122), .inl x0] σ Q := w_bipush d116_7 (by decide)
theorem d116_9 : adec m116 9 = some (.if_icmp .gt (7), 3) := by decide +kernel
theorem s116_9 {l0 : Int} {x0 : Int} {x1 : Int} : WP m116 9 [.inl l0] [.inl x1, .inl x0] σ Q = (if x1 < x0 then WP m116 16 [.inl l0] [] σ Q else WP m116 12 [.inl l0] [] σ Q) := w_icgt d116_9 (by decide)
theorem d116_12 : adec m116 12 = some (.iconst (1), 1) := by decide +kernel
theorem s116_12 {l0 : Int} : WP m116 12 [.inl l0] [] σ Q = WP m116 13 [.inl l0] [.inl (1)] σ Q := w_iconst d116_12 (by decide)
theorem d116_13 : adec m116 13 = some (.goto (4), 3) := by decide +kernel
theorem s116_13 {l0 : Int} {x0 : Int} : WP m116 13 [.inl l0] [.inl x0] σ Q = WP m116 17 [.inl l0] [.inl x0] σ Q := w_goto d116_13 (by decide)
theorem d116_16 : adec m116 16 = some (.iconst (0), 1) := by decide +kernel
theorem s116_16 {l0 : Int} : WP m116 16 [.inl l0] [] σ Q = WP m116 17 [.inl l0] [.inl (0)] σ Q := w_iconst d116_16 (by decide)
theorem d116_17 : adec m116 17 = some (.ireturn, 1) := by decide +kernel
theorem s116_17 {l0 : Int} {x0 : Int} : WP m116 17 [.inl l0] [.inl x0] σ Q = ((x0 = 0 ∨ x0 = 1) ∧ Q [.inl x0] σ) := w_rz d116_17 rfl
theorem e116 {p0 : Int} : CA m116 [.inl p0] σ Q = WP m116 0 [.inl p0] [] σ Q := rfl
-- BinderPress.isBinder(I)Z
theorem d117_0 : adec m117 0 = some (.iload_n 0, 1) := by decide +kernel
theorem s117_0 {l0 : Int} : WP m117 0 [.inl l0] [] σ Q = WP m117 1 [.inl l0] [.inl l0] σ Q := w_ld d117_0 rfl
theorem d117_1 : adec m117 1 = some (.sipush (1000), 3) := by decide +kernel
theorem s117_1 {l0 : Int} {x0 : Int} : WP m117 1 [.inl l0] [.inl x0] σ Q = WP m117 4 [.inl l0] [.inl (1000), .inl x0] σ Q := w_sipush d117_1 (by decide)
theorem d117_4 : adec m117 4 = some (.if_icmp .le (7), 3) := by decide +kernel
theorem s117_4 {l0 : Int} {x0 : Int} {x1 : Int} : WP m117 4 [.inl l0] [.inl x1, .inl x0] σ Q = (if x0 ≤ x1 then WP m117 11 [.inl l0] [] σ Q else WP m117 7 [.inl l0] [] σ Q) := w_icle d117_4 (by decide)
theorem d117_7 : adec m117 7 = some (.iconst (1), 1) := by decide +kernel
theorem s117_7 {l0 : Int} : WP m117 7 [.inl l0] [] σ Q = WP m117 8 [.inl l0] [.inl (1)] σ Q := w_iconst d117_7 (by decide)
theorem d117_8 : adec m117 8 = some (.goto (4), 3) := by decide +kernel
theorem s117_8 {l0 : Int} {x0 : Int} : WP m117 8 [.inl l0] [.inl x0] σ Q = WP m117 12 [.inl l0] [.inl x0] σ Q := w_goto d117_8 (by decide)
theorem d117_11 : adec m117 11 = some (.iconst (0), 1) := by decide +kernel
theorem s117_11 {l0 : Int} : WP m117 11 [.inl l0] [] σ Q = WP m117 12 [.inl l0] [.inl (0)] σ Q := w_iconst d117_11 (by decide)
theorem d117_12 : adec m117 12 = some (.ireturn, 1) := by decide +kernel
theorem s117_12 {l0 : Int} {x0 : Int} : WP m117 12 [.inl l0] [.inl x0] σ Q = ((x0 = 0 ∨ x0 = 1) ∧ Q [.inl x0] σ) := w_rz d117_12 rfl
theorem e117 {p0 : Int} : CA m117 [.inl p0] σ Q = WP m117 0 [.inl p0] [] σ Q := rfl
-- BinderPress.nameOf(I)I
theorem d118_0 : adec m118 0 = some (.iload_n 0, 1) := by decide +kernel
theorem s118_0 {l0 : Int} : WP m118 0 [.inl l0] [] σ Q = WP m118 1 [.inl l0] [.inl l0] σ Q := w_ld d118_0 rfl
theorem d118_1 : adec m118 1 = some (.sipush (1000), 3) := by decide +kernel
theorem s118_1 {l0 : Int} {x0 : Int} : WP m118 1 [.inl l0] [.inl x0] σ Q = WP m118 4 [.inl l0] [.inl (1000), .inl x0] σ Q := w_sipush d118_1 (by decide)
theorem d118_4 : adec m118 4 = some (.isub, 1) := by decide +kernel
theorem s118_4 {l0 : Int} {x0 : Int} {x1 : Int} : WP m118 4 [.inl l0] [.inl x1, .inl x0] σ Q = (inI (x0 - x1) ∧ WP m118 5 [.inl l0] [.inl (x0 - x1)] σ Q) := w_isub d118_4
theorem d118_5 : adec m118 5 = some (.ireturn, 1) := by decide +kernel
theorem s118_5 {l0 : Int} {x0 : Int} : WP m118 5 [.inl l0] [.inl x0] σ Q = Q [.inl x0] σ := w_ri d118_5 rfl
theorem e118 {p0 : Int} : CA m118 [.inl p0] σ Q = WP m118 0 [.inl p0] [] σ Q := rfl
-- BinderPress.wants(I)I
theorem d119_0 : adec m119 0 = some (.iload_n 0, 1) := by decide +kernel
theorem s119_0 {l0 : Int} : WP m119 0 [.inl l0] [] σ Q = WP m119 1 [.inl l0] [.inl l0] σ Q := w_ld d119_0 rfl
theorem d119_1 : adec m119 1 = some (.lookupswitch (57) #[(66, 55), (67, 55), (73, 51), (75, 53), (83, 55)], 51) := by decide +kernel
theorem s119_1 {l0 : Int} {x0 : Int} : WP m119 1 [.inl l0] [.inl x0] σ Q = (if x0 = 66 then WP m119 56 [.inl l0] [] σ Q else if x0 = 67 then WP m119 56 [.inl l0] [] σ Q else if x0 = 73 then WP m119 52 [.inl l0] [] σ Q else if x0 = 75 then WP m119 54 [.inl l0] [] σ Q else if x0 = 83 then WP m119 56 [.inl l0] [] σ Q else WP m119 58 [.inl l0] [] σ Q) := by
  by_cases h0 : x0 = (66)
  · rw [if_pos h0]; subst h0; exact w_sw d119_1 rfl rfl
  by_cases h1 : x0 = (67)
  · rw [if_neg h0, if_pos h1]; subst h1; exact w_sw d119_1 rfl rfl
  by_cases h2 : x0 = (73)
  · rw [if_neg h0, if_neg h1, if_pos h2]; subst h2; exact w_sw d119_1 rfl rfl
  by_cases h3 : x0 = (75)
  · rw [if_neg h0, if_neg h1, if_neg h2, if_pos h3]; subst h3; exact w_sw d119_1 rfl rfl
  by_cases h4 : x0 = (83)
  · rw [if_neg h0, if_neg h1, if_neg h2, if_neg h3, if_pos h4]; subst h4; exact w_sw d119_1 rfl rfl
  rw [if_neg h0, if_neg h1, if_neg h2, if_neg h3, if_neg h4]
  refine w_sw d119_1 rfl ?_
  simp only [bstep]
  rw [if_pos (by decide)]
  simp [Op.lookupswitch.offset, jump, Ne.symm h0, Ne.symm h1, Ne.symm h2, Ne.symm h3, Ne.symm h4]
theorem d119_52 : adec m119 52 = some (.iconst (1), 1) := by decide +kernel
theorem s119_52 {l0 : Int} : WP m119 52 [.inl l0] [] σ Q = WP m119 53 [.inl l0] [.inl (1)] σ Q := w_iconst d119_52 (by decide)
theorem d119_53 : adec m119 53 = some (.ireturn, 1) := by decide +kernel
theorem s119_53 {l0 : Int} {x0 : Int} : WP m119 53 [.inl l0] [.inl x0] σ Q = Q [.inl x0] σ := w_ri d119_53 rfl
theorem d119_54 : adec m119 54 = some (.iconst (2), 1) := by decide +kernel
theorem s119_54 {l0 : Int} : WP m119 54 [.inl l0] [] σ Q = WP m119 55 [.inl l0] [.inl (2)] σ Q := w_iconst d119_54 (by decide)
theorem d119_55 : adec m119 55 = some (.ireturn, 1) := by decide +kernel
theorem s119_55 {l0 : Int} {x0 : Int} : WP m119 55 [.inl l0] [.inl x0] σ Q = Q [.inl x0] σ := w_ri d119_55 rfl
theorem d119_56 : adec m119 56 = some (.iconst (3), 1) := by decide +kernel
theorem s119_56 {l0 : Int} : WP m119 56 [.inl l0] [] σ Q = WP m119 57 [.inl l0] [.inl (3)] σ Q := w_iconst d119_56 (by decide)
theorem d119_57 : adec m119 57 = some (.ireturn, 1) := by decide +kernel
theorem s119_57 {l0 : Int} {x0 : Int} : WP m119 57 [.inl l0] [.inl x0] σ Q = Q [.inl x0] σ := w_ri d119_57 rfl
theorem d119_58 : adec m119 58 = some (.iconst (0), 1) := by decide +kernel
theorem s119_58 {l0 : Int} : WP m119 58 [.inl l0] [] σ Q = WP m119 59 [.inl l0] [.inl (0)] σ Q := w_iconst d119_58 (by decide)
theorem d119_59 : adec m119 59 = some (.ireturn, 1) := by decide +kernel
theorem s119_59 {l0 : Int} {x0 : Int} : WP m119 59 [.inl l0] [.inl x0] σ Q = Q [.inl x0] σ := w_ri d119_59 rfl
theorem e119 {p0 : Int} : CA m119 [.inl p0] σ Q = WP m119 0 [.inl p0] [] σ Q := rfl
-- BinderPress.countOrNone(LBinderPress$Row;)I
theorem d120_0 : adec m120 0 = some (.aload_n 0, 1) := by decide +kernel
theorem s120_0 {l0 : Nat} : WP m120 0 [.inr (.inl l0)] [] σ Q = WP m120 1 [.inr (.inl l0)] [.inr (.inl l0)] σ Q := w_ld d120_0 rfl
theorem d120_1 : adec m120 1 = some (.invokevirtual 90, 3) := by decide +kernel
theorem s120_1 {l0 : Nat} {x0 : Nat} : WP m120 1 [.inr (.inl l0)] [.inr (.inl x0)] σ Q = (isO x0 3 ∧ CA m28 [.inr (.inl x0)] σ (fun v σ2 => WP m120 4 [.inr (.inl l0)] (v ++ []) σ2 Q)) := w_cV (k := 28) d120_1 (by decide +kernel) m28_at rfl rfl ⟨Nat.le_of_ble_eq_true rfl, Nat.le_of_ble_eq_true rfl, Nat.le_of_ble_eq_true rfl⟩ (by decide)
theorem d120_4 : adec m120 4 = some (.ifCond .ne (7), 3) := by decide +kernel
theorem s120_4 {l0 : Nat} {x0 : Int} : WP m120 4 [.inr (.inl l0)] [.inl x0] σ Q = (if x0 = 0 then WP m120 7 [.inr (.inl l0)] [] σ Q else WP m120 11 [.inr (.inl l0)] [] σ Q) := w_ifne d120_4 (by decide)
theorem d120_7 : adec m120 7 = some (.iconst (-1), 1) := by decide +kernel
theorem s120_7 {l0 : Nat} : WP m120 7 [.inr (.inl l0)] [] σ Q = WP m120 8 [.inr (.inl l0)] [.inl (-1)] σ Q := w_iconst d120_7 (by decide)
theorem d120_8 : adec m120 8 = some (.goto (7), 3) := by decide +kernel
theorem s120_8 {l0 : Nat} {x0 : Int} : WP m120 8 [.inr (.inl l0)] [.inl x0] σ Q = WP m120 15 [.inr (.inl l0)] [.inl x0] σ Q := w_goto d120_8 (by decide)
theorem d120_11 : adec m120 11 = some (.aload_n 0, 1) := by decide +kernel
theorem s120_11 {l0 : Nat} : WP m120 11 [.inr (.inl l0)] [] σ Q = WP m120 12 [.inr (.inl l0)] [.inr (.inl l0)] σ Q := w_ld d120_11 rfl
theorem d120_12 : adec m120 12 = some (.invokevirtual 90, 3) := by decide +kernel
theorem s120_12 {l0 : Nat} {x0 : Nat} : WP m120 12 [.inr (.inl l0)] [.inr (.inl x0)] σ Q = (isO x0 3 ∧ CA m28 [.inr (.inl x0)] σ (fun v σ2 => WP m120 15 [.inr (.inl l0)] (v ++ []) σ2 Q)) := w_cV (k := 28) d120_12 (by decide +kernel) m28_at rfl rfl ⟨Nat.le_of_ble_eq_true rfl, Nat.le_of_ble_eq_true rfl, Nat.le_of_ble_eq_true rfl⟩ (by decide)
theorem d120_15 : adec m120 15 = some (.ireturn, 1) := by decide +kernel
theorem s120_15 {l0 : Nat} {x0 : Int} : WP m120 15 [.inr (.inl l0)] [.inl x0] σ Q = Q [.inl x0] σ := w_ri d120_15 rfl
theorem e120 {p0 : Nat} : CA m120 [.inr (.inl p0)] σ Q = WP m120 0 [.inr (.inl p0)] [] σ Q := rfl
-- BinderPress.binders(LBinderPress$Row;)I
theorem d121_0 : adec m121 0 = some (.iconst (0), 1) := by decide +kernel
theorem s121_0 {l0 : Nat} {l1 : AV} {l2 : AV} : WP m121 0 [.inr (.inl l0), l1, l2] [] σ Q = WP m121 1 [.inr (.inl l0), l1, l2] [.inl (0)] σ Q := w_iconst d121_0 (by decide)
theorem d121_1 : adec m121 1 = some (.istore_n 1, 1) := by decide +kernel
theorem s121_1 {l0 : Nat} {l1 : AV} {l2 : AV} {x0 : Int} : WP m121 1 [.inr (.inl l0), l1, l2] [.inl x0] σ Q = WP m121 2 [.inr (.inl l0), .inl x0, l2] [] σ Q := w_st1 (j := 1) d121_1 rfl (Nat.le_of_ble_eq_true rfl) rfl
theorem d121_2 : adec m121 2 = some (.iconst (0), 1) := by decide +kernel
theorem s121_2 {l0 : Nat} {l1 : Int} {l2 : AV} : WP m121 2 [.inr (.inl l0), .inl l1, l2] [] σ Q = WP m121 3 [.inr (.inl l0), .inl l1, l2] [.inl (0)] σ Q := w_iconst d121_2 (by decide)
theorem d121_3 : adec m121 3 = some (.istore_n 2, 1) := by decide +kernel
theorem s121_3 {l0 : Nat} {l1 : Int} {l2 : AV} {x0 : Int} : WP m121 3 [.inr (.inl l0), .inl l1, l2] [.inl x0] σ Q = WP m121 4 [.inr (.inl l0), .inl l1, .inl x0] [] σ Q := w_st1 (j := 2) d121_3 rfl (Nat.le_of_ble_eq_true rfl) rfl
theorem d121_4 : adec m121 4 = some (.iload_n 2, 1) := by decide +kernel
theorem s121_4 {l0 : Nat} {l1 : Int} {l2 : Int} : WP m121 4 [.inr (.inl l0), .inl l1, .inl l2] [] σ Q = WP m121 5 [.inr (.inl l0), .inl l1, .inl l2] [.inl l2] σ Q := w_ld d121_4 rfl
theorem d121_5 : adec m121 5 = some (.aload_n 0, 1) := by decide +kernel
theorem s121_5 {l0 : Nat} {l1 : Int} {l2 : Int} {x0 : Int} : WP m121 5 [.inr (.inl l0), .inl l1, .inl l2] [.inl x0] σ Q = WP m121 6 [.inr (.inl l0), .inl l1, .inl l2] [.inr (.inl l0), .inl x0] σ Q := w_ld d121_5 rfl
theorem d121_6 : adec m121 6 = some (.invokevirtual 90, 3) := by decide +kernel
theorem s121_6 {l0 : Nat} {l1 : Int} {l2 : Int} {x0 : Int} {x1 : Nat} : WP m121 6 [.inr (.inl l0), .inl l1, .inl l2] [.inr (.inl x1), .inl x0] σ Q = (isO x1 3 ∧ CA m28 [.inr (.inl x1)] σ (fun v σ2 => WP m121 9 [.inr (.inl l0), .inl l1, .inl l2] (v ++ [.inl x0]) σ2 Q)) := w_cV (k := 28) d121_6 (by decide +kernel) m28_at rfl rfl ⟨Nat.le_of_ble_eq_true rfl, Nat.le_of_ble_eq_true rfl, Nat.le_of_ble_eq_true rfl⟩ (by decide)
theorem d121_9 : adec m121 9 = some (.if_icmp .ge (23), 3) := by decide +kernel
theorem s121_9 {l0 : Nat} {l1 : Int} {l2 : Int} {x0 : Int} {x1 : Int} : WP m121 9 [.inr (.inl l0), .inl l1, .inl l2] [.inl x1, .inl x0] σ Q = (if x1 ≤ x0 then WP m121 32 [.inr (.inl l0), .inl l1, .inl l2] [] σ Q else WP m121 12 [.inr (.inl l0), .inl l1, .inl l2] [] σ Q) := w_icge d121_9 (by decide)
theorem d121_12 : adec m121 12 = some (.aload_n 0, 1) := by decide +kernel
theorem s121_12 {l0 : Nat} {l1 : Int} {l2 : Int} : WP m121 12 [.inr (.inl l0), .inl l1, .inl l2] [] σ Q = WP m121 13 [.inr (.inl l0), .inl l1, .inl l2] [.inr (.inl l0)] σ Q := w_ld d121_12 rfl
theorem d121_13 : adec m121 13 = some (.iload_n 2, 1) := by decide +kernel
theorem s121_13 {l0 : Nat} {l1 : Int} {l2 : Int} {x0 : Nat} : WP m121 13 [.inr (.inl l0), .inl l1, .inl l2] [.inr (.inl x0)] σ Q = WP m121 14 [.inr (.inl l0), .inl l1, .inl l2] [.inl l2, .inr (.inl x0)] σ Q := w_ld d121_13 rfl
theorem d121_14 : adec m121 14 = some (.invokevirtual 228, 3) := by decide +kernel
theorem s121_14 {l0 : Nat} {l1 : Int} {l2 : Int} {x0 : Nat} {x1 : Int} : WP m121 14 [.inr (.inl l0), .inl l1, .inl l2] [.inl x1, .inr (.inl x0)] σ Q = (isO x0 3 ∧ CA m30 [.inr (.inl x0), .inl x1] σ (fun v σ2 => WP m121 17 [.inr (.inl l0), .inl l1, .inl l2] (v ++ []) σ2 Q)) := w_cV (k := 30) d121_14 (by decide +kernel) m30_at rfl rfl ⟨Nat.le_of_ble_eq_true rfl, Nat.le_of_ble_eq_true rfl, Nat.le_of_ble_eq_true rfl⟩ (by decide)
theorem d121_17 : adec m121 17 = some (.invokestatic 244, 3) := by decide +kernel
theorem s121_17 {l0 : Nat} {l1 : Int} {l2 : Int} {x0 : Int} : WP m121 17 [.inr (.inl l0), .inl l1, .inl l2] [.inl x0] σ Q = CA m117 [.inl x0] σ (fun v σ2 => WP m121 20 [.inr (.inl l0), .inl l1, .inl l2] (v ++ []) σ2 Q) := w_cS (k := 117) d121_17 (by decide +kernel) (md := 1) (by decide +kernel) m117_at rfl rfl ⟨Nat.le_of_ble_eq_true rfl, Nat.le_of_ble_eq_true rfl, Nat.le_of_ble_eq_true rfl⟩ (by decide)
theorem d121_20 : adec m121 20 = some (.ifCond .eq (6), 3) := by decide +kernel
theorem s121_20 {l0 : Nat} {l1 : Int} {l2 : Int} {x0 : Int} : WP m121 20 [.inr (.inl l0), .inl l1, .inl l2] [.inl x0] σ Q = (if x0 = 0 then WP m121 26 [.inr (.inl l0), .inl l1, .inl l2] [] σ Q else WP m121 23 [.inr (.inl l0), .inl l1, .inl l2] [] σ Q) := w_ifeq d121_20 (by decide)
theorem d121_23 : adec m121 23 = some (.iinc 1 (1), 3) := by decide +kernel
theorem s121_23 {l0 : Nat} {l1 : Int} {l2 : Int} : WP m121 23 [.inr (.inl l0), .inl l1, .inl l2] [] σ Q = (inI (l1 + (1)) ∧ WP m121 26 [.inr (.inl l0), .inl (l1 + (1)), .inl l2] [] σ Q) := w_iinc d121_23 rfl rfl
theorem d121_26 : adec m121 26 = some (.iinc 2 (1), 3) := by decide +kernel
theorem s121_26 {l0 : Nat} {l1 : Int} {l2 : Int} : WP m121 26 [.inr (.inl l0), .inl l1, .inl l2] [] σ Q = (inI (l2 + (1)) ∧ WP m121 29 [.inr (.inl l0), .inl l1, .inl (l2 + (1))] [] σ Q) := w_iinc d121_26 rfl rfl
theorem d121_29 : adec m121 29 = some (.goto (-25), 3) := by decide +kernel
theorem s121_29 {l0 : Nat} {l1 : Int} {l2 : Int} : WP m121 29 [.inr (.inl l0), .inl l1, .inl l2] [] σ Q = WP m121 4 [.inr (.inl l0), .inl l1, .inl l2] [] σ Q := w_goto d121_29 (by decide)
theorem d121_32 : adec m121 32 = some (.iload_n 1, 1) := by decide +kernel
theorem s121_32 {l0 : Nat} {l1 : Int} {l2 : Int} : WP m121 32 [.inr (.inl l0), .inl l1, .inl l2] [] σ Q = WP m121 33 [.inr (.inl l0), .inl l1, .inl l2] [.inl l1] σ Q := w_ld d121_32 rfl
theorem d121_33 : adec m121 33 = some (.ireturn, 1) := by decide +kernel
theorem s121_33 {l0 : Nat} {l1 : Int} {l2 : Int} {x0 : Int} : WP m121 33 [.inr (.inl l0), .inl l1, .inl l2] [.inl x0] σ Q = Q [.inl x0] σ := w_ri d121_33 rfl
theorem e121 {p0 : Nat} : CA m121 [.inr (.inl p0)] σ Q = WP m121 0 [.inr (.inl p0), vU, vU] [] σ Q := rfl
-- BinderPress.nextLot(J)J
theorem d122_0 : adec m122 0 = some (.lload_n 0, 1) := by decide +kernel
theorem s122_0 {l0 : Int} {l1 : AV} : WP m122 0 [.inr (.inr (.inl l0)), l1] [] σ Q = WP m122 1 [.inr (.inr (.inl l0)), l1] [.inr (.inr (.inl l0))] σ Q := w_ld d122_0 rfl
theorem d122_1 : adec m122 1 = some (.ldc2_w 247, 3) := by decide +kernel
theorem s122_1 {l0 : Int} {l1 : AV} {x0 : Int} : WP m122 1 [.inr (.inr (.inl l0)), l1] [.inr (.inr (.inl x0))] σ Q = WP m122 4 [.inr (.inr (.inl l0)), l1] [.inr (.inr (.inl (16807))), .inr (.inr (.inl x0))] σ Q := w_ldc2 d122_1 (by decide +kernel) (by decide)
theorem d122_4 : adec m122 4 = some (.lmul, 1) := by decide +kernel
theorem s122_4 {l0 : Int} {l1 : AV} {x0 : Int} {x1 : Int} : WP m122 4 [.inr (.inr (.inl l0)), l1] [.inr (.inr (.inl x1)), .inr (.inr (.inl x0))] σ Q = (inL (x0 * x1) ∧ WP m122 5 [.inr (.inr (.inl l0)), l1] [.inr (.inr (.inl (x0 * x1)))] σ Q) := w_lmul d122_4
theorem d122_5 : adec m122 5 = some (.ldc2_w 249, 3) := by decide +kernel
theorem s122_5 {l0 : Int} {l1 : AV} {x0 : Int} : WP m122 5 [.inr (.inr (.inl l0)), l1] [.inr (.inr (.inl x0))] σ Q = WP m122 8 [.inr (.inr (.inl l0)), l1] [.inr (.inr (.inl (2147483647))), .inr (.inr (.inl x0))] σ Q := w_ldc2 d122_5 (by decide +kernel) (by decide)
theorem d122_8 : adec m122 8 = some (.lrem, 1) := by decide +kernel
theorem s122_8 {l0 : Int} {l1 : AV} {x0 : Int} {x1 : Int} : WP m122 8 [.inr (.inr (.inl l0)), l1] [.inr (.inr (.inl x1)), .inr (.inr (.inl x0))] σ Q = ((0 ≤ x0 ∧ 0 < x1 ∧ inL (x0 % x1)) ∧ WP m122 9 [.inr (.inr (.inl l0)), l1] [.inr (.inr (.inl (x0 % x1)))] σ Q) := w_lrem d122_8
theorem d122_9 : adec m122 9 = some (.lreturn, 1) := by decide +kernel
theorem s122_9 {l0 : Int} {l1 : AV} {x0 : Int} : WP m122 9 [.inr (.inr (.inl l0)), l1] [.inr (.inr (.inl x0))] σ Q = Q [.inr (.inr (.inl x0))] σ := w_rl d122_9 rfl
theorem e122 {p0 : Int} : CA m122 [.inr (.inr (.inl p0))] σ Q = WP m122 0 [.inr (.inr (.inl p0)), vU] [] σ Q := rfl
-- BinderPress.signOfLot(J)I
theorem d123_0 : adec m123 0 = some (.lload_n 0, 1) := by decide +kernel
theorem s123_0 {l0 : Int} {l1 : AV} : WP m123 0 [.inr (.inr (.inl l0)), l1] [] σ Q = WP m123 1 [.inr (.inr (.inl l0)), l1] [.inr (.inr (.inl l0))] σ Q := w_ld d123_0 rfl
theorem d123_1 : adec m123 1 = some (.ldc2_w 251, 3) := by decide +kernel
theorem s123_1 {l0 : Int} {l1 : AV} {x0 : Int} : WP m123 1 [.inr (.inr (.inl l0)), l1] [.inr (.inr (.inl x0))] σ Q = WP m123 4 [.inr (.inr (.inl l0)), l1] [.inr (.inr (.inl (5))), .inr (.inr (.inl x0))] σ Q := w_ldc2 d123_1 (by decide +kernel) (by decide)
theorem d123_4 : adec m123 4 = some (.lrem, 1) := by decide +kernel
theorem s123_4 {l0 : Int} {l1 : AV} {x0 : Int} {x1 : Int} : WP m123 4 [.inr (.inr (.inl l0)), l1] [.inr (.inr (.inl x1)), .inr (.inr (.inl x0))] σ Q = ((0 ≤ x0 ∧ 0 < x1 ∧ inL (x0 % x1)) ∧ WP m123 5 [.inr (.inr (.inl l0)), l1] [.inr (.inr (.inl (x0 % x1)))] σ Q) := w_lrem d123_4
theorem d123_5 : adec m123 5 = some (.l2i, 1) := by decide +kernel
theorem s123_5 {l0 : Int} {l1 : AV} {x0 : Int} : WP m123 5 [.inr (.inr (.inl l0)), l1] [.inr (.inr (.inl x0))] σ Q = (inI x0 ∧ WP m123 6 [.inr (.inr (.inl l0)), l1] [.inl x0] σ Q) := w_l2i d123_5
theorem d123_6 : adec m123 6 = some (.invokestatic 198, 3) := by decide +kernel
theorem s123_6 {l0 : Int} {l1 : AV} {x0 : Int} : WP m123 6 [.inr (.inr (.inl l0)), l1] [.inl x0] σ Q = WP m123 9 [.inr (.inr (.inl l0)), l1] [.inl (signF x0)] σ Q := w_cG (k := 124) d123_6 (by decide +kernel) (md := 1) (by decide +kernel) m124_at rfl rfl ⟨Nat.le_of_ble_eq_true rfl, Nat.le_of_ble_eq_true rfl, Nat.le_of_ble_eq_true rfl⟩ rfl
theorem d123_9 : adec m123 9 = some (.ireturn, 1) := by decide +kernel
theorem s123_9 {l0 : Int} {l1 : AV} {x0 : Int} : WP m123 9 [.inr (.inr (.inl l0)), l1] [.inl x0] σ Q = Q [.inl x0] σ := w_ri d123_9 rfl
theorem e123 {p0 : Int} : CA m123 [.inr (.inr (.inl p0))] σ Q = WP m123 0 [.inr (.inr (.inl p0)), vU] [] σ Q := rfl
end
