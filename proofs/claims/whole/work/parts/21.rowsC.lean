section
variable {σ : aSg} {Q : List AV → aSg → Prop}
-- BinderPress$Sorter.written()LBinderPress$Row;
theorem d49_0 : adec m49 0 = some (.aload_n 0, 1) := by decide +kernel
theorem s49_0 {l0 : Nat} : WP m49 0 [.inr (.inl l0)] [] σ Q = WP m49 1 [.inr (.inl l0)] [.inr (.inl l0)] σ Q := w_ld d49_0 rfl
theorem d49_1 : adec m49 1 = some (.getfield 38, 3) := by decide +kernel
theorem s49_1 {l0 : Nat} : WP m49 1 [.inr (.inl l0)] [.inr (.inl 108)] σ Q = WP m49 4 [.inr (.inl l0)] [.inr (.inl 123)] σ Q := (w_getR (c := 5) (n := 7) d49_1 (by decide +kernel) (by decide +kernel)).trans (g_and ⟨isO_dec (by decide +kernel), by decide +kernel⟩)
theorem d49_4 : adec m49 4 = some (.areturn, 1) := by decide +kernel
theorem s49_4 {l0 : Nat} {x0 : Nat} : WP m49 4 [.inr (.inl l0)] [.inr (.inl x0)] σ Q = Q [.inr (.inl x0)] σ := w_ra d49_4 rfl
theorem e49 {p0 : Nat} : CA m49 [.inr (.inl p0)] σ Q = WP m49 0 [.inr (.inl p0)] [] σ Q := rfl
-- BinderPress$Sorter.find(LBinderPress$Row;)Z
theorem d50_0 : adec m50 0 = some (.aload_n 0, 1) := by decide +kernel
theorem s50_0 {l0 : Nat} {l1 : Nat} {l2 : AV} : WP m50 0 [.inr (.inl l0), .inr (.inl l1), l2] [] σ Q = WP m50 1 [.inr (.inl l0), .inr (.inl l1), l2] [.inr (.inl l0)] σ Q := w_ld d50_0 rfl
theorem d50_1 : adec m50 1 = some (.getfield 44, 3) := by decide +kernel
theorem s50_1 {l0 : Nat} {l1 : Nat} {l2 : AV} : WP m50 1 [.inr (.inl l0), .inr (.inl l1), l2] [.inr (.inl 108)] σ Q = WP m50 4 [.inr (.inl l0), .inr (.inl l1), l2] [.inr (.inl 125)] σ Q := (w_getR (c := 5) (n := 8) d50_1 (by decide +kernel) (by decide +kernel)).trans (g_and ⟨isO_dec (by decide +kernel), by decide +kernel⟩)
theorem d50_4 : adec m50 4 = some (.aload_n 1, 1) := by decide +kernel
theorem s50_4 {l0 : Nat} {l1 : Nat} {l2 : AV} {x0 : Nat} : WP m50 4 [.inr (.inl l0), .inr (.inl l1), l2] [.inr (.inl x0)] σ Q = WP m50 5 [.inr (.inl l0), .inr (.inl l1), l2] [.inr (.inl l1), .inr (.inl x0)] σ Q := w_ld d50_4 rfl
theorem d50_5 : adec m50 5 = some (.invokevirtual 48, 3) := by decide +kernel
theorem s50_5 {l0 : Nat} {l1 : Nat} {l2 : AV} {x0 : Nat} {x1 : Nat} : WP m50 5 [.inr (.inl l0), .inr (.inl l1), l2] [.inr (.inl x1), .inr (.inl x0)] σ Q = (isO x0 6 ∧ CA m67 [.inr (.inl x0), .inr (.inl x1)] σ (fun v σ2 => WP m50 8 [.inr (.inl l0), .inr (.inl l1), l2] (v ++ []) σ2 Q)) := w_cV (k := 67) d50_5 (by decide +kernel) m67_at rfl rfl ⟨Nat.le_of_ble_eq_true rfl, Nat.le_of_ble_eq_true rfl, Nat.le_of_ble_eq_true rfl⟩ (by decide)
theorem d50_8 : adec m50 8 = some (.aload_n 0, 1) := by decide +kernel
theorem s50_8 {l0 : Nat} {l1 : Nat} {l2 : AV} : WP m50 8 [.inr (.inl l0), .inr (.inl l1), l2] [] σ Q = WP m50 9 [.inr (.inl l0), .inr (.inl l1), l2] [.inr (.inl l0)] σ Q := w_ld d50_8 rfl
theorem d50_9 : adec m50 9 = some (.getfield 16, 3) := by decide +kernel
theorem s50_9 {l0 : Nat} {l1 : Nat} {l2 : AV} : WP m50 9 [.inr (.inl l0), .inr (.inl l1), l2] [.inr (.inl 108)] σ Q = WP m50 12 [.inr (.inl l0), .inr (.inl l1), l2] [.inr (.inl 109)] σ Q := (w_getR (c := 5) (n := 0) d50_9 (by decide +kernel) (by decide +kernel)).trans (g_and ⟨isO_dec (by decide +kernel), by decide +kernel⟩)
theorem d50_12 : adec m50 12 = some (.invokevirtual 52, 3) := by decide +kernel
theorem s50_12 {l0 : Nat} {l1 : Nat} {l2 : AV} {x0 : Nat} : WP m50 12 [.inr (.inl l0), .inr (.inl l1), l2] [.inr (.inl x0)] σ Q = (isO x0 3 ∧ CA m29 [.inr (.inl x0)] σ (fun v σ2 => WP m50 15 [.inr (.inl l0), .inr (.inl l1), l2] (v ++ []) σ2 Q)) := w_cV (k := 29) d50_12 (by decide +kernel) m29_at rfl rfl ⟨Nat.le_of_ble_eq_true rfl, Nat.le_of_ble_eq_true rfl, Nat.le_of_ble_eq_true rfl⟩ (by decide)
theorem d50_15 : adec m50 15 = some (.aload_n 0, 1) := by decide +kernel
theorem s50_15 {l0 : Nat} {l1 : Nat} {l2 : AV} : WP m50 15 [.inr (.inl l0), .inr (.inl l1), l2] [] σ Q = WP m50 16 [.inr (.inl l0), .inr (.inl l1), l2] [.inr (.inl l0)] σ Q := w_ld d50_15 rfl
theorem d50_16 : adec m50 16 = some (.getfield 20, 3) := by decide +kernel
theorem s50_16 {l0 : Nat} {l1 : Nat} {l2 : AV} : WP m50 16 [.inr (.inl l0), .inr (.inl l1), l2] [.inr (.inl 108)] σ Q = WP m50 19 [.inr (.inl l0), .inr (.inl l1), l2] [.inr (.inl 111)] σ Q := (w_getR (c := 5) (n := 1) d50_16 (by decide +kernel) (by decide +kernel)).trans (g_and ⟨isO_dec (by decide +kernel), by decide +kernel⟩)
theorem d50_19 : adec m50 19 = some (.invokevirtual 52, 3) := by decide +kernel
theorem s50_19 {l0 : Nat} {l1 : Nat} {l2 : AV} {x0 : Nat} : WP m50 19 [.inr (.inl l0), .inr (.inl l1), l2] [.inr (.inl x0)] σ Q = (isO x0 3 ∧ CA m29 [.inr (.inl x0)] σ (fun v σ2 => WP m50 22 [.inr (.inl l0), .inr (.inl l1), l2] (v ++ []) σ2 Q)) := w_cV (k := 29) d50_19 (by decide +kernel) m29_at rfl rfl ⟨Nat.le_of_ble_eq_true rfl, Nat.le_of_ble_eq_true rfl, Nat.le_of_ble_eq_true rfl⟩ (by decide)
theorem d50_22 : adec m50 22 = some (.aload_n 0, 1) := by decide +kernel
theorem s50_22 {l0 : Nat} {l1 : Nat} {l2 : AV} : WP m50 22 [.inr (.inl l0), .inr (.inl l1), l2] [] σ Q = WP m50 23 [.inr (.inl l0), .inr (.inl l1), l2] [.inr (.inl l0)] σ Q := w_ld d50_22 rfl
theorem d50_23 : adec m50 23 = some (.getfield 23, 3) := by decide +kernel
theorem s50_23 {l0 : Nat} {l1 : Nat} {l2 : AV} : WP m50 23 [.inr (.inl l0), .inr (.inl l1), l2] [.inr (.inl 108)] σ Q = WP m50 26 [.inr (.inl l0), .inr (.inl l1), l2] [.inr (.inl 113)] σ Q := (w_getR (c := 5) (n := 2) d50_23 (by decide +kernel) (by decide +kernel)).trans (g_and ⟨isO_dec (by decide +kernel), by decide +kernel⟩)
theorem d50_26 : adec m50 26 = some (.invokevirtual 52, 3) := by decide +kernel
theorem s50_26 {l0 : Nat} {l1 : Nat} {l2 : AV} {x0 : Nat} : WP m50 26 [.inr (.inl l0), .inr (.inl l1), l2] [.inr (.inl x0)] σ Q = (isO x0 3 ∧ CA m29 [.inr (.inl x0)] σ (fun v σ2 => WP m50 29 [.inr (.inl l0), .inr (.inl l1), l2] (v ++ []) σ2 Q)) := w_cV (k := 29) d50_26 (by decide +kernel) m29_at rfl rfl ⟨Nat.le_of_ble_eq_true rfl, Nat.le_of_ble_eq_true rfl, Nat.le_of_ble_eq_true rfl⟩ (by decide)
theorem d50_29 : adec m50 29 = some (.aload_n 0, 1) := by decide +kernel
theorem s50_29 {l0 : Nat} {l1 : Nat} {l2 : AV} : WP m50 29 [.inr (.inl l0), .inr (.inl l1), l2] [] σ Q = WP m50 30 [.inr (.inl l0), .inr (.inl l1), l2] [.inr (.inl l0)] σ Q := w_ld d50_29 rfl
theorem d50_30 : adec m50 30 = some (.aload_n 1, 1) := by decide +kernel
theorem s50_30 {l0 : Nat} {l1 : Nat} {l2 : AV} {x0 : Nat} : WP m50 30 [.inr (.inl l0), .inr (.inl l1), l2] [.inr (.inl x0)] σ Q = WP m50 31 [.inr (.inl l0), .inr (.inl l1), l2] [.inr (.inl l1), .inr (.inl x0)] σ Q := w_ld d50_30 rfl
theorem d50_31 : adec m50 31 = some (.invokevirtual 55, 3) := by decide +kernel
theorem s50_31 {l0 : Nat} {l1 : Nat} {l2 : AV} {x1 : Nat} : WP m50 31 [.inr (.inl l0), .inr (.inl l1), l2] [.inr (.inl x1), .inr (.inl 108)] σ Q = CA m54 [.inr (.inl 108), .inr (.inl x1)] σ (fun v σ2 => WP m50 34 [.inr (.inl l0), .inr (.inl l1), l2] (v ++ []) σ2 Q) := (w_cV (k := 54) d50_31 (by decide +kernel) m54_at rfl rfl ⟨Nat.le_of_ble_eq_true rfl, Nat.le_of_ble_eq_true rfl, Nat.le_of_ble_eq_true rfl⟩ (by decide)).trans (g_and (isO_dec (by decide +kernel)))
theorem d50_34 : adec m50 34 = some (.aload_n 1, 1) := by decide +kernel
theorem s50_34 {l0 : Nat} {l1 : Nat} {l2 : AV} : WP m50 34 [.inr (.inl l0), .inr (.inl l1), l2] [] σ Q = WP m50 35 [.inr (.inl l0), .inr (.inl l1), l2] [.inr (.inl l1)] σ Q := w_ld d50_34 rfl
theorem d50_35 : adec m50 35 = some (.invokevirtual 58, 3) := by decide +kernel
theorem s50_35 {l0 : Nat} {l1 : Nat} {l2 : AV} {x0 : Nat} : WP m50 35 [.inr (.inl l0), .inr (.inl l1), l2] [.inr (.inl x0)] σ Q = (isO x0 3 ∧ CA m28 [.inr (.inl x0)] σ (fun v σ2 => WP m50 38 [.inr (.inl l0), .inr (.inl l1), l2] (v ++ []) σ2 Q)) := w_cV (k := 28) d50_35 (by decide +kernel) m28_at rfl rfl ⟨Nat.le_of_ble_eq_true rfl, Nat.le_of_ble_eq_true rfl, Nat.le_of_ble_eq_true rfl⟩ (by decide)
theorem d50_38 : adec m50 38 = some (.iconst (1), 1) := by decide +kernel
theorem s50_38 {l0 : Nat} {l1 : Nat} {l2 : AV} {x0 : Int} : WP m50 38 [.inr (.inl l0), .inr (.inl l1), l2] [.inl x0] σ Q = WP m50 39 [.inr (.inl l0), .inr (.inl l1), l2] [.inl (1), .inl x0] σ Q := w_iconst d50_38 (by decide)
theorem d50_39 : adec m50 39 = some (.isub, 1) := by decide +kernel
theorem s50_39 {l0 : Nat} {l1 : Nat} {l2 : AV} {x0 : Int} {x1 : Int} : WP m50 39 [.inr (.inl l0), .inr (.inl l1), l2] [.inl x1, .inl x0] σ Q = (inI (x0 - x1) ∧ WP m50 40 [.inr (.inl l0), .inr (.inl l1), l2] [.inl (x0 - x1)] σ Q) := w_isub d50_39
theorem d50_40 : adec m50 40 = some (.istore_n 2, 1) := by decide +kernel
theorem s50_40 {l0 : Nat} {l1 : Nat} {l2 : AV} {x0 : Int} : WP m50 40 [.inr (.inl l0), .inr (.inl l1), l2] [.inl x0] σ Q = WP m50 41 [.inr (.inl l0), .inr (.inl l1), .inl x0] [] σ Q := w_st1 (j := 2) d50_40 rfl (Nat.le_of_ble_eq_true rfl) rfl
theorem d50_41 : adec m50 41 = some (.iload_n 2, 1) := by decide +kernel
theorem s50_41 {l0 : Nat} {l1 : Nat} {l2 : Int} : WP m50 41 [.inr (.inl l0), .inr (.inl l1), .inl l2] [] σ Q = WP m50 42 [.inr (.inl l0), .inr (.inl l1), .inl l2] [.inl l2] σ Q := w_ld d50_41 rfl
theorem d50_42 : adec m50 42 = some (.ifCond .lt (19), 3) := by decide +kernel
theorem s50_42 {l0 : Nat} {l1 : Nat} {l2 : Int} {x0 : Int} : WP m50 42 [.inr (.inl l0), .inr (.inl l1), .inl l2] [.inl x0] σ Q = (if x0 < 0 then WP m50 61 [.inr (.inl l0), .inr (.inl l1), .inl l2] [] σ Q else WP m50 45 [.inr (.inl l0), .inr (.inl l1), .inl l2] [] σ Q) := w_iflt d50_42 (by decide)
theorem d50_45 : adec m50 45 = some (.aload_n 0, 1) := by decide +kernel
theorem s50_45 {l0 : Nat} {l1 : Nat} {l2 : Int} : WP m50 45 [.inr (.inl l0), .inr (.inl l1), .inl l2] [] σ Q = WP m50 46 [.inr (.inl l0), .inr (.inl l1), .inl l2] [.inr (.inl l0)] σ Q := w_ld d50_45 rfl
theorem d50_46 : adec m50 46 = some (.aload_n 1, 1) := by decide +kernel
theorem s50_46 {l0 : Nat} {l1 : Nat} {l2 : Int} {x0 : Nat} : WP m50 46 [.inr (.inl l0), .inr (.inl l1), .inl l2] [.inr (.inl x0)] σ Q = WP m50 47 [.inr (.inl l0), .inr (.inl l1), .inl l2] [.inr (.inl l1), .inr (.inl x0)] σ Q := w_ld d50_46 rfl
theorem d50_47 : adec m50 47 = some (.iload_n 2, 1) := by decide +kernel
theorem s50_47 {l0 : Nat} {l1 : Nat} {l2 : Int} {x0 : Nat} {x1 : Nat} : WP m50 47 [.inr (.inl l0), .inr (.inl l1), .inl l2] [.inr (.inl x1), .inr (.inl x0)] σ Q = WP m50 48 [.inr (.inl l0), .inr (.inl l1), .inl l2] [.inl l2, .inr (.inl x1), .inr (.inl x0)] σ Q := w_ld d50_47 rfl
theorem d50_48 : adec m50 48 = some (.invokevirtual 62, 3) := by decide +kernel
theorem s50_48 {l0 : Nat} {l1 : Nat} {l2 : Int} {x0 : Nat} {x1 : Nat} {x2 : Int} : WP m50 48 [.inr (.inl l0), .inr (.inl l1), .inl l2] [.inl x2, .inr (.inl x1), .inr (.inl x0)] σ Q = (isO x1 3 ∧ CA m30 [.inr (.inl x1), .inl x2] σ (fun v σ2 => WP m50 51 [.inr (.inl l0), .inr (.inl l1), .inl l2] (v ++ [.inr (.inl x0)]) σ2 Q)) := w_cV (k := 30) d50_48 (by decide +kernel) m30_at rfl rfl ⟨Nat.le_of_ble_eq_true rfl, Nat.le_of_ble_eq_true rfl, Nat.le_of_ble_eq_true rfl⟩ (by decide)
theorem d50_51 : adec m50 51 = some (.iload_n 2, 1) := by decide +kernel
theorem s50_51 {l0 : Nat} {l1 : Nat} {l2 : Int} {x0 : Nat} {x1 : Int} : WP m50 51 [.inr (.inl l0), .inr (.inl l1), .inl l2] [.inl x1, .inr (.inl x0)] σ Q = WP m50 52 [.inr (.inl l0), .inr (.inl l1), .inl l2] [.inl l2, .inl x1, .inr (.inl x0)] σ Q := w_ld d50_51 rfl
theorem d50_52 : adec m50 52 = some (.invokevirtual 66, 3) := by decide +kernel
theorem s50_52 {l0 : Nat} {l1 : Nat} {l2 : Int} {x1 : Int} {x2 : Int} : WP m50 52 [.inr (.inl l0), .inr (.inl l1), .inl l2] [.inl x2, .inl x1, .inr (.inl 108)] σ Q = CA m56 [.inr (.inl 108), .inl x1, .inl x2] σ (fun v σ2 => WP m50 55 [.inr (.inl l0), .inr (.inl l1), .inl l2] (v ++ []) σ2 Q) := (w_cV (k := 56) d50_52 (by decide +kernel) m56_at rfl rfl ⟨Nat.le_of_ble_eq_true rfl, Nat.le_of_ble_eq_true rfl, Nat.le_of_ble_eq_true rfl⟩ (by decide)).trans (g_and (isO_dec (by decide +kernel)))
theorem d50_55 : adec m50 55 = some (.iinc 2 (-1), 3) := by decide +kernel
theorem s50_55 {l0 : Nat} {l1 : Nat} {l2 : Int} : WP m50 55 [.inr (.inl l0), .inr (.inl l1), .inl l2] [] σ Q = (inI (l2 + (-1)) ∧ WP m50 58 [.inr (.inl l0), .inr (.inl l1), .inl (l2 + (-1))] [] σ Q) := w_iinc d50_55 rfl rfl
theorem d50_58 : adec m50 58 = some (.goto (-17), 3) := by decide +kernel
theorem s50_58 {l0 : Nat} {l1 : Nat} {l2 : Int} : WP m50 58 [.inr (.inl l0), .inr (.inl l1), .inl l2] [] σ Q = WP m50 41 [.inr (.inl l0), .inr (.inl l1), .inl l2] [] σ Q := w_goto d50_58 (by decide)
theorem d50_61 : adec m50 61 = some (.aload_n 0, 1) := by decide +kernel
theorem s50_61 {l0 : Nat} {l1 : Nat} {l2 : Int} : WP m50 61 [.inr (.inl l0), .inr (.inl l1), .inl l2] [] σ Q = WP m50 62 [.inr (.inl l0), .inr (.inl l1), .inl l2] [.inr (.inl l0)] σ Q := w_ld d50_61 rfl
theorem d50_62 : adec m50 62 = some (.invokevirtual 70, 3) := by decide +kernel
theorem s50_62 {l0 : Nat} {l1 : Nat} {l2 : Int} : WP m50 62 [.inr (.inl l0), .inr (.inl l1), .inl l2] [.inr (.inl 108)] σ Q = CA m63 [.inr (.inl 108)] σ (fun v σ2 => WP m50 65 [.inr (.inl l0), .inr (.inl l1), .inl l2] (v ++ []) σ2 Q) := (w_cV (k := 63) d50_62 (by decide +kernel) m63_at rfl rfl ⟨Nat.le_of_ble_eq_true rfl, Nat.le_of_ble_eq_true rfl, Nat.le_of_ble_eq_true rfl⟩ (by decide)).trans (g_and (isO_dec (by decide +kernel)))
theorem d50_65 : adec m50 65 = some (.ireturn, 1) := by decide +kernel
theorem s50_65 {l0 : Nat} {l1 : Nat} {l2 : Int} {x0 : Int} : WP m50 65 [.inr (.inl l0), .inr (.inl l1), .inl l2] [.inl x0] σ Q = ((x0 = 0 ∨ x0 = 1) ∧ Q [.inl x0] σ) := w_rz d50_65 rfl
theorem e50 {p0 : Nat} {p1 : Nat} : CA m50 [.inr (.inl p0), .inr (.inl p1)] σ Q = WP m50 0 [.inr (.inl p0), .inr (.inl p1), vU] [] σ Q := rfl
-- BinderPress$Sorter.write(LBinderPress$Row;)Z
theorem d51_0 : adec m51 0 = some (.aload_n 0, 1) := by decide +kernel
theorem s51_0 {l0 : Nat} {l1 : Nat} {l2 : AV} {l3 : AV} : WP m51 0 [.inr (.inl l0), .inr (.inl l1), l2, l3] [] σ Q = WP m51 1 [.inr (.inl l0), .inr (.inl l1), l2, l3] [.inr (.inl l0)] σ Q := w_ld d51_0 rfl
theorem d51_1 : adec m51 1 = some (.getfield 38, 3) := by decide +kernel
theorem s51_1 {l0 : Nat} {l1 : Nat} {l2 : AV} {l3 : AV} : WP m51 1 [.inr (.inl l0), .inr (.inl l1), l2, l3] [.inr (.inl 108)] σ Q = WP m51 4 [.inr (.inl l0), .inr (.inl l1), l2, l3] [.inr (.inl 123)] σ Q := (w_getR (c := 5) (n := 7) d51_1 (by decide +kernel) (by decide +kernel)).trans (g_and ⟨isO_dec (by decide +kernel), by decide +kernel⟩)
theorem d51_4 : adec m51 4 = some (.invokevirtual 52, 3) := by decide +kernel
theorem s51_4 {l0 : Nat} {l1 : Nat} {l2 : AV} {l3 : AV} {x0 : Nat} : WP m51 4 [.inr (.inl l0), .inr (.inl l1), l2, l3] [.inr (.inl x0)] σ Q = (isO x0 3 ∧ CA m29 [.inr (.inl x0)] σ (fun v σ2 => WP m51 7 [.inr (.inl l0), .inr (.inl l1), l2, l3] (v ++ []) σ2 Q)) := w_cV (k := 29) d51_4 (by decide +kernel) m29_at rfl rfl ⟨Nat.le_of_ble_eq_true rfl, Nat.le_of_ble_eq_true rfl, Nat.le_of_ble_eq_true rfl⟩ (by decide)
theorem d51_7 : adec m51 7 = some (.aload_n 0, 1) := by decide +kernel
theorem s51_7 {l0 : Nat} {l1 : Nat} {l2 : AV} {l3 : AV} : WP m51 7 [.inr (.inl l0), .inr (.inl l1), l2, l3] [] σ Q = WP m51 8 [.inr (.inl l0), .inr (.inl l1), l2, l3] [.inr (.inl l0)] σ Q := w_ld d51_7 rfl
theorem d51_8 : adec m51 8 = some (.aload_n 1, 1) := by decide +kernel
theorem s51_8 {l0 : Nat} {l1 : Nat} {l2 : AV} {l3 : AV} {x0 : Nat} : WP m51 8 [.inr (.inl l0), .inr (.inl l1), l2, l3] [.inr (.inl x0)] σ Q = WP m51 9 [.inr (.inl l0), .inr (.inl l1), l2, l3] [.inr (.inl l1), .inr (.inl x0)] σ Q := w_ld d51_8 rfl
theorem d51_9 : adec m51 9 = some (.invokevirtual 74, 3) := by decide +kernel
theorem s51_9 {l0 : Nat} {l1 : Nat} {l2 : AV} {l3 : AV} {x1 : Nat} : WP m51 9 [.inr (.inl l0), .inr (.inl l1), l2, l3] [.inr (.inl x1), .inr (.inl 108)] σ Q = CA m50 [.inr (.inl 108), .inr (.inl x1)] σ (fun v σ2 => WP m51 12 [.inr (.inl l0), .inr (.inl l1), l2, l3] (v ++ []) σ2 Q) := (w_cV (k := 50) d51_9 (by decide +kernel) m50_at rfl rfl ⟨Nat.le_of_ble_eq_true rfl, Nat.le_of_ble_eq_true rfl, Nat.le_of_ble_eq_true rfl⟩ (by decide)).trans (g_and (isO_dec (by decide +kernel)))
theorem d51_12 : adec m51 12 = some (.ifCond .ne (5), 3) := by decide +kernel
theorem s51_12 {l0 : Nat} {l1 : Nat} {l2 : AV} {l3 : AV} {x0 : Int} : WP m51 12 [.inr (.inl l0), .inr (.inl l1), l2, l3] [.inl x0] σ Q = (if x0 = 0 then WP m51 15 [.inr (.inl l0), .inr (.inl l1), l2, l3] [] σ Q else WP m51 17 [.inr (.inl l0), .inr (.inl l1), l2, l3] [] σ Q) := w_ifne d51_12 (by decide)
theorem d51_15 : adec m51 15 = some (.iconst (1), 1) := by decide +kernel
theorem s51_15 {l0 : Nat} {l1 : Nat} {l2 : AV} {l3 : AV} : WP m51 15 [.inr (.inl l0), .inr (.inl l1), l2, l3] [] σ Q = WP m51 16 [.inr (.inl l0), .inr (.inl l1), l2, l3] [.inl (1)] σ Q := w_iconst d51_15 (by decide)
theorem d51_16 : adec m51 16 = some (.ireturn, 1) := by decide +kernel
theorem s51_16 {l0 : Nat} {l1 : Nat} {l2 : AV} {l3 : AV} {x0 : Int} : WP m51 16 [.inr (.inl l0), .inr (.inl l1), l2, l3] [.inl x0] σ Q = ((x0 = 0 ∨ x0 = 1) ∧ Q [.inl x0] σ) := w_rz d51_16 rfl
theorem d51_17 : adec m51 17 = some (.aload_n 0, 1) := by decide +kernel
theorem s51_17 {l0 : Nat} {l1 : Nat} {l2 : AV} {l3 : AV} : WP m51 17 [.inr (.inl l0), .inr (.inl l1), l2, l3] [] σ Q = WP m51 18 [.inr (.inl l0), .inr (.inl l1), l2, l3] [.inr (.inl l0)] σ Q := w_ld d51_17 rfl
theorem d51_18 : adec m51 18 = some (.iconst (0), 1) := by decide +kernel
theorem s51_18 {l0 : Nat} {l1 : Nat} {l2 : AV} {l3 : AV} {x0 : Nat} : WP m51 18 [.inr (.inl l0), .inr (.inl l1), l2, l3] [.inr (.inl x0)] σ Q = WP m51 19 [.inr (.inl l0), .inr (.inl l1), l2, l3] [.inl (0), .inr (.inl x0)] σ Q := w_iconst d51_18 (by decide)
theorem d51_19 : adec m51 19 = some (.putfield 78, 3) := by decide +kernel
theorem s51_19 {l0 : Nat} {l1 : Nat} {l2 : AV} {l3 : AV} {x1 : Int} : WP m51 19 [.inr (.inl l0), .inr (.inl l1), l2, l3] [.inl x1, .inr (.inl 108)] σ Q = WP m51 22 [.inr (.inl l0), .inr (.inl l1), l2, l3] [] (aup σ 108 9 x1) Q := (w_putI (c := 5) (n := 9) d51_19 (by decide +kernel) (by decide +kernel) (by decide +kernel)).trans (g_and (isO_dec (by decide +kernel)))
theorem d51_22 : adec m51 22 = some (.aload_n 0, 1) := by decide +kernel
theorem s51_22 {l0 : Nat} {l1 : Nat} {l2 : AV} {l3 : AV} : WP m51 22 [.inr (.inl l0), .inr (.inl l1), l2, l3] [] σ Q = WP m51 23 [.inr (.inl l0), .inr (.inl l1), l2, l3] [.inr (.inl l0)] σ Q := w_ld d51_22 rfl
theorem d51_23 : adec m51 23 = some (.getfield 35, 3) := by decide +kernel
theorem s51_23 {l0 : Nat} {l1 : Nat} {l2 : AV} {l3 : AV} : WP m51 23 [.inr (.inl l0), .inr (.inl l1), l2, l3] [.inr (.inl 108)] σ Q = WP m51 26 [.inr (.inl l0), .inr (.inl l1), l2, l3] [.inr (.inl 121)] σ Q := (w_getR (c := 5) (n := 6) d51_23 (by decide +kernel) (by decide +kernel)).trans (g_and ⟨isO_dec (by decide +kernel), by decide +kernel⟩)
theorem d51_26 : adec m51 26 = some (.aload_n 0, 1) := by decide +kernel
theorem s51_26 {l0 : Nat} {l1 : Nat} {l2 : AV} {l3 : AV} {x0 : Nat} : WP m51 26 [.inr (.inl l0), .inr (.inl l1), l2, l3] [.inr (.inl x0)] σ Q = WP m51 27 [.inr (.inl l0), .inr (.inl l1), l2, l3] [.inr (.inl l0), .inr (.inl x0)] σ Q := w_ld d51_26 rfl
theorem d51_27 : adec m51 27 = some (.getfield 23, 3) := by decide +kernel
theorem s51_27 {l0 : Nat} {l1 : Nat} {l2 : AV} {l3 : AV} {x0 : Nat} : WP m51 27 [.inr (.inl l0), .inr (.inl l1), l2, l3] [.inr (.inl 108), .inr (.inl x0)] σ Q = WP m51 30 [.inr (.inl l0), .inr (.inl l1), l2, l3] [.inr (.inl 113), .inr (.inl x0)] σ Q := (w_getR (c := 5) (n := 2) d51_27 (by decide +kernel) (by decide +kernel)).trans (g_and ⟨isO_dec (by decide +kernel), by decide +kernel⟩)
theorem d51_30 : adec m51 30 = some (.invokevirtual 58, 3) := by decide +kernel
theorem s51_30 {l0 : Nat} {l1 : Nat} {l2 : AV} {l3 : AV} {x0 : Nat} {x1 : Nat} : WP m51 30 [.inr (.inl l0), .inr (.inl l1), l2, l3] [.inr (.inl x1), .inr (.inl x0)] σ Q = (isO x1 3 ∧ CA m28 [.inr (.inl x1)] σ (fun v σ2 => WP m51 33 [.inr (.inl l0), .inr (.inl l1), l2, l3] (v ++ [.inr (.inl x0)]) σ2 Q)) := w_cV (k := 28) d51_30 (by decide +kernel) m28_at rfl rfl ⟨Nat.le_of_ble_eq_true rfl, Nat.le_of_ble_eq_true rfl, Nat.le_of_ble_eq_true rfl⟩ (by decide)
theorem d51_33 : adec m51 33 = some (.iconst (0), 1) := by decide +kernel
theorem s51_33 {l0 : Nat} {l1 : Nat} {l2 : AV} {l3 : AV} {x0 : Nat} {x1 : Int} : WP m51 33 [.inr (.inl l0), .inr (.inl l1), l2, l3] [.inl x1, .inr (.inl x0)] σ Q = WP m51 34 [.inr (.inl l0), .inr (.inl l1), l2, l3] [.inl (0), .inl x1, .inr (.inl x0)] σ Q := w_iconst d51_33 (by decide)
theorem d51_34 : adec m51 34 = some (.invokevirtual 82, 3) := by decide +kernel
theorem s51_34 {l0 : Nat} {l1 : Nat} {l2 : AV} {l3 : AV} {x0 : Nat} {x1 : Int} {x2 : Int} : WP m51 34 [.inr (.inl l0), .inr (.inl l1), l2, l3] [.inl x2, .inl x1, .inr (.inl x0)] σ Q = (isO x0 3 ∧ CA m37 [.inr (.inl x0), .inl x1, .inl x2] σ (fun v σ2 => WP m51 37 [.inr (.inl l0), .inr (.inl l1), l2, l3] (v ++ []) σ2 Q)) := w_cV (k := 37) d51_34 (by decide +kernel) m37_at rfl rfl ⟨Nat.le_of_ble_eq_true rfl, Nat.le_of_ble_eq_true rfl, Nat.le_of_ble_eq_true rfl⟩ (by decide)
theorem d51_37 : adec m51 37 = some (.aload_n 0, 1) := by decide +kernel
theorem s51_37 {l0 : Nat} {l1 : Nat} {l2 : AV} {l3 : AV} : WP m51 37 [.inr (.inl l0), .inr (.inl l1), l2, l3] [] σ Q = WP m51 38 [.inr (.inl l0), .inr (.inl l1), l2, l3] [.inr (.inl l0)] σ Q := w_ld d51_37 rfl
theorem d51_38 : adec m51 38 = some (.getfield 32, 3) := by decide +kernel
theorem s51_38 {l0 : Nat} {l1 : Nat} {l2 : AV} {l3 : AV} : WP m51 38 [.inr (.inl l0), .inr (.inl l1), l2, l3] [.inr (.inl 108)] σ Q = WP m51 41 [.inr (.inl l0), .inr (.inl l1), l2, l3] [.inr (.inl 119)] σ Q := (w_getR (c := 5) (n := 5) d51_38 (by decide +kernel) (by decide +kernel)).trans (g_and ⟨isO_dec (by decide +kernel), by decide +kernel⟩)
theorem d51_41 : adec m51 41 = some (.invokevirtual 52, 3) := by decide +kernel
theorem s51_41 {l0 : Nat} {l1 : Nat} {l2 : AV} {l3 : AV} {x0 : Nat} : WP m51 41 [.inr (.inl l0), .inr (.inl l1), l2, l3] [.inr (.inl x0)] σ Q = (isO x0 3 ∧ CA m29 [.inr (.inl x0)] σ (fun v σ2 => WP m51 44 [.inr (.inl l0), .inr (.inl l1), l2, l3] (v ++ []) σ2 Q)) := w_cV (k := 29) d51_41 (by decide +kernel) m29_at rfl rfl ⟨Nat.le_of_ble_eq_true rfl, Nat.le_of_ble_eq_true rfl, Nat.le_of_ble_eq_true rfl⟩ (by decide)
theorem d51_44 : adec m51 44 = some (.aload_n 0, 1) := by decide +kernel
theorem s51_44 {l0 : Nat} {l1 : Nat} {l2 : AV} {l3 : AV} : WP m51 44 [.inr (.inl l0), .inr (.inl l1), l2, l3] [] σ Q = WP m51 45 [.inr (.inl l0), .inr (.inl l1), l2, l3] [.inr (.inl l0)] σ Q := w_ld d51_44 rfl
theorem d51_45 : adec m51 45 = some (.getfield 32, 3) := by decide +kernel
theorem s51_45 {l0 : Nat} {l1 : Nat} {l2 : AV} {l3 : AV} : WP m51 45 [.inr (.inl l0), .inr (.inl l1), l2, l3] [.inr (.inl 108)] σ Q = WP m51 48 [.inr (.inl l0), .inr (.inl l1), l2, l3] [.inr (.inl 119)] σ Q := (w_getR (c := 5) (n := 5) d51_45 (by decide +kernel) (by decide +kernel)).trans (g_and ⟨isO_dec (by decide +kernel), by decide +kernel⟩)
theorem d51_48 : adec m51 48 = some (.aload_n 0, 1) := by decide +kernel
theorem s51_48 {l0 : Nat} {l1 : Nat} {l2 : AV} {l3 : AV} {x0 : Nat} : WP m51 48 [.inr (.inl l0), .inr (.inl l1), l2, l3] [.inr (.inl x0)] σ Q = WP m51 49 [.inr (.inl l0), .inr (.inl l1), l2, l3] [.inr (.inl l0), .inr (.inl x0)] σ Q := w_ld d51_48 rfl
theorem d51_49 : adec m51 49 = some (.getfield 26, 3) := by decide +kernel
theorem s51_49 {l0 : Nat} {l1 : Nat} {l2 : AV} {l3 : AV} {x0 : Nat} : WP m51 49 [.inr (.inl l0), .inr (.inl l1), l2, l3] [.inr (.inl 108), .inr (.inl x0)] σ Q = WP m51 52 [.inr (.inl l0), .inr (.inl l1), l2, l3] [.inr (.inl 115), .inr (.inl x0)] σ Q := (w_getR (c := 5) (n := 3) d51_49 (by decide +kernel) (by decide +kernel)).trans (g_and ⟨isO_dec (by decide +kernel), by decide +kernel⟩)
theorem d51_52 : adec m51 52 = some (.iconst (0), 1) := by decide +kernel
theorem s51_52 {l0 : Nat} {l1 : Nat} {l2 : AV} {l3 : AV} {x0 : Nat} {x1 : Nat} : WP m51 52 [.inr (.inl l0), .inr (.inl l1), l2, l3] [.inr (.inl x1), .inr (.inl x0)] σ Q = WP m51 53 [.inr (.inl l0), .inr (.inl l1), l2, l3] [.inl (0), .inr (.inl x1), .inr (.inl x0)] σ Q := w_iconst d51_52 (by decide)
theorem d51_53 : adec m51 53 = some (.invokevirtual 62, 3) := by decide +kernel
theorem s51_53 {l0 : Nat} {l1 : Nat} {l2 : AV} {l3 : AV} {x0 : Nat} {x1 : Nat} {x2 : Int} : WP m51 53 [.inr (.inl l0), .inr (.inl l1), l2, l3] [.inl x2, .inr (.inl x1), .inr (.inl x0)] σ Q = (isO x1 3 ∧ CA m30 [.inr (.inl x1), .inl x2] σ (fun v σ2 => WP m51 56 [.inr (.inl l0), .inr (.inl l1), l2, l3] (v ++ [.inr (.inl x0)]) σ2 Q)) := w_cV (k := 30) d51_53 (by decide +kernel) m30_at rfl rfl ⟨Nat.le_of_ble_eq_true rfl, Nat.le_of_ble_eq_true rfl, Nat.le_of_ble_eq_true rfl⟩ (by decide)
theorem d51_56 : adec m51 56 = some (.invokevirtual 85, 3) := by decide +kernel
theorem s51_56 {l0 : Nat} {l1 : Nat} {l2 : AV} {l3 : AV} {x0 : Nat} {x1 : Int} : WP m51 56 [.inr (.inl l0), .inr (.inl l1), l2, l3] [.inl x1, .inr (.inl x0)] σ Q = (isO x0 3 ∧ CA m34 [.inr (.inl x0), .inl x1] σ (fun v σ2 => WP m51 59 [.inr (.inl l0), .inr (.inl l1), l2, l3] (v ++ []) σ2 Q)) := w_cV (k := 34) d51_56 (by decide +kernel) m34_at rfl rfl ⟨Nat.le_of_ble_eq_true rfl, Nat.le_of_ble_eq_true rfl, Nat.le_of_ble_eq_true rfl⟩ (by decide)
theorem d51_59 : adec m51 59 = some (.iconst (0), 1) := by decide +kernel
theorem s51_59 {l0 : Nat} {l1 : Nat} {l2 : AV} {l3 : AV} : WP m51 59 [.inr (.inl l0), .inr (.inl l1), l2, l3] [] σ Q = WP m51 60 [.inr (.inl l0), .inr (.inl l1), l2, l3] [.inl (0)] σ Q := w_iconst d51_59 (by decide)
theorem d51_60 : adec m51 60 = some (.istore_n 2, 1) := by decide +kernel
theorem s51_60 {l0 : Nat} {l1 : Nat} {l2 : AV} {l3 : AV} {x0 : Int} : WP m51 60 [.inr (.inl l0), .inr (.inl l1), l2, l3] [.inl x0] σ Q = WP m51 61 [.inr (.inl l0), .inr (.inl l1), .inl x0, l3] [] σ Q := w_st1 (j := 2) d51_60 rfl (Nat.le_of_ble_eq_true rfl) rfl
theorem d51_61 : adec m51 61 = some (.iload_n 2, 1) := by decide +kernel
theorem s51_61 {l0 : Nat} {l1 : Nat} {l2 : Int} {l3 : AV} : WP m51 61 [.inr (.inl l0), .inr (.inl l1), .inl l2, l3] [] σ Q = WP m51 62 [.inr (.inl l0), .inr (.inl l1), .inl l2, l3] [.inl l2] σ Q := w_ld d51_61 rfl
theorem d51_62 : adec m51 62 = some (.sipush (800), 3) := by decide +kernel
theorem s51_62 {l0 : Nat} {l1 : Nat} {l2 : Int} {l3 : AV} {x0 : Int} : WP m51 62 [.inr (.inl l0), .inr (.inl l1), .inl l2, l3] [.inl x0] σ Q = WP m51 65 [.inr (.inl l0), .inr (.inl l1), .inl l2, l3] [.inl (800), .inl x0] σ Q := w_sipush d51_62 (by decide)
theorem d51_65 : adec m51 65 = some (.if_icmp .ge (76), 3) := by decide +kernel
theorem s51_65 {l0 : Nat} {l1 : Nat} {l2 : Int} {l3 : AV} {x0 : Int} {x1 : Int} : WP m51 65 [.inr (.inl l0), .inr (.inl l1), .inl l2, l3] [.inl x1, .inl x0] σ Q = (if x1 ≤ x0 then WP m51 141 [.inr (.inl l0), .inr (.inl l1), .inl l2, l3] [] σ Q else WP m51 68 [.inr (.inl l0), .inr (.inl l1), .inl l2, l3] [] σ Q) := w_icge d51_65 (by decide)
theorem d51_68 : adec m51 68 = some (.aload_n 0, 1) := by decide +kernel
theorem s51_68 {l0 : Nat} {l1 : Nat} {l2 : Int} {l3 : AV} : WP m51 68 [.inr (.inl l0), .inr (.inl l1), .inl l2, l3] [] σ Q = WP m51 69 [.inr (.inl l0), .inr (.inl l1), .inl l2, l3] [.inr (.inl l0)] σ Q := w_ld d51_68 rfl
theorem d51_69 : adec m51 69 = some (.getfield 32, 3) := by decide +kernel
theorem s51_69 {l0 : Nat} {l1 : Nat} {l2 : Int} {l3 : AV} : WP m51 69 [.inr (.inl l0), .inr (.inl l1), .inl l2, l3] [.inr (.inl 108)] σ Q = WP m51 72 [.inr (.inl l0), .inr (.inl l1), .inl l2, l3] [.inr (.inl 119)] σ Q := (w_getR (c := 5) (n := 5) d51_69 (by decide +kernel) (by decide +kernel)).trans (g_and ⟨isO_dec (by decide +kernel), by decide +kernel⟩)
theorem d51_72 : adec m51 72 = some (.invokevirtual 58, 3) := by decide +kernel
theorem s51_72 {l0 : Nat} {l1 : Nat} {l2 : Int} {l3 : AV} {x0 : Nat} : WP m51 72 [.inr (.inl l0), .inr (.inl l1), .inl l2, l3] [.inr (.inl x0)] σ Q = (isO x0 3 ∧ CA m28 [.inr (.inl x0)] σ (fun v σ2 => WP m51 75 [.inr (.inl l0), .inr (.inl l1), .inl l2, l3] (v ++ []) σ2 Q)) := w_cV (k := 28) d51_72 (by decide +kernel) m28_at rfl rfl ⟨Nat.le_of_ble_eq_true rfl, Nat.le_of_ble_eq_true rfl, Nat.le_of_ble_eq_true rfl⟩ (by decide)
theorem d51_75 : adec m51 75 = some (.ifCond .le (66), 3) := by decide +kernel
theorem s51_75 {l0 : Nat} {l1 : Nat} {l2 : Int} {l3 : AV} {x0 : Int} : WP m51 75 [.inr (.inl l0), .inr (.inl l1), .inl l2, l3] [.inl x0] σ Q = (if x0 ≤ 0 then WP m51 141 [.inr (.inl l0), .inr (.inl l1), .inl l2, l3] [] σ Q else WP m51 78 [.inr (.inl l0), .inr (.inl l1), .inl l2, l3] [] σ Q) := w_ifle d51_75 (by decide)
theorem d51_78 : adec m51 78 = some (.aload_n 0, 1) := by decide +kernel
theorem s51_78 {l0 : Nat} {l1 : Nat} {l2 : Int} {l3 : AV} : WP m51 78 [.inr (.inl l0), .inr (.inl l1), .inl l2, l3] [] σ Q = WP m51 79 [.inr (.inl l0), .inr (.inl l1), .inl l2, l3] [.inr (.inl l0)] σ Q := w_ld d51_78 rfl
theorem d51_79 : adec m51 79 = some (.getfield 32, 3) := by decide +kernel
theorem s51_79 {l0 : Nat} {l1 : Nat} {l2 : Int} {l3 : AV} : WP m51 79 [.inr (.inl l0), .inr (.inl l1), .inl l2, l3] [.inr (.inl 108)] σ Q = WP m51 82 [.inr (.inl l0), .inr (.inl l1), .inl l2, l3] [.inr (.inl 119)] σ Q := (w_getR (c := 5) (n := 5) d51_79 (by decide +kernel) (by decide +kernel)).trans (g_and ⟨isO_dec (by decide +kernel), by decide +kernel⟩)
theorem d51_82 : adec m51 82 = some (.invokevirtual 88, 3) := by decide +kernel
theorem s51_82 {l0 : Nat} {l1 : Nat} {l2 : Int} {l3 : AV} {x0 : Nat} : WP m51 82 [.inr (.inl l0), .inr (.inl l1), .inl l2, l3] [.inr (.inl x0)] σ Q = (isO x0 3 ∧ CA m35 [.inr (.inl x0)] σ (fun v σ2 => WP m51 85 [.inr (.inl l0), .inr (.inl l1), .inl l2, l3] (v ++ []) σ2 Q)) := w_cV (k := 35) d51_82 (by decide +kernel) m35_at rfl rfl ⟨Nat.le_of_ble_eq_true rfl, Nat.le_of_ble_eq_true rfl, Nat.le_of_ble_eq_true rfl⟩ (by decide)
theorem d51_85 : adec m51 85 = some (.istore_n 3, 1) := by decide +kernel
theorem s51_85 {l0 : Nat} {l1 : Nat} {l2 : Int} {l3 : AV} {x0 : Int} : WP m51 85 [.inr (.inl l0), .inr (.inl l1), .inl l2, l3] [.inl x0] σ Q = WP m51 86 [.inr (.inl l0), .inr (.inl l1), .inl l2, .inl x0] [] σ Q := w_st1 (j := 3) d51_85 rfl (Nat.le_of_ble_eq_true rfl) rfl
theorem d51_86 : adec m51 86 = some (.iload_n 3, 1) := by decide +kernel
theorem s51_86 {l0 : Nat} {l1 : Nat} {l2 : Int} {l3 : Int} : WP m51 86 [.inr (.inl l0), .inr (.inl l1), .inl l2, .inl l3] [] σ Q = WP m51 87 [.inr (.inl l0), .inr (.inl l1), .inl l2, .inl l3] [.inl l3] σ Q := w_ld d51_86 rfl
theorem d51_87 : adec m51 87 = some (.ifCond .ge (15), 3) := by decide +kernel
theorem s51_87 {l0 : Nat} {l1 : Nat} {l2 : Int} {l3 : Int} {x0 : Int} : WP m51 87 [.inr (.inl l0), .inr (.inl l1), .inl l2, .inl l3] [.inl x0] σ Q = (if 0 ≤ x0 then WP m51 102 [.inr (.inl l0), .inr (.inl l1), .inl l2, .inl l3] [] σ Q else WP m51 90 [.inr (.inl l0), .inr (.inl l1), .inl l2, .inl l3] [] σ Q) := w_ifge d51_87 (by decide)
theorem d51_90 : adec m51 90 = some (.aload_n 0, 1) := by decide +kernel
theorem s51_90 {l0 : Nat} {l1 : Nat} {l2 : Int} {l3 : Int} : WP m51 90 [.inr (.inl l0), .inr (.inl l1), .inl l2, .inl l3] [] σ Q = WP m51 91 [.inr (.inl l0), .inr (.inl l1), .inl l2, .inl l3] [.inr (.inl l0)] σ Q := w_ld d51_90 rfl
theorem d51_91 : adec m51 91 = some (.getfield 38, 3) := by decide +kernel
theorem s51_91 {l0 : Nat} {l1 : Nat} {l2 : Int} {l3 : Int} : WP m51 91 [.inr (.inl l0), .inr (.inl l1), .inl l2, .inl l3] [.inr (.inl 108)] σ Q = WP m51 94 [.inr (.inl l0), .inr (.inl l1), .inl l2, .inl l3] [.inr (.inl 123)] σ Q := (w_getR (c := 5) (n := 7) d51_91 (by decide +kernel) (by decide +kernel)).trans (g_and ⟨isO_dec (by decide +kernel), by decide +kernel⟩)
theorem d51_94 : adec m51 94 = some (.iload_n 3, 1) := by decide +kernel
theorem s51_94 {l0 : Nat} {l1 : Nat} {l2 : Int} {l3 : Int} {x0 : Nat} : WP m51 94 [.inr (.inl l0), .inr (.inl l1), .inl l2, .inl l3] [.inr (.inl x0)] σ Q = WP m51 95 [.inr (.inl l0), .inr (.inl l1), .inl l2, .inl l3] [.inl l3, .inr (.inl x0)] σ Q := w_ld d51_94 rfl
theorem d51_95 : adec m51 95 = some (.ineg, 1) := by decide +kernel
theorem s51_95 {l0 : Nat} {l1 : Nat} {l2 : Int} {l3 : Int} {x0 : Nat} {x1 : Int} : WP m51 95 [.inr (.inl l0), .inr (.inl l1), .inl l2, .inl l3] [.inl x1, .inr (.inl x0)] σ Q = (inI (-x1) ∧ WP m51 96 [.inr (.inl l0), .inr (.inl l1), .inl l2, .inl l3] [.inl (-x1), .inr (.inl x0)] σ Q) := w_ineg d51_95
theorem d51_96 : adec m51 96 = some (.invokevirtual 85, 3) := by decide +kernel
theorem s51_96 {l0 : Nat} {l1 : Nat} {l2 : Int} {l3 : Int} {x0 : Nat} {x1 : Int} : WP m51 96 [.inr (.inl l0), .inr (.inl l1), .inl l2, .inl l3] [.inl x1, .inr (.inl x0)] σ Q = (isO x0 3 ∧ CA m34 [.inr (.inl x0), .inl x1] σ (fun v σ2 => WP m51 99 [.inr (.inl l0), .inr (.inl l1), .inl l2, .inl l3] (v ++ []) σ2 Q)) := w_cV (k := 34) d51_96 (by decide +kernel) m34_at rfl rfl ⟨Nat.le_of_ble_eq_true rfl, Nat.le_of_ble_eq_true rfl, Nat.le_of_ble_eq_true rfl⟩ (by decide)
theorem d51_99 : adec m51 99 = some (.goto (12), 3) := by decide +kernel
theorem s51_99 {l0 : Nat} {l1 : Nat} {l2 : Int} {l3 : Int} : WP m51 99 [.inr (.inl l0), .inr (.inl l1), .inl l2, .inl l3] [] σ Q = WP m51 111 [.inr (.inl l0), .inr (.inl l1), .inl l2, .inl l3] [] σ Q := w_goto d51_99 (by decide)
theorem d51_102 : adec m51 102 = some (.aload_n 0, 1) := by decide +kernel
theorem s51_102 {l0 : Nat} {l1 : Nat} {l2 : Int} {l3 : Int} : WP m51 102 [.inr (.inl l0), .inr (.inl l1), .inl l2, .inl l3] [] σ Q = WP m51 103 [.inr (.inl l0), .inr (.inl l1), .inl l2, .inl l3] [.inr (.inl l0)] σ Q := w_ld d51_102 rfl
theorem d51_103 : adec m51 103 = some (.aload_n 0, 1) := by decide +kernel
theorem s51_103 {l0 : Nat} {l1 : Nat} {l2 : Int} {l3 : Int} {x0 : Nat} : WP m51 103 [.inr (.inl l0), .inr (.inl l1), .inl l2, .inl l3] [.inr (.inl x0)] σ Q = WP m51 104 [.inr (.inl l0), .inr (.inl l1), .inl l2, .inl l3] [.inr (.inl l0), .inr (.inl x0)] σ Q := w_ld d51_103 rfl
theorem d51_104 : adec m51 104 = some (.iload_n 3, 1) := by decide +kernel
theorem s51_104 {l0 : Nat} {l1 : Nat} {l2 : Int} {l3 : Int} {x0 : Nat} {x1 : Nat} : WP m51 104 [.inr (.inl l0), .inr (.inl l1), .inl l2, .inl l3] [.inr (.inl x1), .inr (.inl x0)] σ Q = WP m51 105 [.inr (.inl l0), .inr (.inl l1), .inl l2, .inl l3] [.inl l3, .inr (.inl x1), .inr (.inl x0)] σ Q := w_ld d51_104 rfl
theorem d51_105 : adec m51 105 = some (.invokevirtual 91, 3) := by decide +kernel
theorem s51_105 {l0 : Nat} {l1 : Nat} {l2 : Int} {l3 : Int} {x0 : Nat} {x2 : Int} : WP m51 105 [.inr (.inl l0), .inr (.inl l1), .inl l2, .inl l3] [.inl x2, .inr (.inl 108), .inr (.inl x0)] σ Q = CA m61 [.inr (.inl 108), .inl x2] σ (fun v σ2 => WP m51 108 [.inr (.inl l0), .inr (.inl l1), .inl l2, .inl l3] (v ++ [.inr (.inl x0)]) σ2 Q) := (w_cV (k := 61) d51_105 (by decide +kernel) m61_at rfl rfl ⟨Nat.le_of_ble_eq_true rfl, Nat.le_of_ble_eq_true rfl, Nat.le_of_ble_eq_true rfl⟩ (by decide)).trans (g_and (isO_dec (by decide +kernel)))
theorem d51_108 : adec m51 108 = some (.invokevirtual 94, 3) := by decide +kernel
theorem s51_108 {l0 : Nat} {l1 : Nat} {l2 : Int} {l3 : Int} {x1 : Int} : WP m51 108 [.inr (.inl l0), .inr (.inl l1), .inl l2, .inl l3] [.inl x1, .inr (.inl 108)] σ Q = CA m52 [.inr (.inl 108), .inl x1] σ (fun v σ2 => WP m51 111 [.inr (.inl l0), .inr (.inl l1), .inl l2, .inl l3] (v ++ []) σ2 Q) := (w_cV (k := 52) d51_108 (by decide +kernel) m52_at rfl rfl ⟨Nat.le_of_ble_eq_true rfl, Nat.le_of_ble_eq_true rfl, Nat.le_of_ble_eq_true rfl⟩ (by decide)).trans (g_and (isO_dec (by decide +kernel)))
theorem d51_111 : adec m51 111 = some (.aload_n 0, 1) := by decide +kernel
theorem s51_111 {l0 : Nat} {l1 : Nat} {l2 : Int} {l3 : Int} : WP m51 111 [.inr (.inl l0), .inr (.inl l1), .inl l2, .inl l3] [] σ Q = WP m51 112 [.inr (.inl l0), .inr (.inl l1), .inl l2, .inl l3] [.inr (.inl l0)] σ Q := w_ld d51_111 rfl
theorem d51_112 : adec m51 112 = some (.getfield 38, 3) := by decide +kernel
theorem s51_112 {l0 : Nat} {l1 : Nat} {l2 : Int} {l3 : Int} : WP m51 112 [.inr (.inl l0), .inr (.inl l1), .inl l2, .inl l3] [.inr (.inl 108)] σ Q = WP m51 115 [.inr (.inl l0), .inr (.inl l1), .inl l2, .inl l3] [.inr (.inl 123)] σ Q := (w_getR (c := 5) (n := 7) d51_112 (by decide +kernel) (by decide +kernel)).trans (g_and ⟨isO_dec (by decide +kernel), by decide +kernel⟩)
theorem d51_115 : adec m51 115 = some (.invokevirtual 58, 3) := by decide +kernel
theorem s51_115 {l0 : Nat} {l1 : Nat} {l2 : Int} {l3 : Int} {x0 : Nat} : WP m51 115 [.inr (.inl l0), .inr (.inl l1), .inl l2, .inl l3] [.inr (.inl x0)] σ Q = (isO x0 3 ∧ CA m28 [.inr (.inl x0)] σ (fun v σ2 => WP m51 118 [.inr (.inl l0), .inr (.inl l1), .inl l2, .inl l3] (v ++ []) σ2 Q)) := w_cV (k := 28) d51_115 (by decide +kernel) m28_at rfl rfl ⟨Nat.le_of_ble_eq_true rfl, Nat.le_of_ble_eq_true rfl, Nat.le_of_ble_eq_true rfl⟩ (by decide)
theorem d51_118 : adec m51 118 = some (.sipush (200), 3) := by decide +kernel
theorem s51_118 {l0 : Nat} {l1 : Nat} {l2 : Int} {l3 : Int} {x0 : Int} : WP m51 118 [.inr (.inl l0), .inr (.inl l1), .inl l2, .inl l3] [.inl x0] σ Q = WP m51 121 [.inr (.inl l0), .inr (.inl l1), .inl l2, .inl l3] [.inl (200), .inl x0] σ Q := w_sipush d51_118 (by decide)
theorem d51_121 : adec m51 121 = some (.if_icmp .gt (12), 3) := by decide +kernel
theorem s51_121 {l0 : Nat} {l1 : Nat} {l2 : Int} {l3 : Int} {x0 : Int} {x1 : Int} : WP m51 121 [.inr (.inl l0), .inr (.inl l1), .inl l2, .inl l3] [.inl x1, .inl x0] σ Q = (if x1 < x0 then WP m51 133 [.inr (.inl l0), .inr (.inl l1), .inl l2, .inl l3] [] σ Q else WP m51 124 [.inr (.inl l0), .inr (.inl l1), .inl l2, .inl l3] [] σ Q) := w_icgt d51_121 (by decide)
theorem d51_124 : adec m51 124 = some (.aload_n 0, 1) := by decide +kernel
theorem s51_124 {l0 : Nat} {l1 : Nat} {l2 : Int} {l3 : Int} : WP m51 124 [.inr (.inl l0), .inr (.inl l1), .inl l2, .inl l3] [] σ Q = WP m51 125 [.inr (.inl l0), .inr (.inl l1), .inl l2, .inl l3] [.inr (.inl l0)] σ Q := w_ld d51_124 rfl
theorem d51_125 : adec m51 125 = some (.getfield 78, 3) := by decide +kernel
theorem s51_125 {l0 : Nat} {l1 : Nat} {l2 : Int} {l3 : Int} : WP m51 125 [.inr (.inl l0), .inr (.inl l1), .inl l2, .inl l3] [.inr (.inl 108)] σ Q = WP m51 128 [.inr (.inl l0), .inr (.inl l1), .inl l2, .inl l3] [.inl (σ 108 9)] σ Q := (w_getI (c := 5) (n := 9) d51_125 (by decide +kernel) (by decide +kernel)).trans (g_and (isO_dec (by decide +kernel)))
theorem d51_128 : adec m51 128 = some (.bipush (26), 2) := by decide +kernel
theorem s51_128 {l0 : Nat} {l1 : Nat} {l2 : Int} {l3 : Int} {x0 : Int} : WP m51 128 [.inr (.inl l0), .inr (.inl l1), .inl l2, .inl l3] [.inl x0] σ Q = WP m51 130 [.inr (.inl l0), .inr (.inl l1), .inl l2, .inl l3] [.inl (26), .inl x0] σ Q := w_bipush d51_128 (by decide)
theorem d51_130 : adec m51 130 = some (.if_icmp .le (5), 3) := by decide +kernel
theorem s51_130 {l0 : Nat} {l1 : Nat} {l2 : Int} {l3 : Int} {x0 : Int} {x1 : Int} : WP m51 130 [.inr (.inl l0), .inr (.inl l1), .inl l2, .inl l3] [.inl x1, .inl x0] σ Q = (if x0 ≤ x1 then WP m51 135 [.inr (.inl l0), .inr (.inl l1), .inl l2, .inl l3] [] σ Q else WP m51 133 [.inr (.inl l0), .inr (.inl l1), .inl l2, .inl l3] [] σ Q) := w_icle d51_130 (by decide)
theorem d51_133 : adec m51 133 = some (.iconst (0), 1) := by decide +kernel
theorem s51_133 {l0 : Nat} {l1 : Nat} {l2 : Int} {l3 : Int} : WP m51 133 [.inr (.inl l0), .inr (.inl l1), .inl l2, .inl l3] [] σ Q = WP m51 134 [.inr (.inl l0), .inr (.inl l1), .inl l2, .inl l3] [.inl (0)] σ Q := w_iconst d51_133 (by decide)
theorem d51_134 : adec m51 134 = some (.ireturn, 1) := by decide +kernel
theorem s51_134 {l0 : Nat} {l1 : Nat} {l2 : Int} {l3 : Int} {x0 : Int} : WP m51 134 [.inr (.inl l0), .inr (.inl l1), .inl l2, .inl l3] [.inl x0] σ Q = ((x0 = 0 ∨ x0 = 1) ∧ Q [.inl x0] σ) := w_rz d51_134 rfl
theorem d51_135 : adec m51 135 = some (.iinc 2 (1), 3) := by decide +kernel
theorem s51_135 {l0 : Nat} {l1 : Nat} {l2 : Int} {l3 : Int} : WP m51 135 [.inr (.inl l0), .inr (.inl l1), .inl l2, .inl l3] [] σ Q = (inI (l2 + (1)) ∧ WP m51 138 [.inr (.inl l0), .inr (.inl l1), .inl (l2 + (1)), .inl l3] [] σ Q) := w_iinc d51_135 rfl rfl
theorem d51_138 : adec m51 138 = some (.goto (-77), 3) := by decide +kernel
theorem s51_138 {l0 : Nat} {l1 : Nat} {l2 : Int} {l3 : Int} : WP m51 138 [.inr (.inl l0), .inr (.inl l1), .inl l2, .inl l3] [] σ Q = WP m51 61 [.inr (.inl l0), .inr (.inl l1), .inl l2, .inl l3] [] σ Q := w_goto d51_138 (by decide)
theorem d51_141 : adec m51 141 = some (.iconst (1), 1) := by decide +kernel
theorem s51_141 {l0 : Nat} {l1 : Nat} {l2 : Int} {l3 : AV} : WP m51 141 [.inr (.inl l0), .inr (.inl l1), .inl l2, l3] [] σ Q = WP m51 142 [.inr (.inl l0), .inr (.inl l1), .inl l2, l3] [.inl (1)] σ Q := w_iconst d51_141 (by decide)
theorem d51_142 : adec m51 142 = some (.ireturn, 1) := by decide +kernel
theorem s51_142 {l0 : Nat} {l1 : Nat} {l2 : Int} {l3 : AV} {x0 : Int} : WP m51 142 [.inr (.inl l0), .inr (.inl l1), .inl l2, l3] [.inl x0] σ Q = ((x0 = 0 ∨ x0 = 1) ∧ Q [.inl x0] σ) := w_rz d51_142 rfl
theorem e51 {p0 : Nat} {p1 : Nat} : CA m51 [.inr (.inl p0), .inr (.inl p1)] σ Q = WP m51 0 [.inr (.inl p0), .inr (.inl p1), vU, vU] [] σ Q := rfl
-- BinderPress$Sorter.writeAt(I)V
theorem d52_0 : adec m52 0 = some (.aload_n 0, 1) := by decide +kernel
theorem s52_0 {l0 : Nat} {l1 : Int} {l2 : AV} : WP m52 0 [.inr (.inl l0), .inl l1, l2] [] σ Q = WP m52 1 [.inr (.inl l0), .inl l1, l2] [.inr (.inl l0)] σ Q := w_ld d52_0 rfl
theorem d52_1 : adec m52 1 = some (.iload_n 1, 1) := by decide +kernel
theorem s52_1 {l0 : Nat} {l1 : Int} {l2 : AV} {x0 : Nat} : WP m52 1 [.inr (.inl l0), .inl l1, l2] [.inr (.inl x0)] σ Q = WP m52 2 [.inr (.inl l0), .inl l1, l2] [.inl l1, .inr (.inl x0)] σ Q := w_ld d52_1 rfl
theorem d52_2 : adec m52 2 = some (.invokevirtual 97, 3) := by decide +kernel
theorem s52_2 {l0 : Nat} {l1 : Int} {l2 : AV} {x1 : Int} : WP m52 2 [.inr (.inl l0), .inl l1, l2] [.inl x1, .inr (.inl 108)] σ Q = CA m60 [.inr (.inl 108), .inl x1] σ (fun v σ2 => WP m52 5 [.inr (.inl l0), .inl l1, l2] (v ++ []) σ2 Q) := (w_cV (k := 60) d52_2 (by decide +kernel) m60_at rfl rfl ⟨Nat.le_of_ble_eq_true rfl, Nat.le_of_ble_eq_true rfl, Nat.le_of_ble_eq_true rfl⟩ (by decide)).trans (g_and (isO_dec (by decide +kernel)))
theorem d52_5 : adec m52 5 = some (.ifCond .eq (16), 3) := by decide +kernel
theorem s52_5 {l0 : Nat} {l1 : Int} {l2 : AV} {x0 : Int} : WP m52 5 [.inr (.inl l0), .inl l1, l2] [.inl x0] σ Q = (if x0 = 0 then WP m52 21 [.inr (.inl l0), .inl l1, l2] [] σ Q else WP m52 8 [.inr (.inl l0), .inl l1, l2] [] σ Q) := w_ifeq d52_5 (by decide)
theorem d52_8 : adec m52 8 = some (.aload_n 0, 1) := by decide +kernel
theorem s52_8 {l0 : Nat} {l1 : Int} {l2 : AV} : WP m52 8 [.inr (.inl l0), .inl l1, l2] [] σ Q = WP m52 9 [.inr (.inl l0), .inl l1, l2] [.inr (.inl l0)] σ Q := w_ld d52_8 rfl
theorem d52_9 : adec m52 9 = some (.getfield 38, 3) := by decide +kernel
theorem s52_9 {l0 : Nat} {l1 : Int} {l2 : AV} : WP m52 9 [.inr (.inl l0), .inl l1, l2] [.inr (.inl 108)] σ Q = WP m52 12 [.inr (.inl l0), .inl l1, l2] [.inr (.inl 123)] σ Q := (w_getR (c := 5) (n := 7) d52_9 (by decide +kernel) (by decide +kernel)).trans (g_and ⟨isO_dec (by decide +kernel), by decide +kernel⟩)
theorem d52_12 : adec m52 12 = some (.aload_n 0, 1) := by decide +kernel
theorem s52_12 {l0 : Nat} {l1 : Int} {l2 : AV} {x0 : Nat} : WP m52 12 [.inr (.inl l0), .inl l1, l2] [.inr (.inl x0)] σ Q = WP m52 13 [.inr (.inl l0), .inl l1, l2] [.inr (.inl l0), .inr (.inl x0)] σ Q := w_ld d52_12 rfl
theorem d52_13 : adec m52 13 = some (.iload_n 1, 1) := by decide +kernel
theorem s52_13 {l0 : Nat} {l1 : Int} {l2 : AV} {x0 : Nat} {x1 : Nat} : WP m52 13 [.inr (.inl l0), .inl l1, l2] [.inr (.inl x1), .inr (.inl x0)] σ Q = WP m52 14 [.inr (.inl l0), .inl l1, l2] [.inl l1, .inr (.inl x1), .inr (.inl x0)] σ Q := w_ld d52_13 rfl
theorem d52_14 : adec m52 14 = some (.invokevirtual 101, 3) := by decide +kernel
theorem s52_14 {l0 : Nat} {l1 : Int} {l2 : AV} {x0 : Nat} {x2 : Int} : WP m52 14 [.inr (.inl l0), .inl l1, l2] [.inl x2, .inr (.inl 108), .inr (.inl x0)] σ Q = CA m53 [.inr (.inl 108), .inl x2] σ (fun v σ2 => WP m52 17 [.inr (.inl l0), .inl l1, l2] (v ++ [.inr (.inl x0)]) σ2 Q) := (w_cV (k := 53) d52_14 (by decide +kernel) m53_at rfl rfl ⟨Nat.le_of_ble_eq_true rfl, Nat.le_of_ble_eq_true rfl, Nat.le_of_ble_eq_true rfl⟩ (by decide)).trans (g_and (isO_dec (by decide +kernel)))
theorem d52_17 : adec m52 17 = some (.invokevirtual 85, 3) := by decide +kernel
theorem s52_17 {l0 : Nat} {l1 : Int} {l2 : AV} {x0 : Nat} {x1 : Int} : WP m52 17 [.inr (.inl l0), .inl l1, l2] [.inl x1, .inr (.inl x0)] σ Q = (isO x0 3 ∧ CA m34 [.inr (.inl x0), .inl x1] σ (fun v σ2 => WP m52 20 [.inr (.inl l0), .inl l1, l2] (v ++ []) σ2 Q)) := w_cV (k := 34) d52_17 (by decide +kernel) m34_at rfl rfl ⟨Nat.le_of_ble_eq_true rfl, Nat.le_of_ble_eq_true rfl, Nat.le_of_ble_eq_true rfl⟩ (by decide)
theorem d52_20 : adec m52 20 = some (.return_, 1) := by decide +kernel
theorem s52_20 {l0 : Nat} {l1 : Int} {l2 : AV} : WP m52 20 [.inr (.inl l0), .inl l1, l2] [] σ Q = Q [] σ := w_rv d52_20 rfl
theorem d52_21 : adec m52 21 = some (.aload_n 0, 1) := by decide +kernel
theorem s52_21 {l0 : Nat} {l1 : Int} {l2 : AV} : WP m52 21 [.inr (.inl l0), .inl l1, l2] [] σ Q = WP m52 22 [.inr (.inl l0), .inl l1, l2] [.inr (.inl l0)] σ Q := w_ld d52_21 rfl
theorem d52_22 : adec m52 22 = some (.aload_n 0, 1) := by decide +kernel
theorem s52_22 {l0 : Nat} {l1 : Int} {l2 : AV} {x0 : Nat} : WP m52 22 [.inr (.inl l0), .inl l1, l2] [.inr (.inl x0)] σ Q = WP m52 23 [.inr (.inl l0), .inl l1, l2] [.inr (.inl l0), .inr (.inl x0)] σ Q := w_ld d52_22 rfl
theorem d52_23 : adec m52 23 = some (.aload_n 0, 1) := by decide +kernel
theorem s52_23 {l0 : Nat} {l1 : Int} {l2 : AV} {x0 : Nat} {x1 : Nat} : WP m52 23 [.inr (.inl l0), .inl l1, l2] [.inr (.inl x1), .inr (.inl x0)] σ Q = WP m52 24 [.inr (.inl l0), .inl l1, l2] [.inr (.inl l0), .inr (.inl x1), .inr (.inl x0)] σ Q := w_ld d52_23 rfl
theorem d52_24 : adec m52 24 = some (.getfield 16, 3) := by decide +kernel
theorem s52_24 {l0 : Nat} {l1 : Int} {l2 : AV} {x0 : Nat} {x1 : Nat} : WP m52 24 [.inr (.inl l0), .inl l1, l2] [.inr (.inl 108), .inr (.inl x1), .inr (.inl x0)] σ Q = WP m52 27 [.inr (.inl l0), .inl l1, l2] [.inr (.inl 109), .inr (.inl x1), .inr (.inl x0)] σ Q := (w_getR (c := 5) (n := 0) d52_24 (by decide +kernel) (by decide +kernel)).trans (g_and ⟨isO_dec (by decide +kernel), by decide +kernel⟩)
theorem d52_27 : adec m52 27 = some (.iload_n 1, 1) := by decide +kernel
theorem s52_27 {l0 : Nat} {l1 : Int} {l2 : AV} {x0 : Nat} {x1 : Nat} {x2 : Nat} : WP m52 27 [.inr (.inl l0), .inl l1, l2] [.inr (.inl x2), .inr (.inl x1), .inr (.inl x0)] σ Q = WP m52 28 [.inr (.inl l0), .inl l1, l2] [.inl l1, .inr (.inl x2), .inr (.inl x1), .inr (.inl x0)] σ Q := w_ld d52_27 rfl
theorem d52_28 : adec m52 28 = some (.invokevirtual 62, 3) := by decide +kernel
theorem s52_28 {l0 : Nat} {l1 : Int} {l2 : AV} {x0 : Nat} {x1 : Nat} {x2 : Nat} {x3 : Int} : WP m52 28 [.inr (.inl l0), .inl l1, l2] [.inl x3, .inr (.inl x2), .inr (.inl x1), .inr (.inl x0)] σ Q = (isO x2 3 ∧ CA m30 [.inr (.inl x2), .inl x3] σ (fun v σ2 => WP m52 31 [.inr (.inl l0), .inl l1, l2] (v ++ [.inr (.inl x1), .inr (.inl x0)]) σ2 Q)) := w_cV (k := 30) d52_28 (by decide +kernel) m30_at rfl rfl ⟨Nat.le_of_ble_eq_true rfl, Nat.le_of_ble_eq_true rfl, Nat.le_of_ble_eq_true rfl⟩ (by decide)
theorem d52_31 : adec m52 31 = some (.invokevirtual 91, 3) := by decide +kernel
theorem s52_31 {l0 : Nat} {l1 : Int} {l2 : AV} {x0 : Nat} {x2 : Int} : WP m52 31 [.inr (.inl l0), .inl l1, l2] [.inl x2, .inr (.inl 108), .inr (.inl x0)] σ Q = CA m61 [.inr (.inl 108), .inl x2] σ (fun v σ2 => WP m52 34 [.inr (.inl l0), .inl l1, l2] (v ++ [.inr (.inl x0)]) σ2 Q) := (w_cV (k := 61) d52_31 (by decide +kernel) m61_at rfl rfl ⟨Nat.le_of_ble_eq_true rfl, Nat.le_of_ble_eq_true rfl, Nat.le_of_ble_eq_true rfl⟩ (by decide)).trans (g_and (isO_dec (by decide +kernel)))
theorem d52_34 : adec m52 34 = some (.invokevirtual 97, 3) := by decide +kernel
theorem s52_34 {l0 : Nat} {l1 : Int} {l2 : AV} {x1 : Int} : WP m52 34 [.inr (.inl l0), .inl l1, l2] [.inl x1, .inr (.inl 108)] σ Q = CA m60 [.inr (.inl 108), .inl x1] σ (fun v σ2 => WP m52 37 [.inr (.inl l0), .inl l1, l2] (v ++ []) σ2 Q) := (w_cV (k := 60) d52_34 (by decide +kernel) m60_at rfl rfl ⟨Nat.le_of_ble_eq_true rfl, Nat.le_of_ble_eq_true rfl, Nat.le_of_ble_eq_true rfl⟩ (by decide)).trans (g_and (isO_dec (by decide +kernel)))
theorem d52_37 : adec m52 37 = some (.ifCond .ne (7), 3) := by decide +kernel
theorem s52_37 {l0 : Nat} {l1 : Int} {l2 : AV} {x0 : Int} : WP m52 37 [.inr (.inl l0), .inl l1, l2] [.inl x0] σ Q = (if x0 = 0 then WP m52 40 [.inr (.inl l0), .inl l1, l2] [] σ Q else WP m52 44 [.inr (.inl l0), .inl l1, l2] [] σ Q) := w_ifne d52_37 (by decide)
theorem d52_40 : adec m52 40 = some (.iconst (1), 1) := by decide +kernel
theorem s52_40 {l0 : Nat} {l1 : Int} {l2 : AV} : WP m52 40 [.inr (.inl l0), .inl l1, l2] [] σ Q = WP m52 41 [.inr (.inl l0), .inl l1, l2] [.inl (1)] σ Q := w_iconst d52_40 (by decide)
theorem d52_41 : adec m52 41 = some (.goto (4), 3) := by decide +kernel
theorem s52_41 {l0 : Nat} {l1 : Int} {l2 : AV} {x0 : Int} : WP m52 41 [.inr (.inl l0), .inl l1, l2] [.inl x0] σ Q = WP m52 45 [.inr (.inl l0), .inl l1, l2] [.inl x0] σ Q := w_goto d52_41 (by decide)
theorem d52_44 : adec m52 44 = some (.iconst (0), 1) := by decide +kernel
theorem s52_44 {l0 : Nat} {l1 : Int} {l2 : AV} : WP m52 44 [.inr (.inl l0), .inl l1, l2] [] σ Q = WP m52 45 [.inr (.inl l0), .inl l1, l2] [.inl (0)] σ Q := w_iconst d52_44 (by decide)
theorem d52_45 : adec m52 45 = some (.istore_n 2, 1) := by decide +kernel
theorem s52_45 {l0 : Nat} {l1 : Int} {l2 : AV} {x0 : Int} : WP m52 45 [.inr (.inl l0), .inl l1, l2] [.inl x0] σ Q = WP m52 46 [.inr (.inl l0), .inl l1, .inl x0] [] σ Q := w_st1 (j := 2) d52_45 rfl (Nat.le_of_ble_eq_true rfl) rfl
theorem d52_46 : adec m52 46 = some (.aload_n 0, 1) := by decide +kernel
theorem s52_46 {l0 : Nat} {l1 : Int} {l2 : Int} : WP m52 46 [.inr (.inl l0), .inl l1, .inl l2] [] σ Q = WP m52 47 [.inr (.inl l0), .inl l1, .inl l2] [.inr (.inl l0)] σ Q := w_ld d52_46 rfl
theorem d52_47 : adec m52 47 = some (.getfield 32, 3) := by decide +kernel
theorem s52_47 {l0 : Nat} {l1 : Int} {l2 : Int} : WP m52 47 [.inr (.inl l0), .inl l1, .inl l2] [.inr (.inl 108)] σ Q = WP m52 50 [.inr (.inl l0), .inl l1, .inl l2] [.inr (.inl 119)] σ Q := (w_getR (c := 5) (n := 5) d52_47 (by decide +kernel) (by decide +kernel)).trans (g_and ⟨isO_dec (by decide +kernel), by decide +kernel⟩)
theorem d52_50 : adec m52 50 = some (.aload_n 0, 1) := by decide +kernel
theorem s52_50 {l0 : Nat} {l1 : Int} {l2 : Int} {x0 : Nat} : WP m52 50 [.inr (.inl l0), .inl l1, .inl l2] [.inr (.inl x0)] σ Q = WP m52 51 [.inr (.inl l0), .inl l1, .inl l2] [.inr (.inl l0), .inr (.inl x0)] σ Q := w_ld d52_50 rfl
theorem d52_51 : adec m52 51 = some (.getfield 20, 3) := by decide +kernel
theorem s52_51 {l0 : Nat} {l1 : Int} {l2 : Int} {x0 : Nat} : WP m52 51 [.inr (.inl l0), .inl l1, .inl l2] [.inr (.inl 108), .inr (.inl x0)] σ Q = WP m52 54 [.inr (.inl l0), .inl l1, .inl l2] [.inr (.inl 111), .inr (.inl x0)] σ Q := (w_getR (c := 5) (n := 1) d52_51 (by decide +kernel) (by decide +kernel)).trans (g_and ⟨isO_dec (by decide +kernel), by decide +kernel⟩)
theorem d52_54 : adec m52 54 = some (.iload_n 1, 1) := by decide +kernel
theorem s52_54 {l0 : Nat} {l1 : Int} {l2 : Int} {x0 : Nat} {x1 : Nat} : WP m52 54 [.inr (.inl l0), .inl l1, .inl l2] [.inr (.inl x1), .inr (.inl x0)] σ Q = WP m52 55 [.inr (.inl l0), .inl l1, .inl l2] [.inl l1, .inr (.inl x1), .inr (.inl x0)] σ Q := w_ld d52_54 rfl
theorem d52_55 : adec m52 55 = some (.invokevirtual 62, 3) := by decide +kernel
theorem s52_55 {l0 : Nat} {l1 : Int} {l2 : Int} {x0 : Nat} {x1 : Nat} {x2 : Int} : WP m52 55 [.inr (.inl l0), .inl l1, .inl l2] [.inl x2, .inr (.inl x1), .inr (.inl x0)] σ Q = (isO x1 3 ∧ CA m30 [.inr (.inl x1), .inl x2] σ (fun v σ2 => WP m52 58 [.inr (.inl l0), .inl l1, .inl l2] (v ++ [.inr (.inl x0)]) σ2 Q)) := w_cV (k := 30) d52_55 (by decide +kernel) m30_at rfl rfl ⟨Nat.le_of_ble_eq_true rfl, Nat.le_of_ble_eq_true rfl, Nat.le_of_ble_eq_true rfl⟩ (by decide)
theorem d52_58 : adec m52 58 = some (.invokevirtual 85, 3) := by decide +kernel
theorem s52_58 {l0 : Nat} {l1 : Int} {l2 : Int} {x0 : Nat} {x1 : Int} : WP m52 58 [.inr (.inl l0), .inl l1, .inl l2] [.inl x1, .inr (.inl x0)] σ Q = (isO x0 3 ∧ CA m34 [.inr (.inl x0), .inl x1] σ (fun v σ2 => WP m52 61 [.inr (.inl l0), .inl l1, .inl l2] (v ++ []) σ2 Q)) := w_cV (k := 34) d52_58 (by decide +kernel) m34_at rfl rfl ⟨Nat.le_of_ble_eq_true rfl, Nat.le_of_ble_eq_true rfl, Nat.le_of_ble_eq_true rfl⟩ (by decide)
theorem d52_61 : adec m52 61 = some (.aload_n 0, 1) := by decide +kernel
theorem s52_61 {l0 : Nat} {l1 : Int} {l2 : Int} : WP m52 61 [.inr (.inl l0), .inl l1, .inl l2] [] σ Q = WP m52 62 [.inr (.inl l0), .inl l1, .inl l2] [.inr (.inl l0)] σ Q := w_ld d52_61 rfl
theorem d52_62 : adec m52 62 = some (.getfield 32, 3) := by decide +kernel
theorem s52_62 {l0 : Nat} {l1 : Int} {l2 : Int} : WP m52 62 [.inr (.inl l0), .inl l1, .inl l2] [.inr (.inl 108)] σ Q = WP m52 65 [.inr (.inl l0), .inl l1, .inl l2] [.inr (.inl 119)] σ Q := (w_getR (c := 5) (n := 5) d52_62 (by decide +kernel) (by decide +kernel)).trans (g_and ⟨isO_dec (by decide +kernel), by decide +kernel⟩)
theorem d52_65 : adec m52 65 = some (.bipush (-62), 2) := by decide +kernel
theorem s52_65 {l0 : Nat} {l1 : Int} {l2 : Int} {x0 : Nat} : WP m52 65 [.inr (.inl l0), .inl l1, .inl l2] [.inr (.inl x0)] σ Q = WP m52 67 [.inr (.inl l0), .inl l1, .inl l2] [.inl (-62), .inr (.inl x0)] σ Q := w_bipush d52_65 (by decide)
theorem d52_67 : adec m52 67 = some (.invokevirtual 85, 3) := by decide +kernel
theorem s52_67 {l0 : Nat} {l1 : Int} {l2 : Int} {x0 : Nat} {x1 : Int} : WP m52 67 [.inr (.inl l0), .inl l1, .inl l2] [.inl x1, .inr (.inl x0)] σ Q = (isO x0 3 ∧ CA m34 [.inr (.inl x0), .inl x1] σ (fun v σ2 => WP m52 70 [.inr (.inl l0), .inl l1, .inl l2] (v ++ []) σ2 Q)) := w_cV (k := 34) d52_67 (by decide +kernel) m34_at rfl rfl ⟨Nat.le_of_ble_eq_true rfl, Nat.le_of_ble_eq_true rfl, Nat.le_of_ble_eq_true rfl⟩ (by decide)
theorem d52_70 : adec m52 70 = some (.iload_n 2, 1) := by decide +kernel
theorem s52_70 {l0 : Nat} {l1 : Int} {l2 : Int} : WP m52 70 [.inr (.inl l0), .inl l1, .inl l2] [] σ Q = WP m52 71 [.inr (.inl l0), .inl l1, .inl l2] [.inl l2] σ Q := w_ld d52_70 rfl
theorem d52_71 : adec m52 71 = some (.ifCond .eq (12), 3) := by decide +kernel
theorem s52_71 {l0 : Nat} {l1 : Int} {l2 : Int} {x0 : Int} : WP m52 71 [.inr (.inl l0), .inl l1, .inl l2] [.inl x0] σ Q = (if x0 = 0 then WP m52 83 [.inr (.inl l0), .inl l1, .inl l2] [] σ Q else WP m52 74 [.inr (.inl l0), .inl l1, .inl l2] [] σ Q) := w_ifeq d52_71 (by decide)
theorem d52_74 : adec m52 74 = some (.aload_n 0, 1) := by decide +kernel
theorem s52_74 {l0 : Nat} {l1 : Int} {l2 : Int} : WP m52 74 [.inr (.inl l0), .inl l1, .inl l2] [] σ Q = WP m52 75 [.inr (.inl l0), .inl l1, .inl l2] [.inr (.inl l0)] σ Q := w_ld d52_74 rfl
theorem d52_75 : adec m52 75 = some (.getfield 32, 3) := by decide +kernel
theorem s52_75 {l0 : Nat} {l1 : Int} {l2 : Int} : WP m52 75 [.inr (.inl l0), .inl l1, .inl l2] [.inr (.inl 108)] σ Q = WP m52 78 [.inr (.inl l0), .inl l1, .inl l2] [.inr (.inl 119)] σ Q := (w_getR (c := 5) (n := 5) d52_75 (by decide +kernel) (by decide +kernel)).trans (g_and ⟨isO_dec (by decide +kernel), by decide +kernel⟩)
theorem d52_78 : adec m52 78 = some (.bipush (-41), 2) := by decide +kernel
theorem s52_78 {l0 : Nat} {l1 : Int} {l2 : Int} {x0 : Nat} : WP m52 78 [.inr (.inl l0), .inl l1, .inl l2] [.inr (.inl x0)] σ Q = WP m52 80 [.inr (.inl l0), .inl l1, .inl l2] [.inl (-41), .inr (.inl x0)] σ Q := w_bipush d52_78 (by decide)
theorem d52_80 : adec m52 80 = some (.invokevirtual 85, 3) := by decide +kernel
theorem s52_80 {l0 : Nat} {l1 : Int} {l2 : Int} {x0 : Nat} {x1 : Int} : WP m52 80 [.inr (.inl l0), .inl l1, .inl l2] [.inl x1, .inr (.inl x0)] σ Q = (isO x0 3 ∧ CA m34 [.inr (.inl x0), .inl x1] σ (fun v σ2 => WP m52 83 [.inr (.inl l0), .inl l1, .inl l2] (v ++ []) σ2 Q)) := w_cV (k := 34) d52_80 (by decide +kernel) m34_at rfl rfl ⟨Nat.le_of_ble_eq_true rfl, Nat.le_of_ble_eq_true rfl, Nat.le_of_ble_eq_true rfl⟩ (by decide)
theorem d52_83 : adec m52 83 = some (.aload_n 0, 1) := by decide +kernel
theorem s52_83 {l0 : Nat} {l1 : Int} {l2 : Int} : WP m52 83 [.inr (.inl l0), .inl l1, .inl l2] [] σ Q = WP m52 84 [.inr (.inl l0), .inl l1, .inl l2] [.inr (.inl l0)] σ Q := w_ld d52_83 rfl
theorem d52_84 : adec m52 84 = some (.getfield 32, 3) := by decide +kernel
theorem s52_84 {l0 : Nat} {l1 : Int} {l2 : Int} : WP m52 84 [.inr (.inl l0), .inl l1, .inl l2] [.inr (.inl 108)] σ Q = WP m52 87 [.inr (.inl l0), .inl l1, .inl l2] [.inr (.inl 119)] σ Q := (w_getR (c := 5) (n := 5) d52_84 (by decide +kernel) (by decide +kernel)).trans (g_and ⟨isO_dec (by decide +kernel), by decide +kernel⟩)
theorem d52_87 : adec m52 87 = some (.aload_n 0, 1) := by decide +kernel
theorem s52_87 {l0 : Nat} {l1 : Int} {l2 : Int} {x0 : Nat} : WP m52 87 [.inr (.inl l0), .inl l1, .inl l2] [.inr (.inl x0)] σ Q = WP m52 88 [.inr (.inl l0), .inl l1, .inl l2] [.inr (.inl l0), .inr (.inl x0)] σ Q := w_ld d52_87 rfl
theorem d52_88 : adec m52 88 = some (.getfield 16, 3) := by decide +kernel
theorem s52_88 {l0 : Nat} {l1 : Int} {l2 : Int} {x0 : Nat} : WP m52 88 [.inr (.inl l0), .inl l1, .inl l2] [.inr (.inl 108), .inr (.inl x0)] σ Q = WP m52 91 [.inr (.inl l0), .inl l1, .inl l2] [.inr (.inl 109), .inr (.inl x0)] σ Q := (w_getR (c := 5) (n := 0) d52_88 (by decide +kernel) (by decide +kernel)).trans (g_and ⟨isO_dec (by decide +kernel), by decide +kernel⟩)
theorem d52_91 : adec m52 91 = some (.iload_n 1, 1) := by decide +kernel
theorem s52_91 {l0 : Nat} {l1 : Int} {l2 : Int} {x0 : Nat} {x1 : Nat} : WP m52 91 [.inr (.inl l0), .inl l1, .inl l2] [.inr (.inl x1), .inr (.inl x0)] σ Q = WP m52 92 [.inr (.inl l0), .inl l1, .inl l2] [.inl l1, .inr (.inl x1), .inr (.inl x0)] σ Q := w_ld d52_91 rfl
theorem d52_92 : adec m52 92 = some (.invokevirtual 62, 3) := by decide +kernel
theorem s52_92 {l0 : Nat} {l1 : Int} {l2 : Int} {x0 : Nat} {x1 : Nat} {x2 : Int} : WP m52 92 [.inr (.inl l0), .inl l1, .inl l2] [.inl x2, .inr (.inl x1), .inr (.inl x0)] σ Q = (isO x1 3 ∧ CA m30 [.inr (.inl x1), .inl x2] σ (fun v σ2 => WP m52 95 [.inr (.inl l0), .inl l1, .inl l2] (v ++ [.inr (.inl x0)]) σ2 Q)) := w_cV (k := 30) d52_92 (by decide +kernel) m30_at rfl rfl ⟨Nat.le_of_ble_eq_true rfl, Nat.le_of_ble_eq_true rfl, Nat.le_of_ble_eq_true rfl⟩ (by decide)
theorem d52_95 : adec m52 95 = some (.invokevirtual 85, 3) := by decide +kernel
theorem s52_95 {l0 : Nat} {l1 : Int} {l2 : Int} {x0 : Nat} {x1 : Int} : WP m52 95 [.inr (.inl l0), .inl l1, .inl l2] [.inl x1, .inr (.inl x0)] σ Q = (isO x0 3 ∧ CA m34 [.inr (.inl x0), .inl x1] σ (fun v σ2 => WP m52 98 [.inr (.inl l0), .inl l1, .inl l2] (v ++ []) σ2 Q)) := w_cV (k := 34) d52_95 (by decide +kernel) m34_at rfl rfl ⟨Nat.le_of_ble_eq_true rfl, Nat.le_of_ble_eq_true rfl, Nat.le_of_ble_eq_true rfl⟩ (by decide)
theorem d52_98 : adec m52 98 = some (.iload_n 2, 1) := by decide +kernel
theorem s52_98 {l0 : Nat} {l1 : Int} {l2 : Int} : WP m52 98 [.inr (.inl l0), .inl l1, .inl l2] [] σ Q = WP m52 99 [.inr (.inl l0), .inl l1, .inl l2] [.inl l2] σ Q := w_ld d52_98 rfl
theorem d52_99 : adec m52 99 = some (.ifCond .eq (12), 3) := by decide +kernel
theorem s52_99 {l0 : Nat} {l1 : Int} {l2 : Int} {x0 : Int} : WP m52 99 [.inr (.inl l0), .inl l1, .inl l2] [.inl x0] σ Q = (if x0 = 0 then WP m52 111 [.inr (.inl l0), .inl l1, .inl l2] [] σ Q else WP m52 102 [.inr (.inl l0), .inl l1, .inl l2] [] σ Q) := w_ifeq d52_99 (by decide)
theorem d52_102 : adec m52 102 = some (.aload_n 0, 1) := by decide +kernel
theorem s52_102 {l0 : Nat} {l1 : Int} {l2 : Int} : WP m52 102 [.inr (.inl l0), .inl l1, .inl l2] [] σ Q = WP m52 103 [.inr (.inl l0), .inl l1, .inl l2] [.inr (.inl l0)] σ Q := w_ld d52_102 rfl
theorem d52_103 : adec m52 103 = some (.getfield 32, 3) := by decide +kernel
theorem s52_103 {l0 : Nat} {l1 : Int} {l2 : Int} : WP m52 103 [.inr (.inl l0), .inl l1, .inl l2] [.inr (.inl 108)] σ Q = WP m52 106 [.inr (.inl l0), .inl l1, .inl l2] [.inr (.inl 119)] σ Q := (w_getR (c := 5) (n := 5) d52_103 (by decide +kernel) (by decide +kernel)).trans (g_and ⟨isO_dec (by decide +kernel), by decide +kernel⟩)
theorem d52_106 : adec m52 106 = some (.bipush (-40), 2) := by decide +kernel
theorem s52_106 {l0 : Nat} {l1 : Int} {l2 : Int} {x0 : Nat} : WP m52 106 [.inr (.inl l0), .inl l1, .inl l2] [.inr (.inl x0)] σ Q = WP m52 108 [.inr (.inl l0), .inl l1, .inl l2] [.inl (-40), .inr (.inl x0)] σ Q := w_bipush d52_106 (by decide)
theorem d52_108 : adec m52 108 = some (.invokevirtual 85, 3) := by decide +kernel
theorem s52_108 {l0 : Nat} {l1 : Int} {l2 : Int} {x0 : Nat} {x1 : Int} : WP m52 108 [.inr (.inl l0), .inl l1, .inl l2] [.inl x1, .inr (.inl x0)] σ Q = (isO x0 3 ∧ CA m34 [.inr (.inl x0), .inl x1] σ (fun v σ2 => WP m52 111 [.inr (.inl l0), .inl l1, .inl l2] (v ++ []) σ2 Q)) := w_cV (k := 34) d52_108 (by decide +kernel) m34_at rfl rfl ⟨Nat.le_of_ble_eq_true rfl, Nat.le_of_ble_eq_true rfl, Nat.le_of_ble_eq_true rfl⟩ (by decide)
theorem d52_111 : adec m52 111 = some (.return_, 1) := by decide +kernel
theorem s52_111 {l0 : Nat} {l1 : Int} {l2 : Int} : WP m52 111 [.inr (.inl l0), .inl l1, .inl l2] [] σ Q = Q [] σ := w_rv d52_111 rfl
theorem e52 {p0 : Nat} {p1 : Int} : CA m52 [.inr (.inl p0), .inl p1] σ Q = WP m52 0 [.inr (.inl p0), .inl p1, vU] [] σ Q := rfl
-- BinderPress$Sorter.letterOf(I)I
theorem d53_0 : adec m53 0 = some (.aload_n 0, 1) := by decide +kernel
theorem s53_0 {l0 : Nat} {l1 : Int} : WP m53 0 [.inr (.inl l0), .inl l1] [] σ Q = WP m53 1 [.inr (.inl l0), .inl l1] [.inr (.inl l0)] σ Q := w_ld d53_0 rfl
theorem d53_1 : adec m53 1 = some (.getfield 35, 3) := by decide +kernel
theorem s53_1 {l0 : Nat} {l1 : Int} : WP m53 1 [.inr (.inl l0), .inl l1] [.inr (.inl 108)] σ Q = WP m53 4 [.inr (.inl l0), .inl l1] [.inr (.inl 121)] σ Q := (w_getR (c := 5) (n := 6) d53_1 (by decide +kernel) (by decide +kernel)).trans (g_and ⟨isO_dec (by decide +kernel), by decide +kernel⟩)
theorem d53_4 : adec m53 4 = some (.iload_n 1, 1) := by decide +kernel
theorem s53_4 {l0 : Nat} {l1 : Int} {x0 : Nat} : WP m53 4 [.inr (.inl l0), .inl l1] [.inr (.inl x0)] σ Q = WP m53 5 [.inr (.inl l0), .inl l1] [.inl l1, .inr (.inl x0)] σ Q := w_ld d53_4 rfl
theorem d53_5 : adec m53 5 = some (.invokevirtual 62, 3) := by decide +kernel
theorem s53_5 {l0 : Nat} {l1 : Int} {x0 : Nat} {x1 : Int} : WP m53 5 [.inr (.inl l0), .inl l1] [.inl x1, .inr (.inl x0)] σ Q = (isO x0 3 ∧ CA m30 [.inr (.inl x0), .inl x1] σ (fun v σ2 => WP m53 8 [.inr (.inl l0), .inl l1] (v ++ []) σ2 Q)) := w_cV (k := 30) d53_5 (by decide +kernel) m30_at rfl rfl ⟨Nat.le_of_ble_eq_true rfl, Nat.le_of_ble_eq_true rfl, Nat.le_of_ble_eq_true rfl⟩ (by decide)
theorem d53_8 : adec m53 8 = some (.ifCond .ne (28), 3) := by decide +kernel
theorem s53_8 {l0 : Nat} {l1 : Int} {x0 : Int} : WP m53 8 [.inr (.inl l0), .inl l1] [.inl x0] σ Q = (if x0 = 0 then WP m53 11 [.inr (.inl l0), .inl l1] [] σ Q else WP m53 36 [.inr (.inl l0), .inl l1] [] σ Q) := w_ifne d53_8 (by decide)
theorem d53_11 : adec m53 11 = some (.aload_n 0, 1) := by decide +kernel
theorem s53_11 {l0 : Nat} {l1 : Int} : WP m53 11 [.inr (.inl l0), .inl l1] [] σ Q = WP m53 12 [.inr (.inl l0), .inl l1] [.inr (.inl l0)] σ Q := w_ld d53_11 rfl
theorem d53_12 : adec m53 12 = some (.getfield 35, 3) := by decide +kernel
theorem s53_12 {l0 : Nat} {l1 : Int} : WP m53 12 [.inr (.inl l0), .inl l1] [.inr (.inl 108)] σ Q = WP m53 15 [.inr (.inl l0), .inl l1] [.inr (.inl 121)] σ Q := (w_getR (c := 5) (n := 6) d53_12 (by decide +kernel) (by decide +kernel)).trans (g_and ⟨isO_dec (by decide +kernel), by decide +kernel⟩)
theorem d53_15 : adec m53 15 = some (.iload_n 1, 1) := by decide +kernel
theorem s53_15 {l0 : Nat} {l1 : Int} {x0 : Nat} : WP m53 15 [.inr (.inl l0), .inl l1] [.inr (.inl x0)] σ Q = WP m53 16 [.inr (.inl l0), .inl l1] [.inl l1, .inr (.inl x0)] σ Q := w_ld d53_15 rfl
theorem d53_16 : adec m53 16 = some (.bipush (97), 2) := by decide +kernel
theorem s53_16 {l0 : Nat} {l1 : Int} {x0 : Nat} {x1 : Int} : WP m53 16 [.inr (.inl l0), .inl l1] [.inl x1, .inr (.inl x0)] σ Q = WP m53 18 [.inr (.inl l0), .inl l1] [.inl (97), .inl x1, .inr (.inl x0)] σ Q := w_bipush d53_16 (by decide)
theorem d53_18 : adec m53 18 = some (.aload_n 0, 1) := by decide +kernel
theorem s53_18 {l0 : Nat} {l1 : Int} {x0 : Nat} {x1 : Int} {x2 : Int} : WP m53 18 [.inr (.inl l0), .inl l1] [.inl x2, .inl x1, .inr (.inl x0)] σ Q = WP m53 19 [.inr (.inl l0), .inl l1] [.inr (.inl l0), .inl x2, .inl x1, .inr (.inl x0)] σ Q := w_ld d53_18 rfl
theorem d53_19 : adec m53 19 = some (.getfield 78, 3) := by decide +kernel
theorem s53_19 {l0 : Nat} {l1 : Int} {x0 : Nat} {x1 : Int} {x2 : Int} : WP m53 19 [.inr (.inl l0), .inl l1] [.inr (.inl 108), .inl x2, .inl x1, .inr (.inl x0)] σ Q = WP m53 22 [.inr (.inl l0), .inl l1] [.inl (σ 108 9), .inl x2, .inl x1, .inr (.inl x0)] σ Q := (w_getI (c := 5) (n := 9) d53_19 (by decide +kernel) (by decide +kernel)).trans (g_and (isO_dec (by decide +kernel)))
theorem d53_22 : adec m53 22 = some (.iadd, 1) := by decide +kernel
theorem s53_22 {l0 : Nat} {l1 : Int} {x0 : Nat} {x1 : Int} {x2 : Int} {x3 : Int} : WP m53 22 [.inr (.inl l0), .inl l1] [.inl x3, .inl x2, .inl x1, .inr (.inl x0)] σ Q = (inI (x2 + x3) ∧ WP m53 23 [.inr (.inl l0), .inl l1] [.inl (x2 + x3), .inl x1, .inr (.inl x0)] σ Q) := w_iadd d53_22
theorem d53_23 : adec m53 23 = some (.invokevirtual 104, 3) := by decide +kernel
theorem s53_23 {l0 : Nat} {l1 : Int} {x0 : Nat} {x1 : Int} {x2 : Int} : WP m53 23 [.inr (.inl l0), .inl l1] [.inl x2, .inl x1, .inr (.inl x0)] σ Q = (isO x0 3 ∧ CA m33 [.inr (.inl x0), .inl x1, .inl x2] σ (fun v σ2 => WP m53 26 [.inr (.inl l0), .inl l1] (v ++ []) σ2 Q)) := w_cV (k := 33) d53_23 (by decide +kernel) m33_at rfl rfl ⟨Nat.le_of_ble_eq_true rfl, Nat.le_of_ble_eq_true rfl, Nat.le_of_ble_eq_true rfl⟩ (by decide)
theorem d53_26 : adec m53 26 = some (.aload_n 0, 1) := by decide +kernel
theorem s53_26 {l0 : Nat} {l1 : Int} : WP m53 26 [.inr (.inl l0), .inl l1] [] σ Q = WP m53 27 [.inr (.inl l0), .inl l1] [.inr (.inl l0)] σ Q := w_ld d53_26 rfl
theorem d53_27 : adec m53 27 = some (.dup, 1) := by decide +kernel
theorem s53_27 {l0 : Nat} {l1 : Int} {x0 : Nat} : WP m53 27 [.inr (.inl l0), .inl l1] [.inr (.inl x0)] σ Q = WP m53 28 [.inr (.inl l0), .inl l1] [.inr (.inl x0), .inr (.inl x0)] σ Q := w_ld d53_27 rfl
theorem d53_28 : adec m53 28 = some (.getfield 78, 3) := by decide +kernel
theorem s53_28 {l0 : Nat} {l1 : Int} {x0 : Nat} : WP m53 28 [.inr (.inl l0), .inl l1] [.inr (.inl 108), .inr (.inl x0)] σ Q = WP m53 31 [.inr (.inl l0), .inl l1] [.inl (σ 108 9), .inr (.inl x0)] σ Q := (w_getI (c := 5) (n := 9) d53_28 (by decide +kernel) (by decide +kernel)).trans (g_and (isO_dec (by decide +kernel)))
theorem d53_31 : adec m53 31 = some (.iconst (1), 1) := by decide +kernel
theorem s53_31 {l0 : Nat} {l1 : Int} {x0 : Nat} {x1 : Int} : WP m53 31 [.inr (.inl l0), .inl l1] [.inl x1, .inr (.inl x0)] σ Q = WP m53 32 [.inr (.inl l0), .inl l1] [.inl (1), .inl x1, .inr (.inl x0)] σ Q := w_iconst d53_31 (by decide)
theorem d53_32 : adec m53 32 = some (.iadd, 1) := by decide +kernel
theorem s53_32 {l0 : Nat} {l1 : Int} {x0 : Nat} {x1 : Int} {x2 : Int} : WP m53 32 [.inr (.inl l0), .inl l1] [.inl x2, .inl x1, .inr (.inl x0)] σ Q = (inI (x1 + x2) ∧ WP m53 33 [.inr (.inl l0), .inl l1] [.inl (x1 + x2), .inr (.inl x0)] σ Q) := w_iadd d53_32
theorem d53_33 : adec m53 33 = some (.putfield 78, 3) := by decide +kernel
theorem s53_33 {l0 : Nat} {l1 : Int} {x1 : Int} : WP m53 33 [.inr (.inl l0), .inl l1] [.inl x1, .inr (.inl 108)] σ Q = WP m53 36 [.inr (.inl l0), .inl l1] [] (aup σ 108 9 x1) Q := (w_putI (c := 5) (n := 9) d53_33 (by decide +kernel) (by decide +kernel) (by decide +kernel)).trans (g_and (isO_dec (by decide +kernel)))
theorem d53_36 : adec m53 36 = some (.aload_n 0, 1) := by decide +kernel
theorem s53_36 {l0 : Nat} {l1 : Int} : WP m53 36 [.inr (.inl l0), .inl l1] [] σ Q = WP m53 37 [.inr (.inl l0), .inl l1] [.inr (.inl l0)] σ Q := w_ld d53_36 rfl
theorem d53_37 : adec m53 37 = some (.getfield 35, 3) := by decide +kernel
theorem s53_37 {l0 : Nat} {l1 : Int} : WP m53 37 [.inr (.inl l0), .inl l1] [.inr (.inl 108)] σ Q = WP m53 40 [.inr (.inl l0), .inl l1] [.inr (.inl 121)] σ Q := (w_getR (c := 5) (n := 6) d53_37 (by decide +kernel) (by decide +kernel)).trans (g_and ⟨isO_dec (by decide +kernel), by decide +kernel⟩)
theorem d53_40 : adec m53 40 = some (.iload_n 1, 1) := by decide +kernel
theorem s53_40 {l0 : Nat} {l1 : Int} {x0 : Nat} : WP m53 40 [.inr (.inl l0), .inl l1] [.inr (.inl x0)] σ Q = WP m53 41 [.inr (.inl l0), .inl l1] [.inl l1, .inr (.inl x0)] σ Q := w_ld d53_40 rfl
theorem d53_41 : adec m53 41 = some (.invokevirtual 62, 3) := by decide +kernel
theorem s53_41 {l0 : Nat} {l1 : Int} {x0 : Nat} {x1 : Int} : WP m53 41 [.inr (.inl l0), .inl l1] [.inl x1, .inr (.inl x0)] σ Q = (isO x0 3 ∧ CA m30 [.inr (.inl x0), .inl x1] σ (fun v σ2 => WP m53 44 [.inr (.inl l0), .inl l1] (v ++ []) σ2 Q)) := w_cV (k := 30) d53_41 (by decide +kernel) m30_at rfl rfl ⟨Nat.le_of_ble_eq_true rfl, Nat.le_of_ble_eq_true rfl, Nat.le_of_ble_eq_true rfl⟩ (by decide)
theorem d53_44 : adec m53 44 = some (.ireturn, 1) := by decide +kernel
theorem s53_44 {l0 : Nat} {l1 : Int} {x0 : Int} : WP m53 44 [.inr (.inl l0), .inl l1] [.inl x0] σ Q = Q [.inl x0] σ := w_ri d53_44 rfl
theorem e53 {p0 : Nat} {p1 : Int} : CA m53 [.inr (.inl p0), .inl p1] σ Q = WP m53 0 [.inr (.inl p0), .inl p1] [] σ Q := rfl
-- BinderPress$Sorter.giveNamesKinds(LBinderPress$Row;)V
theorem d54_0 : adec m54 0 = some (.aload_n 0, 1) := by decide +kernel
theorem s54_0 {l0 : Nat} {l1 : Nat} {l2 : AV} {l3 : AV} : WP m54 0 [.inr (.inl l0), .inr (.inl l1), l2, l3] [] σ Q = WP m54 1 [.inr (.inl l0), .inr (.inl l1), l2, l3] [.inr (.inl l0)] σ Q := w_ld d54_0 rfl
theorem d54_1 : adec m54 1 = some (.getfield 26, 3) := by decide +kernel
theorem s54_1 {l0 : Nat} {l1 : Nat} {l2 : AV} {l3 : AV} : WP m54 1 [.inr (.inl l0), .inr (.inl l1), l2, l3] [.inr (.inl 108)] σ Q = WP m54 4 [.inr (.inl l0), .inr (.inl l1), l2, l3] [.inr (.inl 115)] σ Q := (w_getR (c := 5) (n := 3) d54_1 (by decide +kernel) (by decide +kernel)).trans (g_and ⟨isO_dec (by decide +kernel), by decide +kernel⟩)
theorem d54_4 : adec m54 4 = some (.invokevirtual 52, 3) := by decide +kernel
theorem s54_4 {l0 : Nat} {l1 : Nat} {l2 : AV} {l3 : AV} {x0 : Nat} : WP m54 4 [.inr (.inl l0), .inr (.inl l1), l2, l3] [.inr (.inl x0)] σ Q = (isO x0 3 ∧ CA m29 [.inr (.inl x0)] σ (fun v σ2 => WP m54 7 [.inr (.inl l0), .inr (.inl l1), l2, l3] (v ++ []) σ2 Q)) := w_cV (k := 29) d54_4 (by decide +kernel) m29_at rfl rfl ⟨Nat.le_of_ble_eq_true rfl, Nat.le_of_ble_eq_true rfl, Nat.le_of_ble_eq_true rfl⟩ (by decide)
theorem d54_7 : adec m54 7 = some (.aload_n 0, 1) := by decide +kernel
theorem s54_7 {l0 : Nat} {l1 : Nat} {l2 : AV} {l3 : AV} : WP m54 7 [.inr (.inl l0), .inr (.inl l1), l2, l3] [] σ Q = WP m54 8 [.inr (.inl l0), .inr (.inl l1), l2, l3] [.inr (.inl l0)] σ Q := w_ld d54_7 rfl
theorem d54_8 : adec m54 8 = some (.getfield 29, 3) := by decide +kernel
theorem s54_8 {l0 : Nat} {l1 : Nat} {l2 : AV} {l3 : AV} : WP m54 8 [.inr (.inl l0), .inr (.inl l1), l2, l3] [.inr (.inl 108)] σ Q = WP m54 11 [.inr (.inl l0), .inr (.inl l1), l2, l3] [.inr (.inl 117)] σ Q := (w_getR (c := 5) (n := 4) d54_8 (by decide +kernel) (by decide +kernel)).trans (g_and ⟨isO_dec (by decide +kernel), by decide +kernel⟩)
theorem d54_11 : adec m54 11 = some (.bipush (26), 2) := by decide +kernel
theorem s54_11 {l0 : Nat} {l1 : Nat} {l2 : AV} {l3 : AV} {x0 : Nat} : WP m54 11 [.inr (.inl l0), .inr (.inl l1), l2, l3] [.inr (.inl x0)] σ Q = WP m54 13 [.inr (.inl l0), .inr (.inl l1), l2, l3] [.inl (26), .inr (.inl x0)] σ Q := w_bipush d54_11 (by decide)
theorem d54_13 : adec m54 13 = some (.iconst (-1), 1) := by decide +kernel
theorem s54_13 {l0 : Nat} {l1 : Nat} {l2 : AV} {l3 : AV} {x0 : Nat} {x1 : Int} : WP m54 13 [.inr (.inl l0), .inr (.inl l1), l2, l3] [.inl x1, .inr (.inl x0)] σ Q = WP m54 14 [.inr (.inl l0), .inr (.inl l1), l2, l3] [.inl (-1), .inl x1, .inr (.inl x0)] σ Q := w_iconst d54_13 (by decide)
theorem d54_14 : adec m54 14 = some (.invokevirtual 82, 3) := by decide +kernel
theorem s54_14 {l0 : Nat} {l1 : Nat} {l2 : AV} {l3 : AV} {x0 : Nat} {x1 : Int} {x2 : Int} : WP m54 14 [.inr (.inl l0), .inr (.inl l1), l2, l3] [.inl x2, .inl x1, .inr (.inl x0)] σ Q = (isO x0 3 ∧ CA m37 [.inr (.inl x0), .inl x1, .inl x2] σ (fun v σ2 => WP m54 17 [.inr (.inl l0), .inr (.inl l1), l2, l3] (v ++ []) σ2 Q)) := w_cV (k := 37) d54_14 (by decide +kernel) m37_at rfl rfl ⟨Nat.le_of_ble_eq_true rfl, Nat.le_of_ble_eq_true rfl, Nat.le_of_ble_eq_true rfl⟩ (by decide)
theorem d54_17 : adec m54 17 = some (.iconst (0), 1) := by decide +kernel
theorem s54_17 {l0 : Nat} {l1 : Nat} {l2 : AV} {l3 : AV} : WP m54 17 [.inr (.inl l0), .inr (.inl l1), l2, l3] [] σ Q = WP m54 18 [.inr (.inl l0), .inr (.inl l1), l2, l3] [.inl (0)] σ Q := w_iconst d54_17 (by decide)
theorem d54_18 : adec m54 18 = some (.istore_n 2, 1) := by decide +kernel
theorem s54_18 {l0 : Nat} {l1 : Nat} {l2 : AV} {l3 : AV} {x0 : Int} : WP m54 18 [.inr (.inl l0), .inr (.inl l1), l2, l3] [.inl x0] σ Q = WP m54 19 [.inr (.inl l0), .inr (.inl l1), .inl x0, l3] [] σ Q := w_st1 (j := 2) d54_18 rfl (Nat.le_of_ble_eq_true rfl) rfl
theorem d54_19 : adec m54 19 = some (.iload_n 2, 1) := by decide +kernel
theorem s54_19 {l0 : Nat} {l1 : Nat} {l2 : Int} {l3 : AV} : WP m54 19 [.inr (.inl l0), .inr (.inl l1), .inl l2, l3] [] σ Q = WP m54 20 [.inr (.inl l0), .inr (.inl l1), .inl l2, l3] [.inl l2] σ Q := w_ld d54_19 rfl
theorem d54_20 : adec m54 20 = some (.aload_n 1, 1) := by decide +kernel
theorem s54_20 {l0 : Nat} {l1 : Nat} {l2 : Int} {l3 : AV} {x0 : Int} : WP m54 20 [.inr (.inl l0), .inr (.inl l1), .inl l2, l3] [.inl x0] σ Q = WP m54 21 [.inr (.inl l0), .inr (.inl l1), .inl l2, l3] [.inr (.inl l1), .inl x0] σ Q := w_ld d54_20 rfl
theorem d54_21 : adec m54 21 = some (.invokevirtual 58, 3) := by decide +kernel
theorem s54_21 {l0 : Nat} {l1 : Nat} {l2 : Int} {l3 : AV} {x0 : Int} {x1 : Nat} : WP m54 21 [.inr (.inl l0), .inr (.inl l1), .inl l2, l3] [.inr (.inl x1), .inl x0] σ Q = (isO x1 3 ∧ CA m28 [.inr (.inl x1)] σ (fun v σ2 => WP m54 24 [.inr (.inl l0), .inr (.inl l1), .inl l2, l3] (v ++ [.inl x0]) σ2 Q)) := w_cV (k := 28) d54_21 (by decide +kernel) m28_at rfl rfl ⟨Nat.le_of_ble_eq_true rfl, Nat.le_of_ble_eq_true rfl, Nat.le_of_ble_eq_true rfl⟩ (by decide)
theorem d54_24 : adec m54 24 = some (.if_icmp .ge (60), 3) := by decide +kernel
theorem s54_24 {l0 : Nat} {l1 : Nat} {l2 : Int} {l3 : AV} {x0 : Int} {x1 : Int} : WP m54 24 [.inr (.inl l0), .inr (.inl l1), .inl l2, l3] [.inl x1, .inl x0] σ Q = (if x1 ≤ x0 then WP m54 84 [.inr (.inl l0), .inr (.inl l1), .inl l2, l3] [] σ Q else WP m54 27 [.inr (.inl l0), .inr (.inl l1), .inl l2, l3] [] σ Q) := w_icge d54_24 (by decide)
theorem d54_27 : adec m54 27 = some (.aload_n 1, 1) := by decide +kernel
theorem s54_27 {l0 : Nat} {l1 : Nat} {l2 : Int} {l3 : AV} : WP m54 27 [.inr (.inl l0), .inr (.inl l1), .inl l2, l3] [] σ Q = WP m54 28 [.inr (.inl l0), .inr (.inl l1), .inl l2, l3] [.inr (.inl l1)] σ Q := w_ld d54_27 rfl
theorem d54_28 : adec m54 28 = some (.iload_n 2, 1) := by decide +kernel
theorem s54_28 {l0 : Nat} {l1 : Nat} {l2 : Int} {l3 : AV} {x0 : Nat} : WP m54 28 [.inr (.inl l0), .inr (.inl l1), .inl l2, l3] [.inr (.inl x0)] σ Q = WP m54 29 [.inr (.inl l0), .inr (.inl l1), .inl l2, l3] [.inl l2, .inr (.inl x0)] σ Q := w_ld d54_28 rfl
theorem d54_29 : adec m54 29 = some (.invokevirtual 62, 3) := by decide +kernel
theorem s54_29 {l0 : Nat} {l1 : Nat} {l2 : Int} {l3 : AV} {x0 : Nat} {x1 : Int} : WP m54 29 [.inr (.inl l0), .inr (.inl l1), .inl l2, l3] [.inl x1, .inr (.inl x0)] σ Q = (isO x0 3 ∧ CA m30 [.inr (.inl x0), .inl x1] σ (fun v σ2 => WP m54 32 [.inr (.inl l0), .inr (.inl l1), .inl l2, l3] (v ++ []) σ2 Q)) := w_cV (k := 30) d54_29 (by decide +kernel) m30_at rfl rfl ⟨Nat.le_of_ble_eq_true rfl, Nat.le_of_ble_eq_true rfl, Nat.le_of_ble_eq_true rfl⟩ (by decide)
theorem d54_32 : adec m54 32 = some (.istore_n 3, 1) := by decide +kernel
theorem s54_32 {l0 : Nat} {l1 : Nat} {l2 : Int} {l3 : AV} {x0 : Int} : WP m54 32 [.inr (.inl l0), .inr (.inl l1), .inl l2, l3] [.inl x0] σ Q = WP m54 33 [.inr (.inl l0), .inr (.inl l1), .inl l2, .inl x0] [] σ Q := w_st1 (j := 3) d54_32 rfl (Nat.le_of_ble_eq_true rfl) rfl
theorem d54_33 : adec m54 33 = some (.iload_n 3, 1) := by decide +kernel
theorem s54_33 {l0 : Nat} {l1 : Nat} {l2 : Int} {l3 : Int} : WP m54 33 [.inr (.inl l0), .inr (.inl l1), .inl l2, .inl l3] [] σ Q = WP m54 34 [.inr (.inl l0), .inr (.inl l1), .inl l2, .inl l3] [.inl l3] σ Q := w_ld d54_33 rfl
theorem d54_34 : adec m54 34 = some (.invokestatic 107, 3) := by decide +kernel
theorem s54_34 {l0 : Nat} {l1 : Nat} {l2 : Int} {l3 : Int} {x0 : Int} : WP m54 34 [.inr (.inl l0), .inr (.inl l1), .inl l2, .inl l3] [.inl x0] σ Q = CA m117 [.inl x0] σ (fun v σ2 => WP m54 37 [.inr (.inl l0), .inr (.inl l1), .inl l2, .inl l3] (v ++ []) σ2 Q) := w_cS (k := 117) d54_34 (by decide +kernel) (md := 2) (by decide +kernel) m117_at rfl rfl ⟨Nat.le_of_ble_eq_true rfl, Nat.le_of_ble_eq_true rfl, Nat.le_of_ble_eq_true rfl⟩ (by decide)
theorem d54_37 : adec m54 37 = some (.ifCond .eq (17), 3) := by decide +kernel
theorem s54_37 {l0 : Nat} {l1 : Nat} {l2 : Int} {l3 : Int} {x0 : Int} : WP m54 37 [.inr (.inl l0), .inr (.inl l1), .inl l2, .inl l3] [.inl x0] σ Q = (if x0 = 0 then WP m54 54 [.inr (.inl l0), .inr (.inl l1), .inl l2, .inl l3] [] σ Q else WP m54 40 [.inr (.inl l0), .inr (.inl l1), .inl l2, .inl l3] [] σ Q) := w_ifeq d54_37 (by decide)
theorem d54_40 : adec m54 40 = some (.aload_n 0, 1) := by decide +kernel
theorem s54_40 {l0 : Nat} {l1 : Nat} {l2 : Int} {l3 : Int} : WP m54 40 [.inr (.inl l0), .inr (.inl l1), .inl l2, .inl l3] [] σ Q = WP m54 41 [.inr (.inl l0), .inr (.inl l1), .inl l2, .inl l3] [.inr (.inl l0)] σ Q := w_ld d54_40 rfl
theorem d54_41 : adec m54 41 = some (.getfield 26, 3) := by decide +kernel
theorem s54_41 {l0 : Nat} {l1 : Nat} {l2 : Int} {l3 : Int} : WP m54 41 [.inr (.inl l0), .inr (.inl l1), .inl l2, .inl l3] [.inr (.inl 108)] σ Q = WP m54 44 [.inr (.inl l0), .inr (.inl l1), .inl l2, .inl l3] [.inr (.inl 115)] σ Q := (w_getR (c := 5) (n := 3) d54_41 (by decide +kernel) (by decide +kernel)).trans (g_and ⟨isO_dec (by decide +kernel), by decide +kernel⟩)
theorem d54_44 : adec m54 44 = some (.aload_n 0, 1) := by decide +kernel
theorem s54_44 {l0 : Nat} {l1 : Nat} {l2 : Int} {l3 : Int} {x0 : Nat} : WP m54 44 [.inr (.inl l0), .inr (.inl l1), .inl l2, .inl l3] [.inr (.inl x0)] σ Q = WP m54 45 [.inr (.inl l0), .inr (.inl l1), .inl l2, .inl l3] [.inr (.inl l0), .inr (.inl x0)] σ Q := w_ld d54_44 rfl
theorem d54_45 : adec m54 45 = some (.invokevirtual 110, 3) := by decide +kernel
theorem s54_45 {l0 : Nat} {l1 : Nat} {l2 : Int} {l3 : Int} {x0 : Nat} : WP m54 45 [.inr (.inl l0), .inr (.inl l1), .inl l2, .inl l3] [.inr (.inl 108), .inr (.inl x0)] σ Q = CA m58 [.inr (.inl 108)] σ (fun v σ2 => WP m54 48 [.inr (.inl l0), .inr (.inl l1), .inl l2, .inl l3] (v ++ [.inr (.inl x0)]) σ2 Q) := (w_cV (k := 58) d54_45 (by decide +kernel) m58_at rfl rfl ⟨Nat.le_of_ble_eq_true rfl, Nat.le_of_ble_eq_true rfl, Nat.le_of_ble_eq_true rfl⟩ (by decide)).trans (g_and (isO_dec (by decide +kernel)))
theorem d54_48 : adec m54 48 = some (.invokevirtual 85, 3) := by decide +kernel
theorem s54_48 {l0 : Nat} {l1 : Nat} {l2 : Int} {l3 : Int} {x0 : Nat} {x1 : Int} : WP m54 48 [.inr (.inl l0), .inr (.inl l1), .inl l2, .inl l3] [.inl x1, .inr (.inl x0)] σ Q = (isO x0 3 ∧ CA m34 [.inr (.inl x0), .inl x1] σ (fun v σ2 => WP m54 51 [.inr (.inl l0), .inr (.inl l1), .inl l2, .inl l3] (v ++ []) σ2 Q)) := w_cV (k := 34) d54_48 (by decide +kernel) m34_at rfl rfl ⟨Nat.le_of_ble_eq_true rfl, Nat.le_of_ble_eq_true rfl, Nat.le_of_ble_eq_true rfl⟩ (by decide)
theorem d54_51 : adec m54 51 = some (.goto (27), 3) := by decide +kernel
theorem s54_51 {l0 : Nat} {l1 : Nat} {l2 : Int} {l3 : Int} : WP m54 51 [.inr (.inl l0), .inr (.inl l1), .inl l2, .inl l3] [] σ Q = WP m54 78 [.inr (.inl l0), .inr (.inl l1), .inl l2, .inl l3] [] σ Q := w_goto d54_51 (by decide)
theorem d54_54 : adec m54 54 = some (.aload_n 0, 1) := by decide +kernel
theorem s54_54 {l0 : Nat} {l1 : Nat} {l2 : Int} {l3 : Int} : WP m54 54 [.inr (.inl l0), .inr (.inl l1), .inl l2, .inl l3] [] σ Q = WP m54 55 [.inr (.inl l0), .inr (.inl l1), .inl l2, .inl l3] [.inr (.inl l0)] σ Q := w_ld d54_54 rfl
theorem d54_55 : adec m54 55 = some (.getfield 26, 3) := by decide +kernel
theorem s54_55 {l0 : Nat} {l1 : Nat} {l2 : Int} {l3 : Int} : WP m54 55 [.inr (.inl l0), .inr (.inl l1), .inl l2, .inl l3] [.inr (.inl 108)] σ Q = WP m54 58 [.inr (.inl l0), .inr (.inl l1), .inl l2, .inl l3] [.inr (.inl 115)] σ Q := (w_getR (c := 5) (n := 3) d54_55 (by decide +kernel) (by decide +kernel)).trans (g_and ⟨isO_dec (by decide +kernel), by decide +kernel⟩)
theorem d54_58 : adec m54 58 = some (.iload_n 3, 1) := by decide +kernel
theorem s54_58 {l0 : Nat} {l1 : Nat} {l2 : Int} {l3 : Int} {x0 : Nat} : WP m54 58 [.inr (.inl l0), .inr (.inl l1), .inl l2, .inl l3] [.inr (.inl x0)] σ Q = WP m54 59 [.inr (.inl l0), .inr (.inl l1), .inl l2, .inl l3] [.inl l3, .inr (.inl x0)] σ Q := w_ld d54_58 rfl
theorem d54_59 : adec m54 59 = some (.invokestatic 113, 3) := by decide +kernel
theorem s54_59 {l0 : Nat} {l1 : Nat} {l2 : Int} {l3 : Int} {x0 : Nat} {x1 : Int} : WP m54 59 [.inr (.inl l0), .inr (.inl l1), .inl l2, .inl l3] [.inl x1, .inr (.inl x0)] σ Q = CA m116 [.inl x1] σ (fun v σ2 => WP m54 62 [.inr (.inl l0), .inr (.inl l1), .inl l2, .inl l3] (v ++ [.inr (.inl x0)]) σ2 Q) := w_cS (k := 116) d54_59 (by decide +kernel) (md := 2) (by decide +kernel) m116_at rfl rfl ⟨Nat.le_of_ble_eq_true rfl, Nat.le_of_ble_eq_true rfl, Nat.le_of_ble_eq_true rfl⟩ (by decide)
theorem d54_62 : adec m54 62 = some (.ifCond .eq (12), 3) := by decide +kernel
theorem s54_62 {l0 : Nat} {l1 : Nat} {l2 : Int} {l3 : Int} {x0 : Nat} {x1 : Int} : WP m54 62 [.inr (.inl l0), .inr (.inl l1), .inl l2, .inl l3] [.inl x1, .inr (.inl x0)] σ Q = (if x1 = 0 then WP m54 74 [.inr (.inl l0), .inr (.inl l1), .inl l2, .inl l3] [.inr (.inl x0)] σ Q else WP m54 65 [.inr (.inl l0), .inr (.inl l1), .inl l2, .inl l3] [.inr (.inl x0)] σ Q) := w_ifeq d54_62 (by decide)
theorem d54_65 : adec m54 65 = some (.aload_n 0, 1) := by decide +kernel
theorem s54_65 {l0 : Nat} {l1 : Nat} {l2 : Int} {l3 : Int} {x0 : Nat} : WP m54 65 [.inr (.inl l0), .inr (.inl l1), .inl l2, .inl l3] [.inr (.inl x0)] σ Q = WP m54 66 [.inr (.inl l0), .inr (.inl l1), .inl l2, .inl l3] [.inr (.inl l0), .inr (.inl x0)] σ Q := w_ld d54_65 rfl
theorem d54_66 : adec m54 66 = some (.aload_n 1, 1) := by decide +kernel
theorem s54_66 {l0 : Nat} {l1 : Nat} {l2 : Int} {l3 : Int} {x0 : Nat} {x1 : Nat} : WP m54 66 [.inr (.inl l0), .inr (.inl l1), .inl l2, .inl l3] [.inr (.inl x1), .inr (.inl x0)] σ Q = WP m54 67 [.inr (.inl l0), .inr (.inl l1), .inl l2, .inl l3] [.inr (.inl l1), .inr (.inl x1), .inr (.inl x0)] σ Q := w_ld d54_66 rfl
theorem d54_67 : adec m54 67 = some (.iload_n 2, 1) := by decide +kernel
theorem s54_67 {l0 : Nat} {l1 : Nat} {l2 : Int} {l3 : Int} {x0 : Nat} {x1 : Nat} {x2 : Nat} : WP m54 67 [.inr (.inl l0), .inr (.inl l1), .inl l2, .inl l3] [.inr (.inl x2), .inr (.inl x1), .inr (.inl x0)] σ Q = WP m54 68 [.inr (.inl l0), .inr (.inl l1), .inl l2, .inl l3] [.inl l2, .inr (.inl x2), .inr (.inl x1), .inr (.inl x0)] σ Q := w_ld d54_67 rfl
theorem d54_68 : adec m54 68 = some (.invokevirtual 116, 3) := by decide +kernel
theorem s54_68 {l0 : Nat} {l1 : Nat} {l2 : Int} {l3 : Int} {x0 : Nat} {x2 : Nat} {x3 : Int} : WP m54 68 [.inr (.inl l0), .inr (.inl l1), .inl l2, .inl l3] [.inl x3, .inr (.inl x2), .inr (.inl 108), .inr (.inl x0)] σ Q = CA m55 [.inr (.inl 108), .inr (.inl x2), .inl x3] σ (fun v σ2 => WP m54 71 [.inr (.inl l0), .inr (.inl l1), .inl l2, .inl l3] (v ++ [.inr (.inl x0)]) σ2 Q) := (w_cV (k := 55) d54_68 (by decide +kernel) m55_at rfl rfl ⟨Nat.le_of_ble_eq_true rfl, Nat.le_of_ble_eq_true rfl, Nat.le_of_ble_eq_true rfl⟩ (by decide)).trans (g_and (isO_dec (by decide +kernel)))
theorem d54_71 : adec m54 71 = some (.goto (4), 3) := by decide +kernel
theorem s54_71 {l0 : Nat} {l1 : Nat} {l2 : Int} {l3 : Int} {x0 : Nat} {x1 : Int} : WP m54 71 [.inr (.inl l0), .inr (.inl l1), .inl l2, .inl l3] [.inl x1, .inr (.inl x0)] σ Q = WP m54 75 [.inr (.inl l0), .inr (.inl l1), .inl l2, .inl l3] [.inl x1, .inr (.inl x0)] σ Q := w_goto d54_71 (by decide)
theorem d54_74 : adec m54 74 = some (.iconst (-1), 1) := by decide +kernel
theorem s54_74 {l0 : Nat} {l1 : Nat} {l2 : Int} {l3 : Int} {x0 : Nat} : WP m54 74 [.inr (.inl l0), .inr (.inl l1), .inl l2, .inl l3] [.inr (.inl x0)] σ Q = WP m54 75 [.inr (.inl l0), .inr (.inl l1), .inl l2, .inl l3] [.inl (-1), .inr (.inl x0)] σ Q := w_iconst d54_74 (by decide)
theorem d54_75 : adec m54 75 = some (.invokevirtual 85, 3) := by decide +kernel
theorem s54_75 {l0 : Nat} {l1 : Nat} {l2 : Int} {l3 : Int} {x0 : Nat} {x1 : Int} : WP m54 75 [.inr (.inl l0), .inr (.inl l1), .inl l2, .inl l3] [.inl x1, .inr (.inl x0)] σ Q = (isO x0 3 ∧ CA m34 [.inr (.inl x0), .inl x1] σ (fun v σ2 => WP m54 78 [.inr (.inl l0), .inr (.inl l1), .inl l2, .inl l3] (v ++ []) σ2 Q)) := w_cV (k := 34) d54_75 (by decide +kernel) m34_at rfl rfl ⟨Nat.le_of_ble_eq_true rfl, Nat.le_of_ble_eq_true rfl, Nat.le_of_ble_eq_true rfl⟩ (by decide)
theorem d54_78 : adec m54 78 = some (.iinc 2 (1), 3) := by decide +kernel
theorem s54_78 {l0 : Nat} {l1 : Nat} {l2 : Int} {l3 : Int} : WP m54 78 [.inr (.inl l0), .inr (.inl l1), .inl l2, .inl l3] [] σ Q = (inI (l2 + (1)) ∧ WP m54 81 [.inr (.inl l0), .inr (.inl l1), .inl (l2 + (1)), .inl l3] [] σ Q) := w_iinc d54_78 rfl rfl
theorem d54_81 : adec m54 81 = some (.goto (-62), 3) := by decide +kernel
theorem s54_81 {l0 : Nat} {l1 : Nat} {l2 : Int} {l3 : Int} : WP m54 81 [.inr (.inl l0), .inr (.inl l1), .inl l2, .inl l3] [] σ Q = WP m54 19 [.inr (.inl l0), .inr (.inl l1), .inl l2, .inl l3] [] σ Q := w_goto d54_81 (by decide)
theorem d54_84 : adec m54 84 = some (.return_, 1) := by decide +kernel
theorem s54_84 {l0 : Nat} {l1 : Nat} {l2 : Int} {l3 : AV} : WP m54 84 [.inr (.inl l0), .inr (.inl l1), .inl l2, l3] [] σ Q = Q [] σ := w_rv d54_84 rfl
theorem e54 {p0 : Nat} {p1 : Nat} : CA m54 [.inr (.inl p0), .inr (.inl p1)] σ Q = WP m54 0 [.inr (.inl p0), .inr (.inl p1), vU, vU] [] σ Q := rfl
-- BinderPress$Sorter.nameKind(LBinderPress$Row;I)I
theorem d55_0 : adec m55 0 = some (.aload_n 1, 1) := by decide +kernel
theorem s55_0 {l0 : Nat} {l1 : Nat} {l2 : Int} {l3 : AV} {l4 : AV} : WP m55 0 [.inr (.inl l0), .inr (.inl l1), .inl l2, l3, l4] [] σ Q = WP m55 1 [.inr (.inl l0), .inr (.inl l1), .inl l2, l3, l4] [.inr (.inl l1)] σ Q := w_ld d55_0 rfl
theorem d55_1 : adec m55 1 = some (.iload_n 2, 1) := by decide +kernel
theorem s55_1 {l0 : Nat} {l1 : Nat} {l2 : Int} {l3 : AV} {l4 : AV} {x0 : Nat} : WP m55 1 [.inr (.inl l0), .inr (.inl l1), .inl l2, l3, l4] [.inr (.inl x0)] σ Q = WP m55 2 [.inr (.inl l0), .inr (.inl l1), .inl l2, l3, l4] [.inl l2, .inr (.inl x0)] σ Q := w_ld d55_1 rfl
theorem d55_2 : adec m55 2 = some (.invokevirtual 62, 3) := by decide +kernel
theorem s55_2 {l0 : Nat} {l1 : Nat} {l2 : Int} {l3 : AV} {l4 : AV} {x0 : Nat} {x1 : Int} : WP m55 2 [.inr (.inl l0), .inr (.inl l1), .inl l2, l3, l4] [.inl x1, .inr (.inl x0)] σ Q = (isO x0 3 ∧ CA m30 [.inr (.inl x0), .inl x1] σ (fun v σ2 => WP m55 5 [.inr (.inl l0), .inr (.inl l1), .inl l2, l3, l4] (v ++ []) σ2 Q)) := w_cV (k := 30) d55_2 (by decide +kernel) m30_at rfl rfl ⟨Nat.le_of_ble_eq_true rfl, Nat.le_of_ble_eq_true rfl, Nat.le_of_ble_eq_true rfl⟩ (by decide)
theorem d55_5 : adec m55 5 = some (.istore_n 3, 1) := by decide +kernel
theorem s55_5 {l0 : Nat} {l1 : Nat} {l2 : Int} {l3 : AV} {l4 : AV} {x0 : Int} : WP m55 5 [.inr (.inl l0), .inr (.inl l1), .inl l2, l3, l4] [.inl x0] σ Q = WP m55 6 [.inr (.inl l0), .inr (.inl l1), .inl l2, .inl x0, l4] [] σ Q := w_st1 (j := 3) d55_5 rfl (Nat.le_of_ble_eq_true rfl) rfl
theorem d55_6 : adec m55 6 = some (.iload_n 2, 1) := by decide +kernel
theorem s55_6 {l0 : Nat} {l1 : Nat} {l2 : Int} {l3 : Int} {l4 : AV} : WP m55 6 [.inr (.inl l0), .inr (.inl l1), .inl l2, .inl l3, l4] [] σ Q = WP m55 7 [.inr (.inl l0), .inr (.inl l1), .inl l2, .inl l3, l4] [.inl l2] σ Q := w_ld d55_6 rfl
theorem d55_7 : adec m55 7 = some (.iconst (1), 1) := by decide +kernel
theorem s55_7 {l0 : Nat} {l1 : Nat} {l2 : Int} {l3 : Int} {l4 : AV} {x0 : Int} : WP m55 7 [.inr (.inl l0), .inr (.inl l1), .inl l2, .inl l3, l4] [.inl x0] σ Q = WP m55 8 [.inr (.inl l0), .inr (.inl l1), .inl l2, .inl l3, l4] [.inl (1), .inl x0] σ Q := w_iconst d55_7 (by decide)
theorem d55_8 : adec m55 8 = some (.isub, 1) := by decide +kernel
theorem s55_8 {l0 : Nat} {l1 : Nat} {l2 : Int} {l3 : Int} {l4 : AV} {x0 : Int} {x1 : Int} : WP m55 8 [.inr (.inl l0), .inr (.inl l1), .inl l2, .inl l3, l4] [.inl x1, .inl x0] σ Q = (inI (x0 - x1) ∧ WP m55 9 [.inr (.inl l0), .inr (.inl l1), .inl l2, .inl l3, l4] [.inl (x0 - x1)] σ Q) := w_isub d55_8
theorem d55_9 : adec m55 9 = some (.istore 4, 2) := by decide +kernel
theorem s55_9 {l0 : Nat} {l1 : Nat} {l2 : Int} {l3 : Int} {l4 : AV} {x0 : Int} : WP m55 9 [.inr (.inl l0), .inr (.inl l1), .inl l2, .inl l3, l4] [.inl x0] σ Q = WP m55 11 [.inr (.inl l0), .inr (.inl l1), .inl l2, .inl l3, .inl x0] [] σ Q := w_st1 (j := 4) d55_9 rfl (Nat.le_of_ble_eq_true rfl) rfl
theorem d55_11 : adec m55 11 = some (.iload 4, 2) := by decide +kernel
theorem s55_11 {l0 : Nat} {l1 : Nat} {l2 : Int} {l3 : Int} {l4 : Int} : WP m55 11 [.inr (.inl l0), .inr (.inl l1), .inl l2, .inl l3, .inl l4] [] σ Q = WP m55 13 [.inr (.inl l0), .inr (.inl l1), .inl l2, .inl l3, .inl l4] [.inl l4] σ Q := w_ld d55_11 rfl
theorem d55_13 : adec m55 13 = some (.ifCond .lt (46), 3) := by decide +kernel
theorem s55_13 {l0 : Nat} {l1 : Nat} {l2 : Int} {l3 : Int} {l4 : Int} {x0 : Int} : WP m55 13 [.inr (.inl l0), .inr (.inl l1), .inl l2, .inl l3, .inl l4] [.inl x0] σ Q = (if x0 < 0 then WP m55 59 [.inr (.inl l0), .inr (.inl l1), .inl l2, .inl l3, .inl l4] [] σ Q else WP m55 16 [.inr (.inl l0), .inr (.inl l1), .inl l2, .inl l3, .inl l4] [] σ Q) := w_iflt d55_13 (by decide)
theorem d55_16 : adec m55 16 = some (.aload_n 1, 1) := by decide +kernel
theorem s55_16 {l0 : Nat} {l1 : Nat} {l2 : Int} {l3 : Int} {l4 : Int} : WP m55 16 [.inr (.inl l0), .inr (.inl l1), .inl l2, .inl l3, .inl l4] [] σ Q = WP m55 17 [.inr (.inl l0), .inr (.inl l1), .inl l2, .inl l3, .inl l4] [.inr (.inl l1)] σ Q := w_ld d55_16 rfl
theorem d55_17 : adec m55 17 = some (.iload 4, 2) := by decide +kernel
theorem s55_17 {l0 : Nat} {l1 : Nat} {l2 : Int} {l3 : Int} {l4 : Int} {x0 : Nat} : WP m55 17 [.inr (.inl l0), .inr (.inl l1), .inl l2, .inl l3, .inl l4] [.inr (.inl x0)] σ Q = WP m55 19 [.inr (.inl l0), .inr (.inl l1), .inl l2, .inl l3, .inl l4] [.inl l4, .inr (.inl x0)] σ Q := w_ld d55_17 rfl
theorem d55_19 : adec m55 19 = some (.invokevirtual 62, 3) := by decide +kernel
theorem s55_19 {l0 : Nat} {l1 : Nat} {l2 : Int} {l3 : Int} {l4 : Int} {x0 : Nat} {x1 : Int} : WP m55 19 [.inr (.inl l0), .inr (.inl l1), .inl l2, .inl l3, .inl l4] [.inl x1, .inr (.inl x0)] σ Q = (isO x0 3 ∧ CA m30 [.inr (.inl x0), .inl x1] σ (fun v σ2 => WP m55 22 [.inr (.inl l0), .inr (.inl l1), .inl l2, .inl l3, .inl l4] (v ++ []) σ2 Q)) := w_cV (k := 30) d55_19 (by decide +kernel) m30_at rfl rfl ⟨Nat.le_of_ble_eq_true rfl, Nat.le_of_ble_eq_true rfl, Nat.le_of_ble_eq_true rfl⟩ (by decide)
theorem d55_22 : adec m55 22 = some (.sipush (1000), 3) := by decide +kernel
theorem s55_22 {l0 : Nat} {l1 : Nat} {l2 : Int} {l3 : Int} {l4 : Int} {x0 : Int} : WP m55 22 [.inr (.inl l0), .inr (.inl l1), .inl l2, .inl l3, .inl l4] [.inl x0] σ Q = WP m55 25 [.inr (.inl l0), .inr (.inl l1), .inl l2, .inl l3, .inl l4] [.inl (1000), .inl x0] σ Q := w_sipush d55_22 (by decide)
theorem d55_25 : adec m55 25 = some (.iload_n 3, 1) := by decide +kernel
theorem s55_25 {l0 : Nat} {l1 : Nat} {l2 : Int} {l3 : Int} {l4 : Int} {x0 : Int} {x1 : Int} : WP m55 25 [.inr (.inl l0), .inr (.inl l1), .inl l2, .inl l3, .inl l4] [.inl x1, .inl x0] σ Q = WP m55 26 [.inr (.inl l0), .inr (.inl l1), .inl l2, .inl l3, .inl l4] [.inl l3, .inl x1, .inl x0] σ Q := w_ld d55_25 rfl
theorem d55_26 : adec m55 26 = some (.iadd, 1) := by decide +kernel
theorem s55_26 {l0 : Nat} {l1 : Nat} {l2 : Int} {l3 : Int} {l4 : Int} {x0 : Int} {x1 : Int} {x2 : Int} : WP m55 26 [.inr (.inl l0), .inr (.inl l1), .inl l2, .inl l3, .inl l4] [.inl x2, .inl x1, .inl x0] σ Q = (inI (x1 + x2) ∧ WP m55 27 [.inr (.inl l0), .inr (.inl l1), .inl l2, .inl l3, .inl l4] [.inl (x1 + x2), .inl x0] σ Q) := w_iadd d55_26
theorem d55_27 : adec m55 27 = some (.if_icmp .ne (26), 3) := by decide +kernel
theorem s55_27 {l0 : Nat} {l1 : Nat} {l2 : Int} {l3 : Int} {l4 : Int} {x0 : Int} {x1 : Int} : WP m55 27 [.inr (.inl l0), .inr (.inl l1), .inl l2, .inl l3, .inl l4] [.inl x1, .inl x0] σ Q = (if x0 = x1 then WP m55 30 [.inr (.inl l0), .inr (.inl l1), .inl l2, .inl l3, .inl l4] [] σ Q else WP m55 53 [.inr (.inl l0), .inr (.inl l1), .inl l2, .inl l3, .inl l4] [] σ Q) := w_icne d55_27 (by decide)
theorem d55_30 : adec m55 30 = some (.aload_n 0, 1) := by decide +kernel
theorem s55_30 {l0 : Nat} {l1 : Nat} {l2 : Int} {l3 : Int} {l4 : Int} : WP m55 30 [.inr (.inl l0), .inr (.inl l1), .inl l2, .inl l3, .inl l4] [] σ Q = WP m55 31 [.inr (.inl l0), .inr (.inl l1), .inl l2, .inl l3, .inl l4] [.inr (.inl l0)] σ Q := w_ld d55_30 rfl
theorem d55_31 : adec m55 31 = some (.getfield 44, 3) := by decide +kernel
theorem s55_31 {l0 : Nat} {l1 : Nat} {l2 : Int} {l3 : Int} {l4 : Int} : WP m55 31 [.inr (.inl l0), .inr (.inl l1), .inl l2, .inl l3, .inl l4] [.inr (.inl 108)] σ Q = WP m55 34 [.inr (.inl l0), .inr (.inl l1), .inl l2, .inl l3, .inl l4] [.inr (.inl 125)] σ Q := (w_getR (c := 5) (n := 8) d55_31 (by decide +kernel) (by decide +kernel)).trans (g_and ⟨isO_dec (by decide +kernel), by decide +kernel⟩)
theorem d55_34 : adec m55 34 = some (.iload 4, 2) := by decide +kernel
theorem s55_34 {l0 : Nat} {l1 : Nat} {l2 : Int} {l3 : Int} {l4 : Int} {x0 : Nat} : WP m55 34 [.inr (.inl l0), .inr (.inl l1), .inl l2, .inl l3, .inl l4] [.inr (.inl x0)] σ Q = WP m55 36 [.inr (.inl l0), .inr (.inl l1), .inl l2, .inl l3, .inl l4] [.inl l4, .inr (.inl x0)] σ Q := w_ld d55_34 rfl
theorem d55_36 : adec m55 36 = some (.invokevirtual 120, 3) := by decide +kernel
theorem s55_36 {l0 : Nat} {l1 : Nat} {l2 : Int} {l3 : Int} {l4 : Int} {x0 : Nat} {x1 : Int} : WP m55 36 [.inr (.inl l0), .inr (.inl l1), .inl l2, .inl l3, .inl l4] [.inl x1, .inr (.inl x0)] σ Q = (isO x0 6 ∧ CA m68 [.inr (.inl x0), .inl x1] σ (fun v σ2 => WP m55 39 [.inr (.inl l0), .inr (.inl l1), .inl l2, .inl l3, .inl l4] (v ++ []) σ2 Q)) := w_cV (k := 68) d55_36 (by decide +kernel) m68_at rfl rfl ⟨Nat.le_of_ble_eq_true rfl, Nat.le_of_ble_eq_true rfl, Nat.le_of_ble_eq_true rfl⟩ (by decide)
theorem d55_39 : adec m55 39 = some (.iload_n 2, 1) := by decide +kernel
theorem s55_39 {l0 : Nat} {l1 : Nat} {l2 : Int} {l3 : Int} {l4 : Int} {x0 : Int} : WP m55 39 [.inr (.inl l0), .inr (.inl l1), .inl l2, .inl l3, .inl l4] [.inl x0] σ Q = WP m55 40 [.inr (.inl l0), .inr (.inl l1), .inl l2, .inl l3, .inl l4] [.inl l2, .inl x0] σ Q := w_ld d55_39 rfl
theorem d55_40 : adec m55 40 = some (.if_icmp .le (13), 3) := by decide +kernel
theorem s55_40 {l0 : Nat} {l1 : Nat} {l2 : Int} {l3 : Int} {l4 : Int} {x0 : Int} {x1 : Int} : WP m55 40 [.inr (.inl l0), .inr (.inl l1), .inl l2, .inl l3, .inl l4] [.inl x1, .inl x0] σ Q = (if x0 ≤ x1 then WP m55 53 [.inr (.inl l0), .inr (.inl l1), .inl l2, .inl l3, .inl l4] [] σ Q else WP m55 43 [.inr (.inl l0), .inr (.inl l1), .inl l2, .inl l3, .inl l4] [] σ Q) := w_icle d55_40 (by decide)
theorem d55_43 : adec m55 43 = some (.aload_n 0, 1) := by decide +kernel
theorem s55_43 {l0 : Nat} {l1 : Nat} {l2 : Int} {l3 : Int} {l4 : Int} : WP m55 43 [.inr (.inl l0), .inr (.inl l1), .inl l2, .inl l3, .inl l4] [] σ Q = WP m55 44 [.inr (.inl l0), .inr (.inl l1), .inl l2, .inl l3, .inl l4] [.inr (.inl l0)] σ Q := w_ld d55_43 rfl
theorem d55_44 : adec m55 44 = some (.getfield 26, 3) := by decide +kernel
theorem s55_44 {l0 : Nat} {l1 : Nat} {l2 : Int} {l3 : Int} {l4 : Int} : WP m55 44 [.inr (.inl l0), .inr (.inl l1), .inl l2, .inl l3, .inl l4] [.inr (.inl 108)] σ Q = WP m55 47 [.inr (.inl l0), .inr (.inl l1), .inl l2, .inl l3, .inl l4] [.inr (.inl 115)] σ Q := (w_getR (c := 5) (n := 3) d55_44 (by decide +kernel) (by decide +kernel)).trans (g_and ⟨isO_dec (by decide +kernel), by decide +kernel⟩)
theorem d55_47 : adec m55 47 = some (.iload 4, 2) := by decide +kernel
theorem s55_47 {l0 : Nat} {l1 : Nat} {l2 : Int} {l3 : Int} {l4 : Int} {x0 : Nat} : WP m55 47 [.inr (.inl l0), .inr (.inl l1), .inl l2, .inl l3, .inl l4] [.inr (.inl x0)] σ Q = WP m55 49 [.inr (.inl l0), .inr (.inl l1), .inl l2, .inl l3, .inl l4] [.inl l4, .inr (.inl x0)] σ Q := w_ld d55_47 rfl
theorem d55_49 : adec m55 49 = some (.invokevirtual 62, 3) := by decide +kernel
theorem s55_49 {l0 : Nat} {l1 : Nat} {l2 : Int} {l3 : Int} {l4 : Int} {x0 : Nat} {x1 : Int} : WP m55 49 [.inr (.inl l0), .inr (.inl l1), .inl l2, .inl l3, .inl l4] [.inl x1, .inr (.inl x0)] σ Q = (isO x0 3 ∧ CA m30 [.inr (.inl x0), .inl x1] σ (fun v σ2 => WP m55 52 [.inr (.inl l0), .inr (.inl l1), .inl l2, .inl l3, .inl l4] (v ++ []) σ2 Q)) := w_cV (k := 30) d55_49 (by decide +kernel) m30_at rfl rfl ⟨Nat.le_of_ble_eq_true rfl, Nat.le_of_ble_eq_true rfl, Nat.le_of_ble_eq_true rfl⟩ (by decide)
theorem d55_52 : adec m55 52 = some (.ireturn, 1) := by decide +kernel
theorem s55_52 {l0 : Nat} {l1 : Nat} {l2 : Int} {l3 : Int} {l4 : Int} {x0 : Int} : WP m55 52 [.inr (.inl l0), .inr (.inl l1), .inl l2, .inl l3, .inl l4] [.inl x0] σ Q = Q [.inl x0] σ := w_ri d55_52 rfl
theorem d55_53 : adec m55 53 = some (.iinc 4 (-1), 3) := by decide +kernel
theorem s55_53 {l0 : Nat} {l1 : Nat} {l2 : Int} {l3 : Int} {l4 : Int} : WP m55 53 [.inr (.inl l0), .inr (.inl l1), .inl l2, .inl l3, .inl l4] [] σ Q = (inI (l4 + (-1)) ∧ WP m55 56 [.inr (.inl l0), .inr (.inl l1), .inl l2, .inl l3, .inl (l4 + (-1))] [] σ Q) := w_iinc d55_53 rfl rfl
theorem d55_56 : adec m55 56 = some (.goto (-45), 3) := by decide +kernel
theorem s55_56 {l0 : Nat} {l1 : Nat} {l2 : Int} {l3 : Int} {l4 : Int} : WP m55 56 [.inr (.inl l0), .inr (.inl l1), .inl l2, .inl l3, .inl l4] [] σ Q = WP m55 11 [.inr (.inl l0), .inr (.inl l1), .inl l2, .inl l3, .inl l4] [] σ Q := w_goto d55_56 (by decide)
theorem d55_59 : adec m55 59 = some (.iload_n 3, 1) := by decide +kernel
theorem s55_59 {l0 : Nat} {l1 : Nat} {l2 : Int} {l3 : Int} {l4 : Int} : WP m55 59 [.inr (.inl l0), .inr (.inl l1), .inl l2, .inl l3, .inl l4] [] σ Q = WP m55 60 [.inr (.inl l0), .inr (.inl l1), .inl l2, .inl l3, .inl l4] [.inl l3] σ Q := w_ld d55_59 rfl
theorem d55_60 : adec m55 60 = some (.bipush (97), 2) := by decide +kernel
theorem s55_60 {l0 : Nat} {l1 : Nat} {l2 : Int} {l3 : Int} {l4 : Int} {x0 : Int} : WP m55 60 [.inr (.inl l0), .inr (.inl l1), .inl l2, .inl l3, .inl l4] [.inl x0] σ Q = WP m55 62 [.inr (.inl l0), .inr (.inl l1), .inl l2, .inl l3, .inl l4] [.inl (97), .inl x0] σ Q := w_bipush d55_60 (by decide)
theorem d55_62 : adec m55 62 = some (.isub, 1) := by decide +kernel
theorem s55_62 {l0 : Nat} {l1 : Nat} {l2 : Int} {l3 : Int} {l4 : Int} {x0 : Int} {x1 : Int} : WP m55 62 [.inr (.inl l0), .inr (.inl l1), .inl l2, .inl l3, .inl l4] [.inl x1, .inl x0] σ Q = (inI (x0 - x1) ∧ WP m55 63 [.inr (.inl l0), .inr (.inl l1), .inl l2, .inl l3, .inl l4] [.inl (x0 - x1)] σ Q) := w_isub d55_62
theorem d55_63 : adec m55 63 = some (.istore 4, 2) := by decide +kernel
theorem s55_63 {l0 : Nat} {l1 : Nat} {l2 : Int} {l3 : Int} {l4 : Int} {x0 : Int} : WP m55 63 [.inr (.inl l0), .inr (.inl l1), .inl l2, .inl l3, .inl l4] [.inl x0] σ Q = WP m55 65 [.inr (.inl l0), .inr (.inl l1), .inl l2, .inl l3, .inl x0] [] σ Q := w_st1 (j := 4) d55_63 rfl (Nat.le_of_ble_eq_true rfl) rfl
theorem d55_65 : adec m55 65 = some (.aload_n 0, 1) := by decide +kernel
theorem s55_65 {l0 : Nat} {l1 : Nat} {l2 : Int} {l3 : Int} {l4 : Int} : WP m55 65 [.inr (.inl l0), .inr (.inl l1), .inl l2, .inl l3, .inl l4] [] σ Q = WP m55 66 [.inr (.inl l0), .inr (.inl l1), .inl l2, .inl l3, .inl l4] [.inr (.inl l0)] σ Q := w_ld d55_65 rfl
theorem d55_66 : adec m55 66 = some (.getfield 29, 3) := by decide +kernel
theorem s55_66 {l0 : Nat} {l1 : Nat} {l2 : Int} {l3 : Int} {l4 : Int} : WP m55 66 [.inr (.inl l0), .inr (.inl l1), .inl l2, .inl l3, .inl l4] [.inr (.inl 108)] σ Q = WP m55 69 [.inr (.inl l0), .inr (.inl l1), .inl l2, .inl l3, .inl l4] [.inr (.inl 117)] σ Q := (w_getR (c := 5) (n := 4) d55_66 (by decide +kernel) (by decide +kernel)).trans (g_and ⟨isO_dec (by decide +kernel), by decide +kernel⟩)
theorem d55_69 : adec m55 69 = some (.iload 4, 2) := by decide +kernel
theorem s55_69 {l0 : Nat} {l1 : Nat} {l2 : Int} {l3 : Int} {l4 : Int} {x0 : Nat} : WP m55 69 [.inr (.inl l0), .inr (.inl l1), .inl l2, .inl l3, .inl l4] [.inr (.inl x0)] σ Q = WP m55 71 [.inr (.inl l0), .inr (.inl l1), .inl l2, .inl l3, .inl l4] [.inl l4, .inr (.inl x0)] σ Q := w_ld d55_69 rfl
theorem d55_71 : adec m55 71 = some (.invokevirtual 62, 3) := by decide +kernel
theorem s55_71 {l0 : Nat} {l1 : Nat} {l2 : Int} {l3 : Int} {l4 : Int} {x0 : Nat} {x1 : Int} : WP m55 71 [.inr (.inl l0), .inr (.inl l1), .inl l2, .inl l3, .inl l4] [.inl x1, .inr (.inl x0)] σ Q = (isO x0 3 ∧ CA m30 [.inr (.inl x0), .inl x1] σ (fun v σ2 => WP m55 74 [.inr (.inl l0), .inr (.inl l1), .inl l2, .inl l3, .inl l4] (v ++ []) σ2 Q)) := w_cV (k := 30) d55_71 (by decide +kernel) m30_at rfl rfl ⟨Nat.le_of_ble_eq_true rfl, Nat.le_of_ble_eq_true rfl, Nat.le_of_ble_eq_true rfl⟩ (by decide)
theorem d55_74 : adec m55 74 = some (.iconst (-1), 1) := by decide +kernel
theorem s55_74 {l0 : Nat} {l1 : Nat} {l2 : Int} {l3 : Int} {l4 : Int} {x0 : Int} : WP m55 74 [.inr (.inl l0), .inr (.inl l1), .inl l2, .inl l3, .inl l4] [.inl x0] σ Q = WP m55 75 [.inr (.inl l0), .inr (.inl l1), .inl l2, .inl l3, .inl l4] [.inl (-1), .inl x0] σ Q := w_iconst d55_74 (by decide)
theorem d55_75 : adec m55 75 = some (.if_icmp .ne (16), 3) := by decide +kernel
theorem s55_75 {l0 : Nat} {l1 : Nat} {l2 : Int} {l3 : Int} {l4 : Int} {x0 : Int} {x1 : Int} : WP m55 75 [.inr (.inl l0), .inr (.inl l1), .inl l2, .inl l3, .inl l4] [.inl x1, .inl x0] σ Q = (if x0 = x1 then WP m55 78 [.inr (.inl l0), .inr (.inl l1), .inl l2, .inl l3, .inl l4] [] σ Q else WP m55 91 [.inr (.inl l0), .inr (.inl l1), .inl l2, .inl l3, .inl l4] [] σ Q) := w_icne d55_75 (by decide)
theorem d55_78 : adec m55 78 = some (.aload_n 0, 1) := by decide +kernel
theorem s55_78 {l0 : Nat} {l1 : Nat} {l2 : Int} {l3 : Int} {l4 : Int} : WP m55 78 [.inr (.inl l0), .inr (.inl l1), .inl l2, .inl l3, .inl l4] [] σ Q = WP m55 79 [.inr (.inl l0), .inr (.inl l1), .inl l2, .inl l3, .inl l4] [.inr (.inl l0)] σ Q := w_ld d55_78 rfl
theorem d55_79 : adec m55 79 = some (.getfield 29, 3) := by decide +kernel
theorem s55_79 {l0 : Nat} {l1 : Nat} {l2 : Int} {l3 : Int} {l4 : Int} : WP m55 79 [.inr (.inl l0), .inr (.inl l1), .inl l2, .inl l3, .inl l4] [.inr (.inl 108)] σ Q = WP m55 82 [.inr (.inl l0), .inr (.inl l1), .inl l2, .inl l3, .inl l4] [.inr (.inl 117)] σ Q := (w_getR (c := 5) (n := 4) d55_79 (by decide +kernel) (by decide +kernel)).trans (g_and ⟨isO_dec (by decide +kernel), by decide +kernel⟩)
theorem d55_82 : adec m55 82 = some (.iload 4, 2) := by decide +kernel
theorem s55_82 {l0 : Nat} {l1 : Nat} {l2 : Int} {l3 : Int} {l4 : Int} {x0 : Nat} : WP m55 82 [.inr (.inl l0), .inr (.inl l1), .inl l2, .inl l3, .inl l4] [.inr (.inl x0)] σ Q = WP m55 84 [.inr (.inl l0), .inr (.inl l1), .inl l2, .inl l3, .inl l4] [.inl l4, .inr (.inl x0)] σ Q := w_ld d55_82 rfl
theorem d55_84 : adec m55 84 = some (.aload_n 0, 1) := by decide +kernel
theorem s55_84 {l0 : Nat} {l1 : Nat} {l2 : Int} {l3 : Int} {l4 : Int} {x0 : Nat} {x1 : Int} : WP m55 84 [.inr (.inl l0), .inr (.inl l1), .inl l2, .inl l3, .inl l4] [.inl x1, .inr (.inl x0)] σ Q = WP m55 85 [.inr (.inl l0), .inr (.inl l1), .inl l2, .inl l3, .inl l4] [.inr (.inl l0), .inl x1, .inr (.inl x0)] σ Q := w_ld d55_84 rfl
theorem d55_85 : adec m55 85 = some (.invokevirtual 110, 3) := by decide +kernel
theorem s55_85 {l0 : Nat} {l1 : Nat} {l2 : Int} {l3 : Int} {l4 : Int} {x0 : Nat} {x1 : Int} : WP m55 85 [.inr (.inl l0), .inr (.inl l1), .inl l2, .inl l3, .inl l4] [.inr (.inl 108), .inl x1, .inr (.inl x0)] σ Q = CA m58 [.inr (.inl 108)] σ (fun v σ2 => WP m55 88 [.inr (.inl l0), .inr (.inl l1), .inl l2, .inl l3, .inl l4] (v ++ [.inl x1, .inr (.inl x0)]) σ2 Q) := (w_cV (k := 58) d55_85 (by decide +kernel) m58_at rfl rfl ⟨Nat.le_of_ble_eq_true rfl, Nat.le_of_ble_eq_true rfl, Nat.le_of_ble_eq_true rfl⟩ (by decide)).trans (g_and (isO_dec (by decide +kernel)))
theorem d55_88 : adec m55 88 = some (.invokevirtual 104, 3) := by decide +kernel
theorem s55_88 {l0 : Nat} {l1 : Nat} {l2 : Int} {l3 : Int} {l4 : Int} {x0 : Nat} {x1 : Int} {x2 : Int} : WP m55 88 [.inr (.inl l0), .inr (.inl l1), .inl l2, .inl l3, .inl l4] [.inl x2, .inl x1, .inr (.inl x0)] σ Q = (isO x0 3 ∧ CA m33 [.inr (.inl x0), .inl x1, .inl x2] σ (fun v σ2 => WP m55 91 [.inr (.inl l0), .inr (.inl l1), .inl l2, .inl l3, .inl l4] (v ++ []) σ2 Q)) := w_cV (k := 33) d55_88 (by decide +kernel) m33_at rfl rfl ⟨Nat.le_of_ble_eq_true rfl, Nat.le_of_ble_eq_true rfl, Nat.le_of_ble_eq_true rfl⟩ (by decide)
theorem d55_91 : adec m55 91 = some (.aload_n 0, 1) := by decide +kernel
theorem s55_91 {l0 : Nat} {l1 : Nat} {l2 : Int} {l3 : Int} {l4 : Int} : WP m55 91 [.inr (.inl l0), .inr (.inl l1), .inl l2, .inl l3, .inl l4] [] σ Q = WP m55 92 [.inr (.inl l0), .inr (.inl l1), .inl l2, .inl l3, .inl l4] [.inr (.inl l0)] σ Q := w_ld d55_91 rfl
theorem d55_92 : adec m55 92 = some (.getfield 29, 3) := by decide +kernel
theorem s55_92 {l0 : Nat} {l1 : Nat} {l2 : Int} {l3 : Int} {l4 : Int} : WP m55 92 [.inr (.inl l0), .inr (.inl l1), .inl l2, .inl l3, .inl l4] [.inr (.inl 108)] σ Q = WP m55 95 [.inr (.inl l0), .inr (.inl l1), .inl l2, .inl l3, .inl l4] [.inr (.inl 117)] σ Q := (w_getR (c := 5) (n := 4) d55_92 (by decide +kernel) (by decide +kernel)).trans (g_and ⟨isO_dec (by decide +kernel), by decide +kernel⟩)
theorem d55_95 : adec m55 95 = some (.iload 4, 2) := by decide +kernel
theorem s55_95 {l0 : Nat} {l1 : Nat} {l2 : Int} {l3 : Int} {l4 : Int} {x0 : Nat} : WP m55 95 [.inr (.inl l0), .inr (.inl l1), .inl l2, .inl l3, .inl l4] [.inr (.inl x0)] σ Q = WP m55 97 [.inr (.inl l0), .inr (.inl l1), .inl l2, .inl l3, .inl l4] [.inl l4, .inr (.inl x0)] σ Q := w_ld d55_95 rfl
theorem d55_97 : adec m55 97 = some (.invokevirtual 62, 3) := by decide +kernel
theorem s55_97 {l0 : Nat} {l1 : Nat} {l2 : Int} {l3 : Int} {l4 : Int} {x0 : Nat} {x1 : Int} : WP m55 97 [.inr (.inl l0), .inr (.inl l1), .inl l2, .inl l3, .inl l4] [.inl x1, .inr (.inl x0)] σ Q = (isO x0 3 ∧ CA m30 [.inr (.inl x0), .inl x1] σ (fun v σ2 => WP m55 100 [.inr (.inl l0), .inr (.inl l1), .inl l2, .inl l3, .inl l4] (v ++ []) σ2 Q)) := w_cV (k := 30) d55_97 (by decide +kernel) m30_at rfl rfl ⟨Nat.le_of_ble_eq_true rfl, Nat.le_of_ble_eq_true rfl, Nat.le_of_ble_eq_true rfl⟩ (by decide)
theorem d55_100 : adec m55 100 = some (.ireturn, 1) := by decide +kernel
theorem s55_100 {l0 : Nat} {l1 : Nat} {l2 : Int} {l3 : Int} {l4 : Int} {x0 : Int} : WP m55 100 [.inr (.inl l0), .inr (.inl l1), .inl l2, .inl l3, .inl l4] [.inl x0] σ Q = Q [.inl x0] σ := w_ri d55_100 rfl
theorem e55 {p0 : Nat} {p1 : Nat} {p2 : Int} : CA m55 [.inr (.inl p0), .inr (.inl p1), .inl p2] σ Q = WP m55 0 [.inr (.inl p0), .inr (.inl p1), .inl p2, vU, vU] [] σ Q := rfl
-- BinderPress$Sorter.giveKind(II)V
theorem d56_0 : adec m56 0 = some (.iload_n 1, 1) := by decide +kernel
theorem s56_0 {l0 : Nat} {l1 : Int} {l2 : Int} {l3 : AV} {l4 : AV} : WP m56 0 [.inr (.inl l0), .inl l1, .inl l2, l3, l4] [] σ Q = WP m56 1 [.inr (.inl l0), .inl l1, .inl l2, l3, l4] [.inl l1] σ Q := w_ld d56_0 rfl
theorem d56_1 : adec m56 1 = some (.iconst (1), 1) := by decide +kernel
theorem s56_1 {l0 : Nat} {l1 : Int} {l2 : Int} {l3 : AV} {l4 : AV} {x0 : Int} : WP m56 1 [.inr (.inl l0), .inl l1, .inl l2, l3, l4] [.inl x0] σ Q = WP m56 2 [.inr (.inl l0), .inl l1, .inl l2, l3, l4] [.inl (1), .inl x0] σ Q := w_iconst d56_1 (by decide)
theorem d56_2 : adec m56 2 = some (.if_icmp .ne (60), 3) := by decide +kernel
theorem s56_2 {l0 : Nat} {l1 : Int} {l2 : Int} {l3 : AV} {l4 : AV} {x0 : Int} {x1 : Int} : WP m56 2 [.inr (.inl l0), .inl l1, .inl l2, l3, l4] [.inl x1, .inl x0] σ Q = (if x0 = x1 then WP m56 5 [.inr (.inl l0), .inl l1, .inl l2, l3, l4] [] σ Q else WP m56 62 [.inr (.inl l0), .inl l1, .inl l2, l3, l4] [] σ Q) := w_icne d56_2 (by decide)
theorem d56_5 : adec m56 5 = some (.aload_n 0, 1) := by decide +kernel
theorem s56_5 {l0 : Nat} {l1 : Int} {l2 : Int} {l3 : AV} {l4 : AV} : WP m56 5 [.inr (.inl l0), .inl l1, .inl l2, l3, l4] [] σ Q = WP m56 6 [.inr (.inl l0), .inl l1, .inl l2, l3, l4] [.inr (.inl l0)] σ Q := w_ld d56_5 rfl
theorem d56_6 : adec m56 6 = some (.invokevirtual 110, 3) := by decide +kernel
theorem s56_6 {l0 : Nat} {l1 : Int} {l2 : Int} {l3 : AV} {l4 : AV} : WP m56 6 [.inr (.inl l0), .inl l1, .inl l2, l3, l4] [.inr (.inl 108)] σ Q = CA m58 [.inr (.inl 108)] σ (fun v σ2 => WP m56 9 [.inr (.inl l0), .inl l1, .inl l2, l3, l4] (v ++ []) σ2 Q) := (w_cV (k := 58) d56_6 (by decide +kernel) m58_at rfl rfl ⟨Nat.le_of_ble_eq_true rfl, Nat.le_of_ble_eq_true rfl, Nat.le_of_ble_eq_true rfl⟩ (by decide)).trans (g_and (isO_dec (by decide +kernel)))
theorem d56_9 : adec m56 9 = some (.istore_n 3, 1) := by decide +kernel
theorem s56_9 {l0 : Nat} {l1 : Int} {l2 : Int} {l3 : AV} {l4 : AV} {x0 : Int} : WP m56 9 [.inr (.inl l0), .inl l1, .inl l2, l3, l4] [.inl x0] σ Q = WP m56 10 [.inr (.inl l0), .inl l1, .inl l2, .inl x0, l4] [] σ Q := w_st1 (j := 3) d56_9 rfl (Nat.le_of_ble_eq_true rfl) rfl
theorem d56_10 : adec m56 10 = some (.aload_n 0, 1) := by decide +kernel
theorem s56_10 {l0 : Nat} {l1 : Int} {l2 : Int} {l3 : Int} {l4 : AV} : WP m56 10 [.inr (.inl l0), .inl l1, .inl l2, .inl l3, l4] [] σ Q = WP m56 11 [.inr (.inl l0), .inl l1, .inl l2, .inl l3, l4] [.inr (.inl l0)] σ Q := w_ld d56_10 rfl
theorem d56_11 : adec m56 11 = some (.aload_n 0, 1) := by decide +kernel
theorem s56_11 {l0 : Nat} {l1 : Int} {l2 : Int} {l3 : Int} {l4 : AV} {x0 : Nat} : WP m56 11 [.inr (.inl l0), .inl l1, .inl l2, .inl l3, l4] [.inr (.inl x0)] σ Q = WP m56 12 [.inr (.inl l0), .inl l1, .inl l2, .inl l3, l4] [.inr (.inl l0), .inr (.inl x0)] σ Q := w_ld d56_11 rfl
theorem d56_12 : adec m56 12 = some (.getfield 26, 3) := by decide +kernel
theorem s56_12 {l0 : Nat} {l1 : Int} {l2 : Int} {l3 : Int} {l4 : AV} {x0 : Nat} : WP m56 12 [.inr (.inl l0), .inl l1, .inl l2, .inl l3, l4] [.inr (.inl 108), .inr (.inl x0)] σ Q = WP m56 15 [.inr (.inl l0), .inl l1, .inl l2, .inl l3, l4] [.inr (.inl 115), .inr (.inl x0)] σ Q := (w_getR (c := 5) (n := 3) d56_12 (by decide +kernel) (by decide +kernel)).trans (g_and ⟨isO_dec (by decide +kernel), by decide +kernel⟩)
theorem d56_15 : adec m56 15 = some (.aload_n 0, 1) := by decide +kernel
theorem s56_15 {l0 : Nat} {l1 : Int} {l2 : Int} {l3 : Int} {l4 : AV} {x0 : Nat} {x1 : Nat} : WP m56 15 [.inr (.inl l0), .inl l1, .inl l2, .inl l3, l4] [.inr (.inl x1), .inr (.inl x0)] σ Q = WP m56 16 [.inr (.inl l0), .inl l1, .inl l2, .inl l3, l4] [.inr (.inl l0), .inr (.inl x1), .inr (.inl x0)] σ Q := w_ld d56_15 rfl
theorem d56_16 : adec m56 16 = some (.getfield 44, 3) := by decide +kernel
theorem s56_16 {l0 : Nat} {l1 : Int} {l2 : Int} {l3 : Int} {l4 : AV} {x0 : Nat} {x1 : Nat} : WP m56 16 [.inr (.inl l0), .inl l1, .inl l2, .inl l3, l4] [.inr (.inl 108), .inr (.inl x1), .inr (.inl x0)] σ Q = WP m56 19 [.inr (.inl l0), .inl l1, .inl l2, .inl l3, l4] [.inr (.inl 125), .inr (.inl x1), .inr (.inl x0)] σ Q := (w_getR (c := 5) (n := 8) d56_16 (by decide +kernel) (by decide +kernel)).trans (g_and ⟨isO_dec (by decide +kernel), by decide +kernel⟩)
theorem d56_19 : adec m56 19 = some (.iload_n 2, 1) := by decide +kernel
theorem s56_19 {l0 : Nat} {l1 : Int} {l2 : Int} {l3 : Int} {l4 : AV} {x0 : Nat} {x1 : Nat} {x2 : Nat} : WP m56 19 [.inr (.inl l0), .inl l1, .inl l2, .inl l3, l4] [.inr (.inl x2), .inr (.inl x1), .inr (.inl x0)] σ Q = WP m56 20 [.inr (.inl l0), .inl l1, .inl l2, .inl l3, l4] [.inl l2, .inr (.inl x2), .inr (.inl x1), .inr (.inl x0)] σ Q := w_ld d56_19 rfl
theorem d56_20 : adec m56 20 = some (.iconst (1), 1) := by decide +kernel
theorem s56_20 {l0 : Nat} {l1 : Int} {l2 : Int} {l3 : Int} {l4 : AV} {x0 : Nat} {x1 : Nat} {x2 : Nat} {x3 : Int} : WP m56 20 [.inr (.inl l0), .inl l1, .inl l2, .inl l3, l4] [.inl x3, .inr (.inl x2), .inr (.inl x1), .inr (.inl x0)] σ Q = WP m56 21 [.inr (.inl l0), .inl l1, .inl l2, .inl l3, l4] [.inl (1), .inl x3, .inr (.inl x2), .inr (.inl x1), .inr (.inl x0)] σ Q := w_iconst d56_20 (by decide)
theorem d56_21 : adec m56 21 = some (.iadd, 1) := by decide +kernel
theorem s56_21 {l0 : Nat} {l1 : Int} {l2 : Int} {l3 : Int} {l4 : AV} {x0 : Nat} {x1 : Nat} {x2 : Nat} {x3 : Int} {x4 : Int} : WP m56 21 [.inr (.inl l0), .inl l1, .inl l2, .inl l3, l4] [.inl x4, .inl x3, .inr (.inl x2), .inr (.inl x1), .inr (.inl x0)] σ Q = (inI (x3 + x4) ∧ WP m56 22 [.inr (.inl l0), .inl l1, .inl l2, .inl l3, l4] [.inl (x3 + x4), .inr (.inl x2), .inr (.inl x1), .inr (.inl x0)] σ Q) := w_iadd d56_21
theorem d56_22 : adec m56 22 = some (.invokevirtual 120, 3) := by decide +kernel
theorem s56_22 {l0 : Nat} {l1 : Int} {l2 : Int} {l3 : Int} {l4 : AV} {x0 : Nat} {x1 : Nat} {x2 : Nat} {x3 : Int} : WP m56 22 [.inr (.inl l0), .inl l1, .inl l2, .inl l3, l4] [.inl x3, .inr (.inl x2), .inr (.inl x1), .inr (.inl x0)] σ Q = (isO x2 6 ∧ CA m68 [.inr (.inl x2), .inl x3] σ (fun v σ2 => WP m56 25 [.inr (.inl l0), .inl l1, .inl l2, .inl l3, l4] (v ++ [.inr (.inl x1), .inr (.inl x0)]) σ2 Q)) := w_cV (k := 68) d56_22 (by decide +kernel) m68_at rfl rfl ⟨Nat.le_of_ble_eq_true rfl, Nat.le_of_ble_eq_true rfl, Nat.le_of_ble_eq_true rfl⟩ (by decide)
theorem d56_25 : adec m56 25 = some (.invokevirtual 62, 3) := by decide +kernel
theorem s56_25 {l0 : Nat} {l1 : Int} {l2 : Int} {l3 : Int} {l4 : AV} {x0 : Nat} {x1 : Nat} {x2 : Int} : WP m56 25 [.inr (.inl l0), .inl l1, .inl l2, .inl l3, l4] [.inl x2, .inr (.inl x1), .inr (.inl x0)] σ Q = (isO x1 3 ∧ CA m30 [.inr (.inl x1), .inl x2] σ (fun v σ2 => WP m56 28 [.inr (.inl l0), .inl l1, .inl l2, .inl l3, l4] (v ++ [.inr (.inl x0)]) σ2 Q)) := w_cV (k := 30) d56_25 (by decide +kernel) m30_at rfl rfl ⟨Nat.le_of_ble_eq_true rfl, Nat.le_of_ble_eq_true rfl, Nat.le_of_ble_eq_true rfl⟩ (by decide)
theorem d56_28 : adec m56 28 = some (.iload_n 3, 1) := by decide +kernel
theorem s56_28 {l0 : Nat} {l1 : Int} {l2 : Int} {l3 : Int} {l4 : AV} {x0 : Nat} {x1 : Int} : WP m56 28 [.inr (.inl l0), .inl l1, .inl l2, .inl l3, l4] [.inl x1, .inr (.inl x0)] σ Q = WP m56 29 [.inr (.inl l0), .inl l1, .inl l2, .inl l3, l4] [.inl l3, .inl x1, .inr (.inl x0)] σ Q := w_ld d56_28 rfl
theorem d56_29 : adec m56 29 = some (.invokevirtual 123, 3) := by decide +kernel
theorem s56_29 {l0 : Nat} {l1 : Int} {l2 : Int} {l3 : Int} {l4 : AV} {x1 : Int} {x2 : Int} : WP m56 29 [.inr (.inl l0), .inl l1, .inl l2, .inl l3, l4] [.inl x2, .inl x1, .inr (.inl 108)] σ Q = CA m59 [.inr (.inl 108), .inl x1, .inl x2] σ (fun v σ2 => WP m56 32 [.inr (.inl l0), .inl l1, .inl l2, .inl l3, l4] (v ++ []) σ2 Q) := (w_cV (k := 59) d56_29 (by decide +kernel) m59_at rfl rfl ⟨Nat.le_of_ble_eq_true rfl, Nat.le_of_ble_eq_true rfl, Nat.le_of_ble_eq_true rfl⟩ (by decide)).trans (g_and (isO_dec (by decide +kernel)))
theorem d56_32 : adec m56 32 = some (.istore 4, 2) := by decide +kernel
theorem s56_32 {l0 : Nat} {l1 : Int} {l2 : Int} {l3 : Int} {l4 : AV} {x0 : Int} : WP m56 32 [.inr (.inl l0), .inl l1, .inl l2, .inl l3, l4] [.inl x0] σ Q = WP m56 34 [.inr (.inl l0), .inl l1, .inl l2, .inl l3, .inl x0] [] σ Q := w_st1 (j := 4) d56_32 rfl (Nat.le_of_ble_eq_true rfl) rfl
theorem d56_34 : adec m56 34 = some (.aload_n 0, 1) := by decide +kernel
theorem s56_34 {l0 : Nat} {l1 : Int} {l2 : Int} {l3 : Int} {l4 : Int} : WP m56 34 [.inr (.inl l0), .inl l1, .inl l2, .inl l3, .inl l4] [] σ Q = WP m56 35 [.inr (.inl l0), .inl l1, .inl l2, .inl l3, .inl l4] [.inr (.inl l0)] σ Q := w_ld d56_34 rfl
theorem d56_35 : adec m56 35 = some (.aload_n 0, 1) := by decide +kernel
theorem s56_35 {l0 : Nat} {l1 : Int} {l2 : Int} {l3 : Int} {l4 : Int} {x0 : Nat} : WP m56 35 [.inr (.inl l0), .inl l1, .inl l2, .inl l3, .inl l4] [.inr (.inl x0)] σ Q = WP m56 36 [.inr (.inl l0), .inl l1, .inl l2, .inl l3, .inl l4] [.inr (.inl l0), .inr (.inl x0)] σ Q := w_ld d56_35 rfl
theorem d56_36 : adec m56 36 = some (.getfield 26, 3) := by decide +kernel
theorem s56_36 {l0 : Nat} {l1 : Int} {l2 : Int} {l3 : Int} {l4 : Int} {x0 : Nat} : WP m56 36 [.inr (.inl l0), .inl l1, .inl l2, .inl l3, .inl l4] [.inr (.inl 108), .inr (.inl x0)] σ Q = WP m56 39 [.inr (.inl l0), .inl l1, .inl l2, .inl l3, .inl l4] [.inr (.inl 115), .inr (.inl x0)] σ Q := (w_getR (c := 5) (n := 3) d56_36 (by decide +kernel) (by decide +kernel)).trans (g_and ⟨isO_dec (by decide +kernel), by decide +kernel⟩)
theorem d56_39 : adec m56 39 = some (.iload_n 2, 1) := by decide +kernel
theorem s56_39 {l0 : Nat} {l1 : Int} {l2 : Int} {l3 : Int} {l4 : Int} {x0 : Nat} {x1 : Nat} : WP m56 39 [.inr (.inl l0), .inl l1, .inl l2, .inl l3, .inl l4] [.inr (.inl x1), .inr (.inl x0)] σ Q = WP m56 40 [.inr (.inl l0), .inl l1, .inl l2, .inl l3, .inl l4] [.inl l2, .inr (.inl x1), .inr (.inl x0)] σ Q := w_ld d56_39 rfl
theorem d56_40 : adec m56 40 = some (.iconst (1), 1) := by decide +kernel
theorem s56_40 {l0 : Nat} {l1 : Int} {l2 : Int} {l3 : Int} {l4 : Int} {x0 : Nat} {x1 : Nat} {x2 : Int} : WP m56 40 [.inr (.inl l0), .inl l1, .inl l2, .inl l3, .inl l4] [.inl x2, .inr (.inl x1), .inr (.inl x0)] σ Q = WP m56 41 [.inr (.inl l0), .inl l1, .inl l2, .inl l3, .inl l4] [.inl (1), .inl x2, .inr (.inl x1), .inr (.inl x0)] σ Q := w_iconst d56_40 (by decide)
theorem d56_41 : adec m56 41 = some (.iadd, 1) := by decide +kernel
theorem s56_41 {l0 : Nat} {l1 : Int} {l2 : Int} {l3 : Int} {l4 : Int} {x0 : Nat} {x1 : Nat} {x2 : Int} {x3 : Int} : WP m56 41 [.inr (.inl l0), .inl l1, .inl l2, .inl l3, .inl l4] [.inl x3, .inl x2, .inr (.inl x1), .inr (.inl x0)] σ Q = (inI (x2 + x3) ∧ WP m56 42 [.inr (.inl l0), .inl l1, .inl l2, .inl l3, .inl l4] [.inl (x2 + x3), .inr (.inl x1), .inr (.inl x0)] σ Q) := w_iadd d56_41
theorem d56_42 : adec m56 42 = some (.invokevirtual 62, 3) := by decide +kernel
theorem s56_42 {l0 : Nat} {l1 : Int} {l2 : Int} {l3 : Int} {l4 : Int} {x0 : Nat} {x1 : Nat} {x2 : Int} : WP m56 42 [.inr (.inl l0), .inl l1, .inl l2, .inl l3, .inl l4] [.inl x2, .inr (.inl x1), .inr (.inl x0)] σ Q = (isO x1 3 ∧ CA m30 [.inr (.inl x1), .inl x2] σ (fun v σ2 => WP m56 45 [.inr (.inl l0), .inl l1, .inl l2, .inl l3, .inl l4] (v ++ [.inr (.inl x0)]) σ2 Q)) := w_cV (k := 30) d56_42 (by decide +kernel) m30_at rfl rfl ⟨Nat.le_of_ble_eq_true rfl, Nat.le_of_ble_eq_true rfl, Nat.le_of_ble_eq_true rfl⟩ (by decide)
theorem d56_45 : adec m56 45 = some (.iload 4, 2) := by decide +kernel
theorem s56_45 {l0 : Nat} {l1 : Int} {l2 : Int} {l3 : Int} {l4 : Int} {x0 : Nat} {x1 : Int} : WP m56 45 [.inr (.inl l0), .inl l1, .inl l2, .inl l3, .inl l4] [.inl x1, .inr (.inl x0)] σ Q = WP m56 47 [.inr (.inl l0), .inl l1, .inl l2, .inl l3, .inl l4] [.inl l4, .inl x1, .inr (.inl x0)] σ Q := w_ld d56_45 rfl
theorem d56_47 : adec m56 47 = some (.invokevirtual 127, 3) := by decide +kernel
theorem s56_47 {l0 : Nat} {l1 : Int} {l2 : Int} {l3 : Int} {l4 : Int} {x1 : Int} {x2 : Int} : WP m56 47 [.inr (.inl l0), .inl l1, .inl l2, .inl l3, .inl l4] [.inl x2, .inl x1, .inr (.inl 108)] σ Q = CA m62 [.inr (.inl 108), .inl x1, .inl x2] σ (fun v σ2 => WP m56 50 [.inr (.inl l0), .inl l1, .inl l2, .inl l3, .inl l4] (v ++ []) σ2 Q) := (w_cV (k := 62) d56_47 (by decide +kernel) m62_at rfl rfl ⟨Nat.le_of_ble_eq_true rfl, Nat.le_of_ble_eq_true rfl, Nat.le_of_ble_eq_true rfl⟩ (by decide)).trans (g_and (isO_dec (by decide +kernel)))
theorem d56_50 : adec m56 50 = some (.aload_n 0, 1) := by decide +kernel
theorem s56_50 {l0 : Nat} {l1 : Int} {l2 : Int} {l3 : Int} {l4 : Int} : WP m56 50 [.inr (.inl l0), .inl l1, .inl l2, .inl l3, .inl l4] [] σ Q = WP m56 51 [.inr (.inl l0), .inl l1, .inl l2, .inl l3, .inl l4] [.inr (.inl l0)] σ Q := w_ld d56_50 rfl
theorem d56_51 : adec m56 51 = some (.getfield 26, 3) := by decide +kernel
theorem s56_51 {l0 : Nat} {l1 : Int} {l2 : Int} {l3 : Int} {l4 : Int} : WP m56 51 [.inr (.inl l0), .inl l1, .inl l2, .inl l3, .inl l4] [.inr (.inl 108)] σ Q = WP m56 54 [.inr (.inl l0), .inl l1, .inl l2, .inl l3, .inl l4] [.inr (.inl 115)] σ Q := (w_getR (c := 5) (n := 3) d56_51 (by decide +kernel) (by decide +kernel)).trans (g_and ⟨isO_dec (by decide +kernel), by decide +kernel⟩)
theorem d56_54 : adec m56 54 = some (.iload_n 2, 1) := by decide +kernel
theorem s56_54 {l0 : Nat} {l1 : Int} {l2 : Int} {l3 : Int} {l4 : Int} {x0 : Nat} : WP m56 54 [.inr (.inl l0), .inl l1, .inl l2, .inl l3, .inl l4] [.inr (.inl x0)] σ Q = WP m56 55 [.inr (.inl l0), .inl l1, .inl l2, .inl l3, .inl l4] [.inl l2, .inr (.inl x0)] σ Q := w_ld d56_54 rfl
theorem d56_55 : adec m56 55 = some (.iload_n 3, 1) := by decide +kernel
theorem s56_55 {l0 : Nat} {l1 : Int} {l2 : Int} {l3 : Int} {l4 : Int} {x0 : Nat} {x1 : Int} : WP m56 55 [.inr (.inl l0), .inl l1, .inl l2, .inl l3, .inl l4] [.inl x1, .inr (.inl x0)] σ Q = WP m56 56 [.inr (.inl l0), .inl l1, .inl l2, .inl l3, .inl l4] [.inl l3, .inl x1, .inr (.inl x0)] σ Q := w_ld d56_55 rfl
theorem d56_56 : adec m56 56 = some (.invokevirtual 104, 3) := by decide +kernel
theorem s56_56 {l0 : Nat} {l1 : Int} {l2 : Int} {l3 : Int} {l4 : Int} {x0 : Nat} {x1 : Int} {x2 : Int} : WP m56 56 [.inr (.inl l0), .inl l1, .inl l2, .inl l3, .inl l4] [.inl x2, .inl x1, .inr (.inl x0)] σ Q = (isO x0 3 ∧ CA m33 [.inr (.inl x0), .inl x1, .inl x2] σ (fun v σ2 => WP m56 59 [.inr (.inl l0), .inl l1, .inl l2, .inl l3, .inl l4] (v ++ []) σ2 Q)) := w_cV (k := 33) d56_56 (by decide +kernel) m33_at rfl rfl ⟨Nat.le_of_ble_eq_true rfl, Nat.le_of_ble_eq_true rfl, Nat.le_of_ble_eq_true rfl⟩ (by decide)
theorem d56_59 : adec m56 59 = some (.goto (63), 3) := by decide +kernel
theorem s56_59 {l0 : Nat} {l1 : Int} {l2 : Int} {l3 : Int} {l4 : Int} : WP m56 59 [.inr (.inl l0), .inl l1, .inl l2, .inl l3, .inl l4] [] σ Q = WP m56 122 [.inr (.inl l0), .inl l1, .inl l2, .inl l3, .inl l4] [] σ Q := w_goto d56_59 (by decide)
theorem d56_62 : adec m56 62 = some (.iload_n 1, 1) := by decide +kernel
theorem s56_62 {l0 : Nat} {l1 : Int} {l2 : Int} {l3 : AV} {l4 : AV} : WP m56 62 [.inr (.inl l0), .inl l1, .inl l2, l3, l4] [] σ Q = WP m56 63 [.inr (.inl l0), .inl l1, .inl l2, l3, l4] [.inl l1] σ Q := w_ld d56_62 rfl
theorem d56_63 : adec m56 63 = some (.invokestatic 107, 3) := by decide +kernel
theorem s56_63 {l0 : Nat} {l1 : Int} {l2 : Int} {l3 : AV} {l4 : AV} {x0 : Int} : WP m56 63 [.inr (.inl l0), .inl l1, .inl l2, l3, l4] [.inl x0] σ Q = CA m117 [.inl x0] σ (fun v σ2 => WP m56 66 [.inr (.inl l0), .inl l1, .inl l2, l3, l4] (v ++ []) σ2 Q) := w_cS (k := 117) d56_63 (by decide +kernel) (md := 2) (by decide +kernel) m117_at rfl rfl ⟨Nat.le_of_ble_eq_true rfl, Nat.le_of_ble_eq_true rfl, Nat.le_of_ble_eq_true rfl⟩ (by decide)
theorem d56_66 : adec m56 66 = some (.ifCond .eq (36), 3) := by decide +kernel
theorem s56_66 {l0 : Nat} {l1 : Int} {l2 : Int} {l3 : AV} {l4 : AV} {x0 : Int} : WP m56 66 [.inr (.inl l0), .inl l1, .inl l2, l3, l4] [.inl x0] σ Q = (if x0 = 0 then WP m56 102 [.inr (.inl l0), .inl l1, .inl l2, l3, l4] [] σ Q else WP m56 69 [.inr (.inl l0), .inl l1, .inl l2, l3, l4] [] σ Q) := w_ifeq d56_66 (by decide)
theorem d56_69 : adec m56 69 = some (.aload_n 0, 1) := by decide +kernel
theorem s56_69 {l0 : Nat} {l1 : Int} {l2 : Int} {l3 : AV} {l4 : AV} : WP m56 69 [.inr (.inl l0), .inl l1, .inl l2, l3, l4] [] σ Q = WP m56 70 [.inr (.inl l0), .inl l1, .inl l2, l3, l4] [.inr (.inl l0)] σ Q := w_ld d56_69 rfl
theorem d56_70 : adec m56 70 = some (.getfield 26, 3) := by decide +kernel
theorem s56_70 {l0 : Nat} {l1 : Int} {l2 : Int} {l3 : AV} {l4 : AV} : WP m56 70 [.inr (.inl l0), .inl l1, .inl l2, l3, l4] [.inr (.inl 108)] σ Q = WP m56 73 [.inr (.inl l0), .inl l1, .inl l2, l3, l4] [.inr (.inl 115)] σ Q := (w_getR (c := 5) (n := 3) d56_70 (by decide +kernel) (by decide +kernel)).trans (g_and ⟨isO_dec (by decide +kernel), by decide +kernel⟩)
theorem d56_73 : adec m56 73 = some (.iload_n 2, 1) := by decide +kernel
theorem s56_73 {l0 : Nat} {l1 : Int} {l2 : Int} {l3 : AV} {l4 : AV} {x0 : Nat} : WP m56 73 [.inr (.inl l0), .inl l1, .inl l2, l3, l4] [.inr (.inl x0)] σ Q = WP m56 74 [.inr (.inl l0), .inl l1, .inl l2, l3, l4] [.inl l2, .inr (.inl x0)] σ Q := w_ld d56_73 rfl
theorem d56_74 : adec m56 74 = some (.aload_n 0, 1) := by decide +kernel
theorem s56_74 {l0 : Nat} {l1 : Int} {l2 : Int} {l3 : AV} {l4 : AV} {x0 : Nat} {x1 : Int} : WP m56 74 [.inr (.inl l0), .inl l1, .inl l2, l3, l4] [.inl x1, .inr (.inl x0)] σ Q = WP m56 75 [.inr (.inl l0), .inl l1, .inl l2, l3, l4] [.inr (.inl l0), .inl x1, .inr (.inl x0)] σ Q := w_ld d56_74 rfl
theorem d56_75 : adec m56 75 = some (.aload_n 0, 1) := by decide +kernel
theorem s56_75 {l0 : Nat} {l1 : Int} {l2 : Int} {l3 : AV} {l4 : AV} {x0 : Nat} {x1 : Int} {x2 : Nat} : WP m56 75 [.inr (.inl l0), .inl l1, .inl l2, l3, l4] [.inr (.inl x2), .inl x1, .inr (.inl x0)] σ Q = WP m56 76 [.inr (.inl l0), .inl l1, .inl l2, l3, l4] [.inr (.inl l0), .inr (.inl x2), .inl x1, .inr (.inl x0)] σ Q := w_ld d56_75 rfl
theorem d56_76 : adec m56 76 = some (.getfield 26, 3) := by decide +kernel
theorem s56_76 {l0 : Nat} {l1 : Int} {l2 : Int} {l3 : AV} {l4 : AV} {x0 : Nat} {x1 : Int} {x2 : Nat} : WP m56 76 [.inr (.inl l0), .inl l1, .inl l2, l3, l4] [.inr (.inl 108), .inr (.inl x2), .inl x1, .inr (.inl x0)] σ Q = WP m56 79 [.inr (.inl l0), .inl l1, .inl l2, l3, l4] [.inr (.inl 115), .inr (.inl x2), .inl x1, .inr (.inl x0)] σ Q := (w_getR (c := 5) (n := 3) d56_76 (by decide +kernel) (by decide +kernel)).trans (g_and ⟨isO_dec (by decide +kernel), by decide +kernel⟩)
theorem d56_79 : adec m56 79 = some (.iload_n 2, 1) := by decide +kernel
theorem s56_79 {l0 : Nat} {l1 : Int} {l2 : Int} {l3 : AV} {l4 : AV} {x0 : Nat} {x1 : Int} {x2 : Nat} {x3 : Nat} : WP m56 79 [.inr (.inl l0), .inl l1, .inl l2, l3, l4] [.inr (.inl x3), .inr (.inl x2), .inl x1, .inr (.inl x0)] σ Q = WP m56 80 [.inr (.inl l0), .inl l1, .inl l2, l3, l4] [.inl l2, .inr (.inl x3), .inr (.inl x2), .inl x1, .inr (.inl x0)] σ Q := w_ld d56_79 rfl
theorem d56_80 : adec m56 80 = some (.invokevirtual 62, 3) := by decide +kernel
theorem s56_80 {l0 : Nat} {l1 : Int} {l2 : Int} {l3 : AV} {l4 : AV} {x0 : Nat} {x1 : Int} {x2 : Nat} {x3 : Nat} {x4 : Int} : WP m56 80 [.inr (.inl l0), .inl l1, .inl l2, l3, l4] [.inl x4, .inr (.inl x3), .inr (.inl x2), .inl x1, .inr (.inl x0)] σ Q = (isO x3 3 ∧ CA m30 [.inr (.inl x3), .inl x4] σ (fun v σ2 => WP m56 83 [.inr (.inl l0), .inl l1, .inl l2, l3, l4] (v ++ [.inr (.inl x2), .inl x1, .inr (.inl x0)]) σ2 Q)) := w_cV (k := 30) d56_80 (by decide +kernel) m30_at rfl rfl ⟨Nat.le_of_ble_eq_true rfl, Nat.le_of_ble_eq_true rfl, Nat.le_of_ble_eq_true rfl⟩ (by decide)
theorem d56_83 : adec m56 83 = some (.aload_n 0, 1) := by decide +kernel
theorem s56_83 {l0 : Nat} {l1 : Int} {l2 : Int} {l3 : AV} {l4 : AV} {x0 : Nat} {x1 : Int} {x2 : Nat} {x3 : Int} : WP m56 83 [.inr (.inl l0), .inl l1, .inl l2, l3, l4] [.inl x3, .inr (.inl x2), .inl x1, .inr (.inl x0)] σ Q = WP m56 84 [.inr (.inl l0), .inl l1, .inl l2, l3, l4] [.inr (.inl l0), .inl x3, .inr (.inl x2), .inl x1, .inr (.inl x0)] σ Q := w_ld d56_83 rfl
theorem d56_84 : adec m56 84 = some (.getfield 26, 3) := by decide +kernel
theorem s56_84 {l0 : Nat} {l1 : Int} {l2 : Int} {l3 : AV} {l4 : AV} {x0 : Nat} {x1 : Int} {x2 : Nat} {x3 : Int} : WP m56 84 [.inr (.inl l0), .inl l1, .inl l2, l3, l4] [.inr (.inl 108), .inl x3, .inr (.inl x2), .inl x1, .inr (.inl x0)] σ Q = WP m56 87 [.inr (.inl l0), .inl l1, .inl l2, l3, l4] [.inr (.inl 115), .inl x3, .inr (.inl x2), .inl x1, .inr (.inl x0)] σ Q := (w_getR (c := 5) (n := 3) d56_84 (by decide +kernel) (by decide +kernel)).trans (g_and ⟨isO_dec (by decide +kernel), by decide +kernel⟩)
theorem d56_87 : adec m56 87 = some (.iload_n 2, 1) := by decide +kernel
theorem s56_87 {l0 : Nat} {l1 : Int} {l2 : Int} {l3 : AV} {l4 : AV} {x0 : Nat} {x1 : Int} {x2 : Nat} {x3 : Int} {x4 : Nat} : WP m56 87 [.inr (.inl l0), .inl l1, .inl l2, l3, l4] [.inr (.inl x4), .inl x3, .inr (.inl x2), .inl x1, .inr (.inl x0)] σ Q = WP m56 88 [.inr (.inl l0), .inl l1, .inl l2, l3, l4] [.inl l2, .inr (.inl x4), .inl x3, .inr (.inl x2), .inl x1, .inr (.inl x0)] σ Q := w_ld d56_87 rfl
theorem d56_88 : adec m56 88 = some (.iconst (1), 1) := by decide +kernel
theorem s56_88 {l0 : Nat} {l1 : Int} {l2 : Int} {l3 : AV} {l4 : AV} {x0 : Nat} {x1 : Int} {x2 : Nat} {x3 : Int} {x4 : Nat} {x5 : Int} : WP m56 88 [.inr (.inl l0), .inl l1, .inl l2, l3, l4] [.inl x5, .inr (.inl x4), .inl x3, .inr (.inl x2), .inl x1, .inr (.inl x0)] σ Q = WP m56 89 [.inr (.inl l0), .inl l1, .inl l2, l3, l4] [.inl (1), .inl x5, .inr (.inl x4), .inl x3, .inr (.inl x2), .inl x1, .inr (.inl x0)] σ Q := w_iconst d56_88 (by decide)
theorem d56_89 : adec m56 89 = some (.iadd, 1) := by decide +kernel
theorem s56_89 {l0 : Nat} {l1 : Int} {l2 : Int} {l3 : AV} {l4 : AV} {x0 : Nat} {x1 : Int} {x2 : Nat} {x3 : Int} {x4 : Nat} {x5 : Int} {x6 : Int} : WP m56 89 [.inr (.inl l0), .inl l1, .inl l2, l3, l4] [.inl x6, .inl x5, .inr (.inl x4), .inl x3, .inr (.inl x2), .inl x1, .inr (.inl x0)] σ Q = (inI (x5 + x6) ∧ WP m56 90 [.inr (.inl l0), .inl l1, .inl l2, l3, l4] [.inl (x5 + x6), .inr (.inl x4), .inl x3, .inr (.inl x2), .inl x1, .inr (.inl x0)] σ Q) := w_iadd d56_89
theorem d56_90 : adec m56 90 = some (.invokevirtual 62, 3) := by decide +kernel
theorem s56_90 {l0 : Nat} {l1 : Int} {l2 : Int} {l3 : AV} {l4 : AV} {x0 : Nat} {x1 : Int} {x2 : Nat} {x3 : Int} {x4 : Nat} {x5 : Int} : WP m56 90 [.inr (.inl l0), .inl l1, .inl l2, l3, l4] [.inl x5, .inr (.inl x4), .inl x3, .inr (.inl x2), .inl x1, .inr (.inl x0)] σ Q = (isO x4 3 ∧ CA m30 [.inr (.inl x4), .inl x5] σ (fun v σ2 => WP m56 93 [.inr (.inl l0), .inl l1, .inl l2, l3, l4] (v ++ [.inl x3, .inr (.inl x2), .inl x1, .inr (.inl x0)]) σ2 Q)) := w_cV (k := 30) d56_90 (by decide +kernel) m30_at rfl rfl ⟨Nat.le_of_ble_eq_true rfl, Nat.le_of_ble_eq_true rfl, Nat.le_of_ble_eq_true rfl⟩ (by decide)
theorem d56_93 : adec m56 93 = some (.invokevirtual 123, 3) := by decide +kernel
theorem s56_93 {l0 : Nat} {l1 : Int} {l2 : Int} {l3 : AV} {l4 : AV} {x0 : Nat} {x1 : Int} {x3 : Int} {x4 : Int} : WP m56 93 [.inr (.inl l0), .inl l1, .inl l2, l3, l4] [.inl x4, .inl x3, .inr (.inl 108), .inl x1, .inr (.inl x0)] σ Q = CA m59 [.inr (.inl 108), .inl x3, .inl x4] σ (fun v σ2 => WP m56 96 [.inr (.inl l0), .inl l1, .inl l2, l3, l4] (v ++ [.inl x1, .inr (.inl x0)]) σ2 Q) := (w_cV (k := 59) d56_93 (by decide +kernel) m59_at rfl rfl ⟨Nat.le_of_ble_eq_true rfl, Nat.le_of_ble_eq_true rfl, Nat.le_of_ble_eq_true rfl⟩ (by decide)).trans (g_and (isO_dec (by decide +kernel)))
theorem d56_96 : adec m56 96 = some (.invokevirtual 104, 3) := by decide +kernel
theorem s56_96 {l0 : Nat} {l1 : Int} {l2 : Int} {l3 : AV} {l4 : AV} {x0 : Nat} {x1 : Int} {x2 : Int} : WP m56 96 [.inr (.inl l0), .inl l1, .inl l2, l3, l4] [.inl x2, .inl x1, .inr (.inl x0)] σ Q = (isO x0 3 ∧ CA m33 [.inr (.inl x0), .inl x1, .inl x2] σ (fun v σ2 => WP m56 99 [.inr (.inl l0), .inl l1, .inl l2, l3, l4] (v ++ []) σ2 Q)) := w_cV (k := 33) d56_96 (by decide +kernel) m33_at rfl rfl ⟨Nat.le_of_ble_eq_true rfl, Nat.le_of_ble_eq_true rfl, Nat.le_of_ble_eq_true rfl⟩ (by decide)
theorem d56_99 : adec m56 99 = some (.goto (23), 3) := by decide +kernel
theorem s56_99 {l0 : Nat} {l1 : Int} {l2 : Int} {l3 : AV} {l4 : AV} : WP m56 99 [.inr (.inl l0), .inl l1, .inl l2, l3, l4] [] σ Q = WP m56 122 [.inr (.inl l0), .inl l1, .inl l2, l3, l4] [] σ Q := w_goto d56_99 (by decide)
theorem d56_102 : adec m56 102 = some (.iload_n 1, 1) := by decide +kernel
theorem s56_102 {l0 : Nat} {l1 : Int} {l2 : Int} {l3 : AV} {l4 : AV} : WP m56 102 [.inr (.inl l0), .inl l1, .inl l2, l3, l4] [] σ Q = WP m56 103 [.inr (.inl l0), .inl l1, .inl l2, l3, l4] [.inl l1] σ Q := w_ld d56_102 rfl
theorem d56_103 : adec m56 103 = some (.invokestatic 130, 3) := by decide +kernel
theorem s56_103 {l0 : Nat} {l1 : Int} {l2 : Int} {l3 : AV} {l4 : AV} {x0 : Int} : WP m56 103 [.inr (.inl l0), .inl l1, .inl l2, l3, l4] [.inl x0] σ Q = CA m119 [.inl x0] σ (fun v σ2 => WP m56 106 [.inr (.inl l0), .inl l1, .inl l2, l3, l4] (v ++ []) σ2 Q) := w_cS (k := 119) d56_103 (by decide +kernel) (md := 2) (by decide +kernel) m119_at rfl rfl ⟨Nat.le_of_ble_eq_true rfl, Nat.le_of_ble_eq_true rfl, Nat.le_of_ble_eq_true rfl⟩ (by decide)
theorem d56_106 : adec m56 106 = some (.ifCond .le (16), 3) := by decide +kernel
theorem s56_106 {l0 : Nat} {l1 : Int} {l2 : Int} {l3 : AV} {l4 : AV} {x0 : Int} : WP m56 106 [.inr (.inl l0), .inl l1, .inl l2, l3, l4] [.inl x0] σ Q = (if x0 ≤ 0 then WP m56 122 [.inr (.inl l0), .inl l1, .inl l2, l3, l4] [] σ Q else WP m56 109 [.inr (.inl l0), .inl l1, .inl l2, l3, l4] [] σ Q) := w_ifle d56_106 (by decide)
theorem d56_109 : adec m56 109 = some (.aload_n 0, 1) := by decide +kernel
theorem s56_109 {l0 : Nat} {l1 : Int} {l2 : Int} {l3 : AV} {l4 : AV} : WP m56 109 [.inr (.inl l0), .inl l1, .inl l2, l3, l4] [] σ Q = WP m56 110 [.inr (.inl l0), .inl l1, .inl l2, l3, l4] [.inr (.inl l0)] σ Q := w_ld d56_109 rfl
theorem d56_110 : adec m56 110 = some (.getfield 26, 3) := by decide +kernel
theorem s56_110 {l0 : Nat} {l1 : Int} {l2 : Int} {l3 : AV} {l4 : AV} : WP m56 110 [.inr (.inl l0), .inl l1, .inl l2, l3, l4] [.inr (.inl 108)] σ Q = WP m56 113 [.inr (.inl l0), .inl l1, .inl l2, l3, l4] [.inr (.inl 115)] σ Q := (w_getR (c := 5) (n := 3) d56_110 (by decide +kernel) (by decide +kernel)).trans (g_and ⟨isO_dec (by decide +kernel), by decide +kernel⟩)
theorem d56_113 : adec m56 113 = some (.iload_n 2, 1) := by decide +kernel
theorem s56_113 {l0 : Nat} {l1 : Int} {l2 : Int} {l3 : AV} {l4 : AV} {x0 : Nat} : WP m56 113 [.inr (.inl l0), .inl l1, .inl l2, l3, l4] [.inr (.inl x0)] σ Q = WP m56 114 [.inr (.inl l0), .inl l1, .inl l2, l3, l4] [.inl l2, .inr (.inl x0)] σ Q := w_ld d56_113 rfl
theorem d56_114 : adec m56 114 = some (.aload_n 0, 1) := by decide +kernel
theorem s56_114 {l0 : Nat} {l1 : Int} {l2 : Int} {l3 : AV} {l4 : AV} {x0 : Nat} {x1 : Int} : WP m56 114 [.inr (.inl l0), .inl l1, .inl l2, l3, l4] [.inl x1, .inr (.inl x0)] σ Q = WP m56 115 [.inr (.inl l0), .inl l1, .inl l2, l3, l4] [.inr (.inl l0), .inl x1, .inr (.inl x0)] σ Q := w_ld d56_114 rfl
theorem d56_115 : adec m56 115 = some (.iload_n 1, 1) := by decide +kernel
theorem s56_115 {l0 : Nat} {l1 : Int} {l2 : Int} {l3 : AV} {l4 : AV} {x0 : Nat} {x1 : Int} {x2 : Nat} : WP m56 115 [.inr (.inl l0), .inl l1, .inl l2, l3, l4] [.inr (.inl x2), .inl x1, .inr (.inl x0)] σ Q = WP m56 116 [.inr (.inl l0), .inl l1, .inl l2, l3, l4] [.inl l1, .inr (.inl x2), .inl x1, .inr (.inl x0)] σ Q := w_ld d56_115 rfl
theorem d56_116 : adec m56 116 = some (.invokevirtual 133, 3) := by decide +kernel
theorem s56_116 {l0 : Nat} {l1 : Int} {l2 : Int} {l3 : AV} {l4 : AV} {x0 : Nat} {x1 : Int} {x3 : Int} : WP m56 116 [.inr (.inl l0), .inl l1, .inl l2, l3, l4] [.inl x3, .inr (.inl 108), .inl x1, .inr (.inl x0)] σ Q = CA m57 [.inr (.inl 108), .inl x3] σ (fun v σ2 => WP m56 119 [.inr (.inl l0), .inl l1, .inl l2, l3, l4] (v ++ [.inl x1, .inr (.inl x0)]) σ2 Q) := (w_cV (k := 57) d56_116 (by decide +kernel) m57_at rfl rfl ⟨Nat.le_of_ble_eq_true rfl, Nat.le_of_ble_eq_true rfl, Nat.le_of_ble_eq_true rfl⟩ (by decide)).trans (g_and (isO_dec (by decide +kernel)))
theorem d56_119 : adec m56 119 = some (.invokevirtual 104, 3) := by decide +kernel
theorem s56_119 {l0 : Nat} {l1 : Int} {l2 : Int} {l3 : AV} {l4 : AV} {x0 : Nat} {x1 : Int} {x2 : Int} : WP m56 119 [.inr (.inl l0), .inl l1, .inl l2, l3, l4] [.inl x2, .inl x1, .inr (.inl x0)] σ Q = (isO x0 3 ∧ CA m33 [.inr (.inl x0), .inl x1, .inl x2] σ (fun v σ2 => WP m56 122 [.inr (.inl l0), .inl l1, .inl l2, l3, l4] (v ++ []) σ2 Q)) := w_cV (k := 33) d56_119 (by decide +kernel) m33_at rfl rfl ⟨Nat.le_of_ble_eq_true rfl, Nat.le_of_ble_eq_true rfl, Nat.le_of_ble_eq_true rfl⟩ (by decide)
theorem d56_122 : adec m56 122 = some (.return_, 1) := by decide +kernel
theorem s56_122 {l0 : Nat} {l1 : Int} {l2 : Int} {l3 : AV} {l4 : AV} : WP m56 122 [.inr (.inl l0), .inl l1, .inl l2, l3, l4] [] σ Q = Q [] σ := w_rv d56_122 rfl
theorem e56 {p0 : Nat} {p1 : Int} {p2 : Int} : CA m56 [.inr (.inl p0), .inl p1, .inl p2] σ Q = WP m56 0 [.inr (.inl p0), .inl p1, .inl p2, vU, vU] [] σ Q := rfl
-- BinderPress$Sorter.signKind(I)I
theorem d57_0 : adec m57 0 = some (.aload_n 0, 1) := by decide +kernel
theorem s57_0 {l0 : Nat} {l1 : Int} {l2 : AV} {l3 : AV} {l4 : AV} {l5 : AV} : WP m57 0 [.inr (.inl l0), .inl l1, l2, l3, l4, l5] [] σ Q = WP m57 1 [.inr (.inl l0), .inl l1, l2, l3, l4, l5] [.inr (.inl l0)] σ Q := w_ld d57_0 rfl
theorem d57_1 : adec m57 1 = some (.invokevirtual 110, 3) := by decide +kernel
theorem s57_1 {l0 : Nat} {l1 : Int} {l2 : AV} {l3 : AV} {l4 : AV} {l5 : AV} : WP m57 1 [.inr (.inl l0), .inl l1, l2, l3, l4, l5] [.inr (.inl 108)] σ Q = CA m58 [.inr (.inl 108)] σ (fun v σ2 => WP m57 4 [.inr (.inl l0), .inl l1, l2, l3, l4, l5] (v ++ []) σ2 Q) := (w_cV (k := 58) d57_1 (by decide +kernel) m58_at rfl rfl ⟨Nat.le_of_ble_eq_true rfl, Nat.le_of_ble_eq_true rfl, Nat.le_of_ble_eq_true rfl⟩ (by decide)).trans (g_and (isO_dec (by decide +kernel)))
theorem d57_4 : adec m57 4 = some (.istore_n 2, 1) := by decide +kernel
theorem s57_4 {l0 : Nat} {l1 : Int} {l2 : AV} {l3 : AV} {l4 : AV} {l5 : AV} {x0 : Int} : WP m57 4 [.inr (.inl l0), .inl l1, l2, l3, l4, l5] [.inl x0] σ Q = WP m57 5 [.inr (.inl l0), .inl l1, .inl x0, l3, l4, l5] [] σ Q := w_st1 (j := 2) d57_4 rfl (Nat.le_of_ble_eq_true rfl) rfl
theorem d57_5 : adec m57 5 = some (.iload_n 1, 1) := by decide +kernel
theorem s57_5 {l0 : Nat} {l1 : Int} {l2 : Int} {l3 : AV} {l4 : AV} {l5 : AV} : WP m57 5 [.inr (.inl l0), .inl l1, .inl l2, l3, l4, l5] [] σ Q = WP m57 6 [.inr (.inl l0), .inl l1, .inl l2, l3, l4, l5] [.inl l1] σ Q := w_ld d57_5 rfl
theorem d57_6 : adec m57 6 = some (.bipush (73), 2) := by decide +kernel
theorem s57_6 {l0 : Nat} {l1 : Int} {l2 : Int} {l3 : AV} {l4 : AV} {l5 : AV} {x0 : Int} : WP m57 6 [.inr (.inl l0), .inl l1, .inl l2, l3, l4, l5] [.inl x0] σ Q = WP m57 8 [.inr (.inl l0), .inl l1, .inl l2, l3, l4, l5] [.inl (73), .inl x0] σ Q := w_bipush d57_6 (by decide)
theorem d57_8 : adec m57 8 = some (.if_icmp .ne (10), 3) := by decide +kernel
theorem s57_8 {l0 : Nat} {l1 : Int} {l2 : Int} {l3 : AV} {l4 : AV} {l5 : AV} {x0 : Int} {x1 : Int} : WP m57 8 [.inr (.inl l0), .inl l1, .inl l2, l3, l4, l5] [.inl x1, .inl x0] σ Q = (if x0 = x1 then WP m57 11 [.inr (.inl l0), .inl l1, .inl l2, l3, l4, l5] [] σ Q else WP m57 18 [.inr (.inl l0), .inl l1, .inl l2, l3, l4, l5] [] σ Q) := w_icne d57_8 (by decide)
theorem d57_11 : adec m57 11 = some (.aload_n 0, 1) := by decide +kernel
theorem s57_11 {l0 : Nat} {l1 : Int} {l2 : Int} {l3 : AV} {l4 : AV} {l5 : AV} : WP m57 11 [.inr (.inl l0), .inl l1, .inl l2, l3, l4, l5] [] σ Q = WP m57 12 [.inr (.inl l0), .inl l1, .inl l2, l3, l4, l5] [.inr (.inl l0)] σ Q := w_ld d57_11 rfl
theorem d57_12 : adec m57 12 = some (.iload_n 2, 1) := by decide +kernel
theorem s57_12 {l0 : Nat} {l1 : Int} {l2 : Int} {l3 : AV} {l4 : AV} {l5 : AV} {x0 : Nat} : WP m57 12 [.inr (.inl l0), .inl l1, .inl l2, l3, l4, l5] [.inr (.inl x0)] σ Q = WP m57 13 [.inr (.inl l0), .inl l1, .inl l2, l3, l4, l5] [.inl l2, .inr (.inl x0)] σ Q := w_ld d57_12 rfl
theorem d57_13 : adec m57 13 = some (.iload_n 2, 1) := by decide +kernel
theorem s57_13 {l0 : Nat} {l1 : Int} {l2 : Int} {l3 : AV} {l4 : AV} {l5 : AV} {x0 : Nat} {x1 : Int} : WP m57 13 [.inr (.inl l0), .inl l1, .inl l2, l3, l4, l5] [.inl x1, .inr (.inl x0)] σ Q = WP m57 14 [.inr (.inl l0), .inl l1, .inl l2, l3, l4, l5] [.inl l2, .inl x1, .inr (.inl x0)] σ Q := w_ld d57_13 rfl
theorem d57_14 : adec m57 14 = some (.invokevirtual 123, 3) := by decide +kernel
theorem s57_14 {l0 : Nat} {l1 : Int} {l2 : Int} {l3 : AV} {l4 : AV} {l5 : AV} {x1 : Int} {x2 : Int} : WP m57 14 [.inr (.inl l0), .inl l1, .inl l2, l3, l4, l5] [.inl x2, .inl x1, .inr (.inl 108)] σ Q = CA m59 [.inr (.inl 108), .inl x1, .inl x2] σ (fun v σ2 => WP m57 17 [.inr (.inl l0), .inl l1, .inl l2, l3, l4, l5] (v ++ []) σ2 Q) := (w_cV (k := 59) d57_14 (by decide +kernel) m59_at rfl rfl ⟨Nat.le_of_ble_eq_true rfl, Nat.le_of_ble_eq_true rfl, Nat.le_of_ble_eq_true rfl⟩ (by decide)).trans (g_and (isO_dec (by decide +kernel)))
theorem d57_17 : adec m57 17 = some (.ireturn, 1) := by decide +kernel
theorem s57_17 {l0 : Nat} {l1 : Int} {l2 : Int} {l3 : AV} {l4 : AV} {l5 : AV} {x0 : Int} : WP m57 17 [.inr (.inl l0), .inl l1, .inl l2, l3, l4, l5] [.inl x0] σ Q = Q [.inl x0] σ := w_ri d57_17 rfl
theorem d57_18 : adec m57 18 = some (.aload_n 0, 1) := by decide +kernel
theorem s57_18 {l0 : Nat} {l1 : Int} {l2 : Int} {l3 : AV} {l4 : AV} {l5 : AV} : WP m57 18 [.inr (.inl l0), .inl l1, .inl l2, l3, l4, l5] [] σ Q = WP m57 19 [.inr (.inl l0), .inl l1, .inl l2, l3, l4, l5] [.inr (.inl l0)] σ Q := w_ld d57_18 rfl
theorem d57_19 : adec m57 19 = some (.invokevirtual 110, 3) := by decide +kernel
theorem s57_19 {l0 : Nat} {l1 : Int} {l2 : Int} {l3 : AV} {l4 : AV} {l5 : AV} : WP m57 19 [.inr (.inl l0), .inl l1, .inl l2, l3, l4, l5] [.inr (.inl 108)] σ Q = CA m58 [.inr (.inl 108)] σ (fun v σ2 => WP m57 22 [.inr (.inl l0), .inl l1, .inl l2, l3, l4, l5] (v ++ []) σ2 Q) := (w_cV (k := 58) d57_19 (by decide +kernel) m58_at rfl rfl ⟨Nat.le_of_ble_eq_true rfl, Nat.le_of_ble_eq_true rfl, Nat.le_of_ble_eq_true rfl⟩ (by decide)).trans (g_and (isO_dec (by decide +kernel)))
theorem d57_22 : adec m57 22 = some (.istore_n 3, 1) := by decide +kernel
theorem s57_22 {l0 : Nat} {l1 : Int} {l2 : Int} {l3 : AV} {l4 : AV} {l5 : AV} {x0 : Int} : WP m57 22 [.inr (.inl l0), .inl l1, .inl l2, l3, l4, l5] [.inl x0] σ Q = WP m57 23 [.inr (.inl l0), .inl l1, .inl l2, .inl x0, l4, l5] [] σ Q := w_st1 (j := 3) d57_22 rfl (Nat.le_of_ble_eq_true rfl) rfl
theorem d57_23 : adec m57 23 = some (.iload_n 1, 1) := by decide +kernel
theorem s57_23 {l0 : Nat} {l1 : Int} {l2 : Int} {l3 : Int} {l4 : AV} {l5 : AV} : WP m57 23 [.inr (.inl l0), .inl l1, .inl l2, .inl l3, l4, l5] [] σ Q = WP m57 24 [.inr (.inl l0), .inl l1, .inl l2, .inl l3, l4, l5] [.inl l1] σ Q := w_ld d57_23 rfl
theorem d57_24 : adec m57 24 = some (.bipush (75), 2) := by decide +kernel
theorem s57_24 {l0 : Nat} {l1 : Int} {l2 : Int} {l3 : Int} {l4 : AV} {l5 : AV} {x0 : Int} : WP m57 24 [.inr (.inl l0), .inl l1, .inl l2, .inl l3, l4, l5] [.inl x0] σ Q = WP m57 26 [.inr (.inl l0), .inl l1, .inl l2, .inl l3, l4, l5] [.inl (75), .inl x0] σ Q := w_bipush d57_24 (by decide)
theorem d57_26 : adec m57 26 = some (.if_icmp .ne (15), 3) := by decide +kernel
theorem s57_26 {l0 : Nat} {l1 : Int} {l2 : Int} {l3 : Int} {l4 : AV} {l5 : AV} {x0 : Int} {x1 : Int} : WP m57 26 [.inr (.inl l0), .inl l1, .inl l2, .inl l3, l4, l5] [.inl x1, .inl x0] σ Q = (if x0 = x1 then WP m57 29 [.inr (.inl l0), .inl l1, .inl l2, .inl l3, l4, l5] [] σ Q else WP m57 41 [.inr (.inl l0), .inl l1, .inl l2, .inl l3, l4, l5] [] σ Q) := w_icne d57_26 (by decide)
theorem d57_29 : adec m57 29 = some (.aload_n 0, 1) := by decide +kernel
theorem s57_29 {l0 : Nat} {l1 : Int} {l2 : Int} {l3 : Int} {l4 : AV} {l5 : AV} : WP m57 29 [.inr (.inl l0), .inl l1, .inl l2, .inl l3, l4, l5] [] σ Q = WP m57 30 [.inr (.inl l0), .inl l1, .inl l2, .inl l3, l4, l5] [.inr (.inl l0)] σ Q := w_ld d57_29 rfl
theorem d57_30 : adec m57 30 = some (.iload_n 2, 1) := by decide +kernel
theorem s57_30 {l0 : Nat} {l1 : Int} {l2 : Int} {l3 : Int} {l4 : AV} {l5 : AV} {x0 : Nat} : WP m57 30 [.inr (.inl l0), .inl l1, .inl l2, .inl l3, l4, l5] [.inr (.inl x0)] σ Q = WP m57 31 [.inr (.inl l0), .inl l1, .inl l2, .inl l3, l4, l5] [.inl l2, .inr (.inl x0)] σ Q := w_ld d57_30 rfl
theorem d57_31 : adec m57 31 = some (.aload_n 0, 1) := by decide +kernel
theorem s57_31 {l0 : Nat} {l1 : Int} {l2 : Int} {l3 : Int} {l4 : AV} {l5 : AV} {x0 : Nat} {x1 : Int} : WP m57 31 [.inr (.inl l0), .inl l1, .inl l2, .inl l3, l4, l5] [.inl x1, .inr (.inl x0)] σ Q = WP m57 32 [.inr (.inl l0), .inl l1, .inl l2, .inl l3, l4, l5] [.inr (.inl l0), .inl x1, .inr (.inl x0)] σ Q := w_ld d57_31 rfl
theorem d57_32 : adec m57 32 = some (.iload_n 3, 1) := by decide +kernel
theorem s57_32 {l0 : Nat} {l1 : Int} {l2 : Int} {l3 : Int} {l4 : AV} {l5 : AV} {x0 : Nat} {x1 : Int} {x2 : Nat} : WP m57 32 [.inr (.inl l0), .inl l1, .inl l2, .inl l3, l4, l5] [.inr (.inl x2), .inl x1, .inr (.inl x0)] σ Q = WP m57 33 [.inr (.inl l0), .inl l1, .inl l2, .inl l3, l4, l5] [.inl l3, .inr (.inl x2), .inl x1, .inr (.inl x0)] σ Q := w_ld d57_32 rfl
theorem d57_33 : adec m57 33 = some (.iload_n 2, 1) := by decide +kernel
theorem s57_33 {l0 : Nat} {l1 : Int} {l2 : Int} {l3 : Int} {l4 : AV} {l5 : AV} {x0 : Nat} {x1 : Int} {x2 : Nat} {x3 : Int} : WP m57 33 [.inr (.inl l0), .inl l1, .inl l2, .inl l3, l4, l5] [.inl x3, .inr (.inl x2), .inl x1, .inr (.inl x0)] σ Q = WP m57 34 [.inr (.inl l0), .inl l1, .inl l2, .inl l3, l4, l5] [.inl l2, .inl x3, .inr (.inl x2), .inl x1, .inr (.inl x0)] σ Q := w_ld d57_33 rfl
theorem d57_34 : adec m57 34 = some (.invokevirtual 123, 3) := by decide +kernel
theorem s57_34 {l0 : Nat} {l1 : Int} {l2 : Int} {l3 : Int} {l4 : AV} {l5 : AV} {x0 : Nat} {x1 : Int} {x3 : Int} {x4 : Int} : WP m57 34 [.inr (.inl l0), .inl l1, .inl l2, .inl l3, l4, l5] [.inl x4, .inl x3, .inr (.inl 108), .inl x1, .inr (.inl x0)] σ Q = CA m59 [.inr (.inl 108), .inl x3, .inl x4] σ (fun v σ2 => WP m57 37 [.inr (.inl l0), .inl l1, .inl l2, .inl l3, l4, l5] (v ++ [.inl x1, .inr (.inl x0)]) σ2 Q) := (w_cV (k := 59) d57_34 (by decide +kernel) m59_at rfl rfl ⟨Nat.le_of_ble_eq_true rfl, Nat.le_of_ble_eq_true rfl, Nat.le_of_ble_eq_true rfl⟩ (by decide)).trans (g_and (isO_dec (by decide +kernel)))
theorem d57_37 : adec m57 37 = some (.invokevirtual 123, 3) := by decide +kernel
theorem s57_37 {l0 : Nat} {l1 : Int} {l2 : Int} {l3 : Int} {l4 : AV} {l5 : AV} {x1 : Int} {x2 : Int} : WP m57 37 [.inr (.inl l0), .inl l1, .inl l2, .inl l3, l4, l5] [.inl x2, .inl x1, .inr (.inl 108)] σ Q = CA m59 [.inr (.inl 108), .inl x1, .inl x2] σ (fun v σ2 => WP m57 40 [.inr (.inl l0), .inl l1, .inl l2, .inl l3, l4, l5] (v ++ []) σ2 Q) := (w_cV (k := 59) d57_37 (by decide +kernel) m59_at rfl rfl ⟨Nat.le_of_ble_eq_true rfl, Nat.le_of_ble_eq_true rfl, Nat.le_of_ble_eq_true rfl⟩ (by decide)).trans (g_and (isO_dec (by decide +kernel)))
theorem d57_40 : adec m57 40 = some (.ireturn, 1) := by decide +kernel
theorem s57_40 {l0 : Nat} {l1 : Int} {l2 : Int} {l3 : Int} {l4 : AV} {l5 : AV} {x0 : Int} : WP m57 40 [.inr (.inl l0), .inl l1, .inl l2, .inl l3, l4, l5] [.inl x0] σ Q = Q [.inl x0] σ := w_ri d57_40 rfl
theorem d57_41 : adec m57 41 = some (.aload_n 0, 1) := by decide +kernel
theorem s57_41 {l0 : Nat} {l1 : Int} {l2 : Int} {l3 : Int} {l4 : AV} {l5 : AV} : WP m57 41 [.inr (.inl l0), .inl l1, .inl l2, .inl l3, l4, l5] [] σ Q = WP m57 42 [.inr (.inl l0), .inl l1, .inl l2, .inl l3, l4, l5] [.inr (.inl l0)] σ Q := w_ld d57_41 rfl
theorem d57_42 : adec m57 42 = some (.invokevirtual 110, 3) := by decide +kernel
theorem s57_42 {l0 : Nat} {l1 : Int} {l2 : Int} {l3 : Int} {l4 : AV} {l5 : AV} : WP m57 42 [.inr (.inl l0), .inl l1, .inl l2, .inl l3, l4, l5] [.inr (.inl 108)] σ Q = CA m58 [.inr (.inl 108)] σ (fun v σ2 => WP m57 45 [.inr (.inl l0), .inl l1, .inl l2, .inl l3, l4, l5] (v ++ []) σ2 Q) := (w_cV (k := 58) d57_42 (by decide +kernel) m58_at rfl rfl ⟨Nat.le_of_ble_eq_true rfl, Nat.le_of_ble_eq_true rfl, Nat.le_of_ble_eq_true rfl⟩ (by decide)).trans (g_and (isO_dec (by decide +kernel)))
theorem d57_45 : adec m57 45 = some (.istore 4, 2) := by decide +kernel
theorem s57_45 {l0 : Nat} {l1 : Int} {l2 : Int} {l3 : Int} {l4 : AV} {l5 : AV} {x0 : Int} : WP m57 45 [.inr (.inl l0), .inl l1, .inl l2, .inl l3, l4, l5] [.inl x0] σ Q = WP m57 47 [.inr (.inl l0), .inl l1, .inl l2, .inl l3, .inl x0, l5] [] σ Q := w_st1 (j := 4) d57_45 rfl (Nat.le_of_ble_eq_true rfl) rfl
theorem d57_47 : adec m57 47 = some (.aload_n 0, 1) := by decide +kernel
theorem s57_47 {l0 : Nat} {l1 : Int} {l2 : Int} {l3 : Int} {l4 : Int} {l5 : AV} : WP m57 47 [.inr (.inl l0), .inl l1, .inl l2, .inl l3, .inl l4, l5] [] σ Q = WP m57 48 [.inr (.inl l0), .inl l1, .inl l2, .inl l3, .inl l4, l5] [.inr (.inl l0)] σ Q := w_ld d57_47 rfl
theorem d57_48 : adec m57 48 = some (.iload_n 2, 1) := by decide +kernel
theorem s57_48 {l0 : Nat} {l1 : Int} {l2 : Int} {l3 : Int} {l4 : Int} {l5 : AV} {x0 : Nat} : WP m57 48 [.inr (.inl l0), .inl l1, .inl l2, .inl l3, .inl l4, l5] [.inr (.inl x0)] σ Q = WP m57 49 [.inr (.inl l0), .inl l1, .inl l2, .inl l3, .inl l4, l5] [.inl l2, .inr (.inl x0)] σ Q := w_ld d57_48 rfl
theorem d57_49 : adec m57 49 = some (.iload 4, 2) := by decide +kernel
theorem s57_49 {l0 : Nat} {l1 : Int} {l2 : Int} {l3 : Int} {l4 : Int} {l5 : AV} {x0 : Nat} {x1 : Int} : WP m57 49 [.inr (.inl l0), .inl l1, .inl l2, .inl l3, .inl l4, l5] [.inl x1, .inr (.inl x0)] σ Q = WP m57 51 [.inr (.inl l0), .inl l1, .inl l2, .inl l3, .inl l4, l5] [.inl l4, .inl x1, .inr (.inl x0)] σ Q := w_ld d57_49 rfl
theorem d57_51 : adec m57 51 = some (.invokevirtual 123, 3) := by decide +kernel
theorem s57_51 {l0 : Nat} {l1 : Int} {l2 : Int} {l3 : Int} {l4 : Int} {l5 : AV} {x1 : Int} {x2 : Int} : WP m57 51 [.inr (.inl l0), .inl l1, .inl l2, .inl l3, .inl l4, l5] [.inl x2, .inl x1, .inr (.inl 108)] σ Q = CA m59 [.inr (.inl 108), .inl x1, .inl x2] σ (fun v σ2 => WP m57 54 [.inr (.inl l0), .inl l1, .inl l2, .inl l3, .inl l4, l5] (v ++ []) σ2 Q) := (w_cV (k := 59) d57_51 (by decide +kernel) m59_at rfl rfl ⟨Nat.le_of_ble_eq_true rfl, Nat.le_of_ble_eq_true rfl, Nat.le_of_ble_eq_true rfl⟩ (by decide)).trans (g_and (isO_dec (by decide +kernel)))
theorem d57_54 : adec m57 54 = some (.istore 5, 2) := by decide +kernel
theorem s57_54 {l0 : Nat} {l1 : Int} {l2 : Int} {l3 : Int} {l4 : Int} {l5 : AV} {x0 : Int} : WP m57 54 [.inr (.inl l0), .inl l1, .inl l2, .inl l3, .inl l4, l5] [.inl x0] σ Q = WP m57 56 [.inr (.inl l0), .inl l1, .inl l2, .inl l3, .inl l4, .inl x0] [] σ Q := w_st1 (j := 5) d57_54 rfl (Nat.le_of_ble_eq_true rfl) rfl
theorem d57_56 : adec m57 56 = some (.iload_n 1, 1) := by decide +kernel
theorem s57_56 {l0 : Nat} {l1 : Int} {l2 : Int} {l3 : Int} {l4 : Int} {l5 : Int} : WP m57 56 [.inr (.inl l0), .inl l1, .inl l2, .inl l3, .inl l4, .inl l5] [] σ Q = WP m57 57 [.inr (.inl l0), .inl l1, .inl l2, .inl l3, .inl l4, .inl l5] [.inl l1] σ Q := w_ld d57_56 rfl
theorem d57_57 : adec m57 57 = some (.bipush (83), 2) := by decide +kernel
theorem s57_57 {l0 : Nat} {l1 : Int} {l2 : Int} {l3 : Int} {l4 : Int} {l5 : Int} {x0 : Int} : WP m57 57 [.inr (.inl l0), .inl l1, .inl l2, .inl l3, .inl l4, .inl l5] [.inl x0] σ Q = WP m57 59 [.inr (.inl l0), .inl l1, .inl l2, .inl l3, .inl l4, .inl l5] [.inl (83), .inl x0] σ Q := w_bipush d57_57 (by decide)
theorem d57_59 : adec m57 59 = some (.if_icmp .ne (32), 3) := by decide +kernel
theorem s57_59 {l0 : Nat} {l1 : Int} {l2 : Int} {l3 : Int} {l4 : Int} {l5 : Int} {x0 : Int} {x1 : Int} : WP m57 59 [.inr (.inl l0), .inl l1, .inl l2, .inl l3, .inl l4, .inl l5] [.inl x1, .inl x0] σ Q = (if x0 = x1 then WP m57 62 [.inr (.inl l0), .inl l1, .inl l2, .inl l3, .inl l4, .inl l5] [] σ Q else WP m57 91 [.inr (.inl l0), .inl l1, .inl l2, .inl l3, .inl l4, .inl l5] [] σ Q) := w_icne d57_59 (by decide)
theorem d57_62 : adec m57 62 = some (.aload_n 0, 1) := by decide +kernel
theorem s57_62 {l0 : Nat} {l1 : Int} {l2 : Int} {l3 : Int} {l4 : Int} {l5 : Int} : WP m57 62 [.inr (.inl l0), .inl l1, .inl l2, .inl l3, .inl l4, .inl l5] [] σ Q = WP m57 63 [.inr (.inl l0), .inl l1, .inl l2, .inl l3, .inl l4, .inl l5] [.inr (.inl l0)] σ Q := w_ld d57_62 rfl
theorem d57_63 : adec m57 63 = some (.aload_n 0, 1) := by decide +kernel
theorem s57_63 {l0 : Nat} {l1 : Int} {l2 : Int} {l3 : Int} {l4 : Int} {l5 : Int} {x0 : Nat} : WP m57 63 [.inr (.inl l0), .inl l1, .inl l2, .inl l3, .inl l4, .inl l5] [.inr (.inl x0)] σ Q = WP m57 64 [.inr (.inl l0), .inl l1, .inl l2, .inl l3, .inl l4, .inl l5] [.inr (.inl l0), .inr (.inl x0)] σ Q := w_ld d57_63 rfl
theorem d57_64 : adec m57 64 = some (.iload_n 2, 1) := by decide +kernel
theorem s57_64 {l0 : Nat} {l1 : Int} {l2 : Int} {l3 : Int} {l4 : Int} {l5 : Int} {x0 : Nat} {x1 : Nat} : WP m57 64 [.inr (.inl l0), .inl l1, .inl l2, .inl l3, .inl l4, .inl l5] [.inr (.inl x1), .inr (.inl x0)] σ Q = WP m57 65 [.inr (.inl l0), .inl l1, .inl l2, .inl l3, .inl l4, .inl l5] [.inl l2, .inr (.inl x1), .inr (.inl x0)] σ Q := w_ld d57_64 rfl
theorem d57_65 : adec m57 65 = some (.aload_n 0, 1) := by decide +kernel
theorem s57_65 {l0 : Nat} {l1 : Int} {l2 : Int} {l3 : Int} {l4 : Int} {l5 : Int} {x0 : Nat} {x1 : Nat} {x2 : Int} : WP m57 65 [.inr (.inl l0), .inl l1, .inl l2, .inl l3, .inl l4, .inl l5] [.inl x2, .inr (.inl x1), .inr (.inl x0)] σ Q = WP m57 66 [.inr (.inl l0), .inl l1, .inl l2, .inl l3, .inl l4, .inl l5] [.inr (.inl l0), .inl x2, .inr (.inl x1), .inr (.inl x0)] σ Q := w_ld d57_65 rfl
theorem d57_66 : adec m57 66 = some (.iload_n 3, 1) := by decide +kernel
theorem s57_66 {l0 : Nat} {l1 : Int} {l2 : Int} {l3 : Int} {l4 : Int} {l5 : Int} {x0 : Nat} {x1 : Nat} {x2 : Int} {x3 : Nat} : WP m57 66 [.inr (.inl l0), .inl l1, .inl l2, .inl l3, .inl l4, .inl l5] [.inr (.inl x3), .inl x2, .inr (.inl x1), .inr (.inl x0)] σ Q = WP m57 67 [.inr (.inl l0), .inl l1, .inl l2, .inl l3, .inl l4, .inl l5] [.inl l3, .inr (.inl x3), .inl x2, .inr (.inl x1), .inr (.inl x0)] σ Q := w_ld d57_66 rfl
theorem d57_67 : adec m57 67 = some (.iload 4, 2) := by decide +kernel
theorem s57_67 {l0 : Nat} {l1 : Int} {l2 : Int} {l3 : Int} {l4 : Int} {l5 : Int} {x0 : Nat} {x1 : Nat} {x2 : Int} {x3 : Nat} {x4 : Int} : WP m57 67 [.inr (.inl l0), .inl l1, .inl l2, .inl l3, .inl l4, .inl l5] [.inl x4, .inr (.inl x3), .inl x2, .inr (.inl x1), .inr (.inl x0)] σ Q = WP m57 69 [.inr (.inl l0), .inl l1, .inl l2, .inl l3, .inl l4, .inl l5] [.inl l4, .inl x4, .inr (.inl x3), .inl x2, .inr (.inl x1), .inr (.inl x0)] σ Q := w_ld d57_67 rfl
theorem d57_69 : adec m57 69 = some (.invokevirtual 123, 3) := by decide +kernel
theorem s57_69 {l0 : Nat} {l1 : Int} {l2 : Int} {l3 : Int} {l4 : Int} {l5 : Int} {x0 : Nat} {x1 : Nat} {x2 : Int} {x4 : Int} {x5 : Int} : WP m57 69 [.inr (.inl l0), .inl l1, .inl l2, .inl l3, .inl l4, .inl l5] [.inl x5, .inl x4, .inr (.inl 108), .inl x2, .inr (.inl x1), .inr (.inl x0)] σ Q = CA m59 [.inr (.inl 108), .inl x4, .inl x5] σ (fun v σ2 => WP m57 72 [.inr (.inl l0), .inl l1, .inl l2, .inl l3, .inl l4, .inl l5] (v ++ [.inl x2, .inr (.inl x1), .inr (.inl x0)]) σ2 Q) := (w_cV (k := 59) d57_69 (by decide +kernel) m59_at rfl rfl ⟨Nat.le_of_ble_eq_true rfl, Nat.le_of_ble_eq_true rfl, Nat.le_of_ble_eq_true rfl⟩ (by decide)).trans (g_and (isO_dec (by decide +kernel)))
theorem d57_72 : adec m57 72 = some (.invokevirtual 123, 3) := by decide +kernel
theorem s57_72 {l0 : Nat} {l1 : Int} {l2 : Int} {l3 : Int} {l4 : Int} {l5 : Int} {x0 : Nat} {x2 : Int} {x3 : Int} : WP m57 72 [.inr (.inl l0), .inl l1, .inl l2, .inl l3, .inl l4, .inl l5] [.inl x3, .inl x2, .inr (.inl 108), .inr (.inl x0)] σ Q = CA m59 [.inr (.inl 108), .inl x2, .inl x3] σ (fun v σ2 => WP m57 75 [.inr (.inl l0), .inl l1, .inl l2, .inl l3, .inl l4, .inl l5] (v ++ [.inr (.inl x0)]) σ2 Q) := (w_cV (k := 59) d57_72 (by decide +kernel) m59_at rfl rfl ⟨Nat.le_of_ble_eq_true rfl, Nat.le_of_ble_eq_true rfl, Nat.le_of_ble_eq_true rfl⟩ (by decide)).trans (g_and (isO_dec (by decide +kernel)))
theorem d57_75 : adec m57 75 = some (.aload_n 0, 1) := by decide +kernel
theorem s57_75 {l0 : Nat} {l1 : Int} {l2 : Int} {l3 : Int} {l4 : Int} {l5 : Int} {x0 : Nat} {x1 : Int} : WP m57 75 [.inr (.inl l0), .inl l1, .inl l2, .inl l3, .inl l4, .inl l5] [.inl x1, .inr (.inl x0)] σ Q = WP m57 76 [.inr (.inl l0), .inl l1, .inl l2, .inl l3, .inl l4, .inl l5] [.inr (.inl l0), .inl x1, .inr (.inl x0)] σ Q := w_ld d57_75 rfl
theorem d57_76 : adec m57 76 = some (.aload_n 0, 1) := by decide +kernel
theorem s57_76 {l0 : Nat} {l1 : Int} {l2 : Int} {l3 : Int} {l4 : Int} {l5 : Int} {x0 : Nat} {x1 : Int} {x2 : Nat} : WP m57 76 [.inr (.inl l0), .inl l1, .inl l2, .inl l3, .inl l4, .inl l5] [.inr (.inl x2), .inl x1, .inr (.inl x0)] σ Q = WP m57 77 [.inr (.inl l0), .inl l1, .inl l2, .inl l3, .inl l4, .inl l5] [.inr (.inl l0), .inr (.inl x2), .inl x1, .inr (.inl x0)] σ Q := w_ld d57_76 rfl
theorem d57_77 : adec m57 77 = some (.iload_n 2, 1) := by decide +kernel
theorem s57_77 {l0 : Nat} {l1 : Int} {l2 : Int} {l3 : Int} {l4 : Int} {l5 : Int} {x0 : Nat} {x1 : Int} {x2 : Nat} {x3 : Nat} : WP m57 77 [.inr (.inl l0), .inl l1, .inl l2, .inl l3, .inl l4, .inl l5] [.inr (.inl x3), .inr (.inl x2), .inl x1, .inr (.inl x0)] σ Q = WP m57 78 [.inr (.inl l0), .inl l1, .inl l2, .inl l3, .inl l4, .inl l5] [.inl l2, .inr (.inl x3), .inr (.inl x2), .inl x1, .inr (.inl x0)] σ Q := w_ld d57_77 rfl
theorem d57_78 : adec m57 78 = some (.iload_n 3, 1) := by decide +kernel
theorem s57_78 {l0 : Nat} {l1 : Int} {l2 : Int} {l3 : Int} {l4 : Int} {l5 : Int} {x0 : Nat} {x1 : Int} {x2 : Nat} {x3 : Nat} {x4 : Int} : WP m57 78 [.inr (.inl l0), .inl l1, .inl l2, .inl l3, .inl l4, .inl l5] [.inl x4, .inr (.inl x3), .inr (.inl x2), .inl x1, .inr (.inl x0)] σ Q = WP m57 79 [.inr (.inl l0), .inl l1, .inl l2, .inl l3, .inl l4, .inl l5] [.inl l3, .inl x4, .inr (.inl x3), .inr (.inl x2), .inl x1, .inr (.inl x0)] σ Q := w_ld d57_78 rfl
theorem d57_79 : adec m57 79 = some (.invokevirtual 123, 3) := by decide +kernel
theorem s57_79 {l0 : Nat} {l1 : Int} {l2 : Int} {l3 : Int} {l4 : Int} {l5 : Int} {x0 : Nat} {x1 : Int} {x2 : Nat} {x4 : Int} {x5 : Int} : WP m57 79 [.inr (.inl l0), .inl l1, .inl l2, .inl l3, .inl l4, .inl l5] [.inl x5, .inl x4, .inr (.inl 108), .inr (.inl x2), .inl x1, .inr (.inl x0)] σ Q = CA m59 [.inr (.inl 108), .inl x4, .inl x5] σ (fun v σ2 => WP m57 82 [.inr (.inl l0), .inl l1, .inl l2, .inl l3, .inl l4, .inl l5] (v ++ [.inr (.inl x2), .inl x1, .inr (.inl x0)]) σ2 Q) := (w_cV (k := 59) d57_79 (by decide +kernel) m59_at rfl rfl ⟨Nat.le_of_ble_eq_true rfl, Nat.le_of_ble_eq_true rfl, Nat.le_of_ble_eq_true rfl⟩ (by decide)).trans (g_and (isO_dec (by decide +kernel)))
theorem d57_82 : adec m57 82 = some (.iload 5, 2) := by decide +kernel
theorem s57_82 {l0 : Nat} {l1 : Int} {l2 : Int} {l3 : Int} {l4 : Int} {l5 : Int} {x0 : Nat} {x1 : Int} {x2 : Nat} {x3 : Int} : WP m57 82 [.inr (.inl l0), .inl l1, .inl l2, .inl l3, .inl l4, .inl l5] [.inl x3, .inr (.inl x2), .inl x1, .inr (.inl x0)] σ Q = WP m57 84 [.inr (.inl l0), .inl l1, .inl l2, .inl l3, .inl l4, .inl l5] [.inl l5, .inl x3, .inr (.inl x2), .inl x1, .inr (.inl x0)] σ Q := w_ld d57_82 rfl
theorem d57_84 : adec m57 84 = some (.invokevirtual 123, 3) := by decide +kernel
theorem s57_84 {l0 : Nat} {l1 : Int} {l2 : Int} {l3 : Int} {l4 : Int} {l5 : Int} {x0 : Nat} {x1 : Int} {x3 : Int} {x4 : Int} : WP m57 84 [.inr (.inl l0), .inl l1, .inl l2, .inl l3, .inl l4, .inl l5] [.inl x4, .inl x3, .inr (.inl 108), .inl x1, .inr (.inl x0)] σ Q = CA m59 [.inr (.inl 108), .inl x3, .inl x4] σ (fun v σ2 => WP m57 87 [.inr (.inl l0), .inl l1, .inl l2, .inl l3, .inl l4, .inl l5] (v ++ [.inl x1, .inr (.inl x0)]) σ2 Q) := (w_cV (k := 59) d57_84 (by decide +kernel) m59_at rfl rfl ⟨Nat.le_of_ble_eq_true rfl, Nat.le_of_ble_eq_true rfl, Nat.le_of_ble_eq_true rfl⟩ (by decide)).trans (g_and (isO_dec (by decide +kernel)))
theorem d57_87 : adec m57 87 = some (.invokevirtual 123, 3) := by decide +kernel
theorem s57_87 {l0 : Nat} {l1 : Int} {l2 : Int} {l3 : Int} {l4 : Int} {l5 : Int} {x1 : Int} {x2 : Int} : WP m57 87 [.inr (.inl l0), .inl l1, .inl l2, .inl l3, .inl l4, .inl l5] [.inl x2, .inl x1, .inr (.inl 108)] σ Q = CA m59 [.inr (.inl 108), .inl x1, .inl x2] σ (fun v σ2 => WP m57 90 [.inr (.inl l0), .inl l1, .inl l2, .inl l3, .inl l4, .inl l5] (v ++ []) σ2 Q) := (w_cV (k := 59) d57_87 (by decide +kernel) m59_at rfl rfl ⟨Nat.le_of_ble_eq_true rfl, Nat.le_of_ble_eq_true rfl, Nat.le_of_ble_eq_true rfl⟩ (by decide)).trans (g_and (isO_dec (by decide +kernel)))
theorem d57_90 : adec m57 90 = some (.ireturn, 1) := by decide +kernel
theorem s57_90 {l0 : Nat} {l1 : Int} {l2 : Int} {l3 : Int} {l4 : Int} {l5 : Int} {x0 : Int} : WP m57 90 [.inr (.inl l0), .inl l1, .inl l2, .inl l3, .inl l4, .inl l5] [.inl x0] σ Q = Q [.inl x0] σ := w_ri d57_90 rfl
theorem d57_91 : adec m57 91 = some (.iload_n 1, 1) := by decide +kernel
theorem s57_91 {l0 : Nat} {l1 : Int} {l2 : Int} {l3 : Int} {l4 : Int} {l5 : Int} : WP m57 91 [.inr (.inl l0), .inl l1, .inl l2, .inl l3, .inl l4, .inl l5] [] σ Q = WP m57 92 [.inr (.inl l0), .inl l1, .inl l2, .inl l3, .inl l4, .inl l5] [.inl l1] σ Q := w_ld d57_91 rfl
theorem d57_92 : adec m57 92 = some (.bipush (66), 2) := by decide +kernel
theorem s57_92 {l0 : Nat} {l1 : Int} {l2 : Int} {l3 : Int} {l4 : Int} {l5 : Int} {x0 : Int} : WP m57 92 [.inr (.inl l0), .inl l1, .inl l2, .inl l3, .inl l4, .inl l5] [.inl x0] σ Q = WP m57 94 [.inr (.inl l0), .inl l1, .inl l2, .inl l3, .inl l4, .inl l5] [.inl (66), .inl x0] σ Q := w_bipush d57_92 (by decide)
theorem d57_94 : adec m57 94 = some (.if_icmp .ne (27), 3) := by decide +kernel
theorem s57_94 {l0 : Nat} {l1 : Int} {l2 : Int} {l3 : Int} {l4 : Int} {l5 : Int} {x0 : Int} {x1 : Int} : WP m57 94 [.inr (.inl l0), .inl l1, .inl l2, .inl l3, .inl l4, .inl l5] [.inl x1, .inl x0] σ Q = (if x0 = x1 then WP m57 97 [.inr (.inl l0), .inl l1, .inl l2, .inl l3, .inl l4, .inl l5] [] σ Q else WP m57 121 [.inr (.inl l0), .inl l1, .inl l2, .inl l3, .inl l4, .inl l5] [] σ Q) := w_icne d57_94 (by decide)
theorem d57_97 : adec m57 97 = some (.aload_n 0, 1) := by decide +kernel
theorem s57_97 {l0 : Nat} {l1 : Int} {l2 : Int} {l3 : Int} {l4 : Int} {l5 : Int} : WP m57 97 [.inr (.inl l0), .inl l1, .inl l2, .inl l3, .inl l4, .inl l5] [] σ Q = WP m57 98 [.inr (.inl l0), .inl l1, .inl l2, .inl l3, .inl l4, .inl l5] [.inr (.inl l0)] σ Q := w_ld d57_97 rfl
theorem d57_98 : adec m57 98 = some (.aload_n 0, 1) := by decide +kernel
theorem s57_98 {l0 : Nat} {l1 : Int} {l2 : Int} {l3 : Int} {l4 : Int} {l5 : Int} {x0 : Nat} : WP m57 98 [.inr (.inl l0), .inl l1, .inl l2, .inl l3, .inl l4, .inl l5] [.inr (.inl x0)] σ Q = WP m57 99 [.inr (.inl l0), .inl l1, .inl l2, .inl l3, .inl l4, .inl l5] [.inr (.inl l0), .inr (.inl x0)] σ Q := w_ld d57_98 rfl
theorem d57_99 : adec m57 99 = some (.iload_n 3, 1) := by decide +kernel
theorem s57_99 {l0 : Nat} {l1 : Int} {l2 : Int} {l3 : Int} {l4 : Int} {l5 : Int} {x0 : Nat} {x1 : Nat} : WP m57 99 [.inr (.inl l0), .inl l1, .inl l2, .inl l3, .inl l4, .inl l5] [.inr (.inl x1), .inr (.inl x0)] σ Q = WP m57 100 [.inr (.inl l0), .inl l1, .inl l2, .inl l3, .inl l4, .inl l5] [.inl l3, .inr (.inl x1), .inr (.inl x0)] σ Q := w_ld d57_99 rfl
theorem d57_100 : adec m57 100 = some (.iload 4, 2) := by decide +kernel
theorem s57_100 {l0 : Nat} {l1 : Int} {l2 : Int} {l3 : Int} {l4 : Int} {l5 : Int} {x0 : Nat} {x1 : Nat} {x2 : Int} : WP m57 100 [.inr (.inl l0), .inl l1, .inl l2, .inl l3, .inl l4, .inl l5] [.inl x2, .inr (.inl x1), .inr (.inl x0)] σ Q = WP m57 102 [.inr (.inl l0), .inl l1, .inl l2, .inl l3, .inl l4, .inl l5] [.inl l4, .inl x2, .inr (.inl x1), .inr (.inl x0)] σ Q := w_ld d57_100 rfl
theorem d57_102 : adec m57 102 = some (.invokevirtual 123, 3) := by decide +kernel
theorem s57_102 {l0 : Nat} {l1 : Int} {l2 : Int} {l3 : Int} {l4 : Int} {l5 : Int} {x0 : Nat} {x2 : Int} {x3 : Int} : WP m57 102 [.inr (.inl l0), .inl l1, .inl l2, .inl l3, .inl l4, .inl l5] [.inl x3, .inl x2, .inr (.inl 108), .inr (.inl x0)] σ Q = CA m59 [.inr (.inl 108), .inl x2, .inl x3] σ (fun v σ2 => WP m57 105 [.inr (.inl l0), .inl l1, .inl l2, .inl l3, .inl l4, .inl l5] (v ++ [.inr (.inl x0)]) σ2 Q) := (w_cV (k := 59) d57_102 (by decide +kernel) m59_at rfl rfl ⟨Nat.le_of_ble_eq_true rfl, Nat.le_of_ble_eq_true rfl, Nat.le_of_ble_eq_true rfl⟩ (by decide)).trans (g_and (isO_dec (by decide +kernel)))
theorem d57_105 : adec m57 105 = some (.aload_n 0, 1) := by decide +kernel
theorem s57_105 {l0 : Nat} {l1 : Int} {l2 : Int} {l3 : Int} {l4 : Int} {l5 : Int} {x0 : Nat} {x1 : Int} : WP m57 105 [.inr (.inl l0), .inl l1, .inl l2, .inl l3, .inl l4, .inl l5] [.inl x1, .inr (.inl x0)] σ Q = WP m57 106 [.inr (.inl l0), .inl l1, .inl l2, .inl l3, .inl l4, .inl l5] [.inr (.inl l0), .inl x1, .inr (.inl x0)] σ Q := w_ld d57_105 rfl
theorem d57_106 : adec m57 106 = some (.aload_n 0, 1) := by decide +kernel
theorem s57_106 {l0 : Nat} {l1 : Int} {l2 : Int} {l3 : Int} {l4 : Int} {l5 : Int} {x0 : Nat} {x1 : Int} {x2 : Nat} : WP m57 106 [.inr (.inl l0), .inl l1, .inl l2, .inl l3, .inl l4, .inl l5] [.inr (.inl x2), .inl x1, .inr (.inl x0)] σ Q = WP m57 107 [.inr (.inl l0), .inl l1, .inl l2, .inl l3, .inl l4, .inl l5] [.inr (.inl l0), .inr (.inl x2), .inl x1, .inr (.inl x0)] σ Q := w_ld d57_106 rfl
theorem d57_107 : adec m57 107 = some (.iload_n 2, 1) := by decide +kernel
theorem s57_107 {l0 : Nat} {l1 : Int} {l2 : Int} {l3 : Int} {l4 : Int} {l5 : Int} {x0 : Nat} {x1 : Int} {x2 : Nat} {x3 : Nat} : WP m57 107 [.inr (.inl l0), .inl l1, .inl l2, .inl l3, .inl l4, .inl l5] [.inr (.inl x3), .inr (.inl x2), .inl x1, .inr (.inl x0)] σ Q = WP m57 108 [.inr (.inl l0), .inl l1, .inl l2, .inl l3, .inl l4, .inl l5] [.inl l2, .inr (.inl x3), .inr (.inl x2), .inl x1, .inr (.inl x0)] σ Q := w_ld d57_107 rfl
theorem d57_108 : adec m57 108 = some (.iload_n 3, 1) := by decide +kernel
theorem s57_108 {l0 : Nat} {l1 : Int} {l2 : Int} {l3 : Int} {l4 : Int} {l5 : Int} {x0 : Nat} {x1 : Int} {x2 : Nat} {x3 : Nat} {x4 : Int} : WP m57 108 [.inr (.inl l0), .inl l1, .inl l2, .inl l3, .inl l4, .inl l5] [.inl x4, .inr (.inl x3), .inr (.inl x2), .inl x1, .inr (.inl x0)] σ Q = WP m57 109 [.inr (.inl l0), .inl l1, .inl l2, .inl l3, .inl l4, .inl l5] [.inl l3, .inl x4, .inr (.inl x3), .inr (.inl x2), .inl x1, .inr (.inl x0)] σ Q := w_ld d57_108 rfl
theorem d57_109 : adec m57 109 = some (.invokevirtual 123, 3) := by decide +kernel
theorem s57_109 {l0 : Nat} {l1 : Int} {l2 : Int} {l3 : Int} {l4 : Int} {l5 : Int} {x0 : Nat} {x1 : Int} {x2 : Nat} {x4 : Int} {x5 : Int} : WP m57 109 [.inr (.inl l0), .inl l1, .inl l2, .inl l3, .inl l4, .inl l5] [.inl x5, .inl x4, .inr (.inl 108), .inr (.inl x2), .inl x1, .inr (.inl x0)] σ Q = CA m59 [.inr (.inl 108), .inl x4, .inl x5] σ (fun v σ2 => WP m57 112 [.inr (.inl l0), .inl l1, .inl l2, .inl l3, .inl l4, .inl l5] (v ++ [.inr (.inl x2), .inl x1, .inr (.inl x0)]) σ2 Q) := (w_cV (k := 59) d57_109 (by decide +kernel) m59_at rfl rfl ⟨Nat.le_of_ble_eq_true rfl, Nat.le_of_ble_eq_true rfl, Nat.le_of_ble_eq_true rfl⟩ (by decide)).trans (g_and (isO_dec (by decide +kernel)))
theorem d57_112 : adec m57 112 = some (.iload 5, 2) := by decide +kernel
theorem s57_112 {l0 : Nat} {l1 : Int} {l2 : Int} {l3 : Int} {l4 : Int} {l5 : Int} {x0 : Nat} {x1 : Int} {x2 : Nat} {x3 : Int} : WP m57 112 [.inr (.inl l0), .inl l1, .inl l2, .inl l3, .inl l4, .inl l5] [.inl x3, .inr (.inl x2), .inl x1, .inr (.inl x0)] σ Q = WP m57 114 [.inr (.inl l0), .inl l1, .inl l2, .inl l3, .inl l4, .inl l5] [.inl l5, .inl x3, .inr (.inl x2), .inl x1, .inr (.inl x0)] σ Q := w_ld d57_112 rfl
theorem d57_114 : adec m57 114 = some (.invokevirtual 123, 3) := by decide +kernel
theorem s57_114 {l0 : Nat} {l1 : Int} {l2 : Int} {l3 : Int} {l4 : Int} {l5 : Int} {x0 : Nat} {x1 : Int} {x3 : Int} {x4 : Int} : WP m57 114 [.inr (.inl l0), .inl l1, .inl l2, .inl l3, .inl l4, .inl l5] [.inl x4, .inl x3, .inr (.inl 108), .inl x1, .inr (.inl x0)] σ Q = CA m59 [.inr (.inl 108), .inl x3, .inl x4] σ (fun v σ2 => WP m57 117 [.inr (.inl l0), .inl l1, .inl l2, .inl l3, .inl l4, .inl l5] (v ++ [.inl x1, .inr (.inl x0)]) σ2 Q) := (w_cV (k := 59) d57_114 (by decide +kernel) m59_at rfl rfl ⟨Nat.le_of_ble_eq_true rfl, Nat.le_of_ble_eq_true rfl, Nat.le_of_ble_eq_true rfl⟩ (by decide)).trans (g_and (isO_dec (by decide +kernel)))
theorem d57_117 : adec m57 117 = some (.invokevirtual 123, 3) := by decide +kernel
theorem s57_117 {l0 : Nat} {l1 : Int} {l2 : Int} {l3 : Int} {l4 : Int} {l5 : Int} {x1 : Int} {x2 : Int} : WP m57 117 [.inr (.inl l0), .inl l1, .inl l2, .inl l3, .inl l4, .inl l5] [.inl x2, .inl x1, .inr (.inl 108)] σ Q = CA m59 [.inr (.inl 108), .inl x1, .inl x2] σ (fun v σ2 => WP m57 120 [.inr (.inl l0), .inl l1, .inl l2, .inl l3, .inl l4, .inl l5] (v ++ []) σ2 Q) := (w_cV (k := 59) d57_117 (by decide +kernel) m59_at rfl rfl ⟨Nat.le_of_ble_eq_true rfl, Nat.le_of_ble_eq_true rfl, Nat.le_of_ble_eq_true rfl⟩ (by decide)).trans (g_and (isO_dec (by decide +kernel)))
theorem d57_120 : adec m57 120 = some (.ireturn, 1) := by decide +kernel
theorem s57_120 {l0 : Nat} {l1 : Int} {l2 : Int} {l3 : Int} {l4 : Int} {l5 : Int} {x0 : Int} : WP m57 120 [.inr (.inl l0), .inl l1, .inl l2, .inl l3, .inl l4, .inl l5] [.inl x0] σ Q = Q [.inl x0] σ := w_ri d57_120 rfl
theorem d57_121 : adec m57 121 = some (.aload_n 0, 1) := by decide +kernel
theorem s57_121 {l0 : Nat} {l1 : Int} {l2 : Int} {l3 : Int} {l4 : Int} {l5 : Int} : WP m57 121 [.inr (.inl l0), .inl l1, .inl l2, .inl l3, .inl l4, .inl l5] [] σ Q = WP m57 122 [.inr (.inl l0), .inl l1, .inl l2, .inl l3, .inl l4, .inl l5] [.inr (.inl l0)] σ Q := w_ld d57_121 rfl
theorem d57_122 : adec m57 122 = some (.aload_n 0, 1) := by decide +kernel
theorem s57_122 {l0 : Nat} {l1 : Int} {l2 : Int} {l3 : Int} {l4 : Int} {l5 : Int} {x0 : Nat} : WP m57 122 [.inr (.inl l0), .inl l1, .inl l2, .inl l3, .inl l4, .inl l5] [.inr (.inl x0)] σ Q = WP m57 123 [.inr (.inl l0), .inl l1, .inl l2, .inl l3, .inl l4, .inl l5] [.inr (.inl l0), .inr (.inl x0)] σ Q := w_ld d57_122 rfl
theorem d57_123 : adec m57 123 = some (.iload_n 2, 1) := by decide +kernel
theorem s57_123 {l0 : Nat} {l1 : Int} {l2 : Int} {l3 : Int} {l4 : Int} {l5 : Int} {x0 : Nat} {x1 : Nat} : WP m57 123 [.inr (.inl l0), .inl l1, .inl l2, .inl l3, .inl l4, .inl l5] [.inr (.inl x1), .inr (.inl x0)] σ Q = WP m57 124 [.inr (.inl l0), .inl l1, .inl l2, .inl l3, .inl l4, .inl l5] [.inl l2, .inr (.inl x1), .inr (.inl x0)] σ Q := w_ld d57_123 rfl
theorem d57_124 : adec m57 124 = some (.aload_n 0, 1) := by decide +kernel
theorem s57_124 {l0 : Nat} {l1 : Int} {l2 : Int} {l3 : Int} {l4 : Int} {l5 : Int} {x0 : Nat} {x1 : Nat} {x2 : Int} : WP m57 124 [.inr (.inl l0), .inl l1, .inl l2, .inl l3, .inl l4, .inl l5] [.inl x2, .inr (.inl x1), .inr (.inl x0)] σ Q = WP m57 125 [.inr (.inl l0), .inl l1, .inl l2, .inl l3, .inl l4, .inl l5] [.inr (.inl l0), .inl x2, .inr (.inl x1), .inr (.inl x0)] σ Q := w_ld d57_124 rfl
theorem d57_125 : adec m57 125 = some (.iload_n 3, 1) := by decide +kernel
theorem s57_125 {l0 : Nat} {l1 : Int} {l2 : Int} {l3 : Int} {l4 : Int} {l5 : Int} {x0 : Nat} {x1 : Nat} {x2 : Int} {x3 : Nat} : WP m57 125 [.inr (.inl l0), .inl l1, .inl l2, .inl l3, .inl l4, .inl l5] [.inr (.inl x3), .inl x2, .inr (.inl x1), .inr (.inl x0)] σ Q = WP m57 126 [.inr (.inl l0), .inl l1, .inl l2, .inl l3, .inl l4, .inl l5] [.inl l3, .inr (.inl x3), .inl x2, .inr (.inl x1), .inr (.inl x0)] σ Q := w_ld d57_125 rfl
theorem d57_126 : adec m57 126 = some (.iload 4, 2) := by decide +kernel
theorem s57_126 {l0 : Nat} {l1 : Int} {l2 : Int} {l3 : Int} {l4 : Int} {l5 : Int} {x0 : Nat} {x1 : Nat} {x2 : Int} {x3 : Nat} {x4 : Int} : WP m57 126 [.inr (.inl l0), .inl l1, .inl l2, .inl l3, .inl l4, .inl l5] [.inl x4, .inr (.inl x3), .inl x2, .inr (.inl x1), .inr (.inl x0)] σ Q = WP m57 128 [.inr (.inl l0), .inl l1, .inl l2, .inl l3, .inl l4, .inl l5] [.inl l4, .inl x4, .inr (.inl x3), .inl x2, .inr (.inl x1), .inr (.inl x0)] σ Q := w_ld d57_126 rfl
theorem d57_128 : adec m57 128 = some (.invokevirtual 123, 3) := by decide +kernel
theorem s57_128 {l0 : Nat} {l1 : Int} {l2 : Int} {l3 : Int} {l4 : Int} {l5 : Int} {x0 : Nat} {x1 : Nat} {x2 : Int} {x4 : Int} {x5 : Int} : WP m57 128 [.inr (.inl l0), .inl l1, .inl l2, .inl l3, .inl l4, .inl l5] [.inl x5, .inl x4, .inr (.inl 108), .inl x2, .inr (.inl x1), .inr (.inl x0)] σ Q = CA m59 [.inr (.inl 108), .inl x4, .inl x5] σ (fun v σ2 => WP m57 131 [.inr (.inl l0), .inl l1, .inl l2, .inl l3, .inl l4, .inl l5] (v ++ [.inl x2, .inr (.inl x1), .inr (.inl x0)]) σ2 Q) := (w_cV (k := 59) d57_128 (by decide +kernel) m59_at rfl rfl ⟨Nat.le_of_ble_eq_true rfl, Nat.le_of_ble_eq_true rfl, Nat.le_of_ble_eq_true rfl⟩ (by decide)).trans (g_and (isO_dec (by decide +kernel)))
theorem d57_131 : adec m57 131 = some (.invokevirtual 123, 3) := by decide +kernel
theorem s57_131 {l0 : Nat} {l1 : Int} {l2 : Int} {l3 : Int} {l4 : Int} {l5 : Int} {x0 : Nat} {x2 : Int} {x3 : Int} : WP m57 131 [.inr (.inl l0), .inl l1, .inl l2, .inl l3, .inl l4, .inl l5] [.inl x3, .inl x2, .inr (.inl 108), .inr (.inl x0)] σ Q = CA m59 [.inr (.inl 108), .inl x2, .inl x3] σ (fun v σ2 => WP m57 134 [.inr (.inl l0), .inl l1, .inl l2, .inl l3, .inl l4, .inl l5] (v ++ [.inr (.inl x0)]) σ2 Q) := (w_cV (k := 59) d57_131 (by decide +kernel) m59_at rfl rfl ⟨Nat.le_of_ble_eq_true rfl, Nat.le_of_ble_eq_true rfl, Nat.le_of_ble_eq_true rfl⟩ (by decide)).trans (g_and (isO_dec (by decide +kernel)))
theorem d57_134 : adec m57 134 = some (.aload_n 0, 1) := by decide +kernel
theorem s57_134 {l0 : Nat} {l1 : Int} {l2 : Int} {l3 : Int} {l4 : Int} {l5 : Int} {x0 : Nat} {x1 : Int} : WP m57 134 [.inr (.inl l0), .inl l1, .inl l2, .inl l3, .inl l4, .inl l5] [.inl x1, .inr (.inl x0)] σ Q = WP m57 135 [.inr (.inl l0), .inl l1, .inl l2, .inl l3, .inl l4, .inl l5] [.inr (.inl l0), .inl x1, .inr (.inl x0)] σ Q := w_ld d57_134 rfl
theorem d57_135 : adec m57 135 = some (.iload_n 3, 1) := by decide +kernel
theorem s57_135 {l0 : Nat} {l1 : Int} {l2 : Int} {l3 : Int} {l4 : Int} {l5 : Int} {x0 : Nat} {x1 : Int} {x2 : Nat} : WP m57 135 [.inr (.inl l0), .inl l1, .inl l2, .inl l3, .inl l4, .inl l5] [.inr (.inl x2), .inl x1, .inr (.inl x0)] σ Q = WP m57 136 [.inr (.inl l0), .inl l1, .inl l2, .inl l3, .inl l4, .inl l5] [.inl l3, .inr (.inl x2), .inl x1, .inr (.inl x0)] σ Q := w_ld d57_135 rfl
theorem d57_136 : adec m57 136 = some (.iload 5, 2) := by decide +kernel
theorem s57_136 {l0 : Nat} {l1 : Int} {l2 : Int} {l3 : Int} {l4 : Int} {l5 : Int} {x0 : Nat} {x1 : Int} {x2 : Nat} {x3 : Int} : WP m57 136 [.inr (.inl l0), .inl l1, .inl l2, .inl l3, .inl l4, .inl l5] [.inl x3, .inr (.inl x2), .inl x1, .inr (.inl x0)] σ Q = WP m57 138 [.inr (.inl l0), .inl l1, .inl l2, .inl l3, .inl l4, .inl l5] [.inl l5, .inl x3, .inr (.inl x2), .inl x1, .inr (.inl x0)] σ Q := w_ld d57_136 rfl
theorem d57_138 : adec m57 138 = some (.invokevirtual 123, 3) := by decide +kernel
theorem s57_138 {l0 : Nat} {l1 : Int} {l2 : Int} {l3 : Int} {l4 : Int} {l5 : Int} {x0 : Nat} {x1 : Int} {x3 : Int} {x4 : Int} : WP m57 138 [.inr (.inl l0), .inl l1, .inl l2, .inl l3, .inl l4, .inl l5] [.inl x4, .inl x3, .inr (.inl 108), .inl x1, .inr (.inl x0)] σ Q = CA m59 [.inr (.inl 108), .inl x3, .inl x4] σ (fun v σ2 => WP m57 141 [.inr (.inl l0), .inl l1, .inl l2, .inl l3, .inl l4, .inl l5] (v ++ [.inl x1, .inr (.inl x0)]) σ2 Q) := (w_cV (k := 59) d57_138 (by decide +kernel) m59_at rfl rfl ⟨Nat.le_of_ble_eq_true rfl, Nat.le_of_ble_eq_true rfl, Nat.le_of_ble_eq_true rfl⟩ (by decide)).trans (g_and (isO_dec (by decide +kernel)))
theorem d57_141 : adec m57 141 = some (.invokevirtual 123, 3) := by decide +kernel
theorem s57_141 {l0 : Nat} {l1 : Int} {l2 : Int} {l3 : Int} {l4 : Int} {l5 : Int} {x1 : Int} {x2 : Int} : WP m57 141 [.inr (.inl l0), .inl l1, .inl l2, .inl l3, .inl l4, .inl l5] [.inl x2, .inl x1, .inr (.inl 108)] σ Q = CA m59 [.inr (.inl 108), .inl x1, .inl x2] σ (fun v σ2 => WP m57 144 [.inr (.inl l0), .inl l1, .inl l2, .inl l3, .inl l4, .inl l5] (v ++ []) σ2 Q) := (w_cV (k := 59) d57_141 (by decide +kernel) m59_at rfl rfl ⟨Nat.le_of_ble_eq_true rfl, Nat.le_of_ble_eq_true rfl, Nat.le_of_ble_eq_true rfl⟩ (by decide)).trans (g_and (isO_dec (by decide +kernel)))
theorem d57_144 : adec m57 144 = some (.ireturn, 1) := by decide +kernel
theorem s57_144 {l0 : Nat} {l1 : Int} {l2 : Int} {l3 : Int} {l4 : Int} {l5 : Int} {x0 : Int} : WP m57 144 [.inr (.inl l0), .inl l1, .inl l2, .inl l3, .inl l4, .inl l5] [.inl x0] σ Q = Q [.inl x0] σ := w_ri d57_144 rfl
theorem e57 {p0 : Nat} {p1 : Int} : CA m57 [.inr (.inl p0), .inl p1] σ Q = WP m57 0 [.inr (.inl p0), .inl p1, vU, vU, vU, vU] [] σ Q := rfl
-- BinderPress$Sorter.unknown()I
theorem d58_0 : adec m58 0 = some (.aload_n 0, 1) := by decide +kernel
theorem s58_0 {l0 : Nat} : WP m58 0 [.inr (.inl l0)] [] σ Q = WP m58 1 [.inr (.inl l0)] [.inr (.inl l0)] σ Q := w_ld d58_0 rfl
theorem d58_1 : adec m58 1 = some (.iconst (-1), 1) := by decide +kernel
theorem s58_1 {l0 : Nat} {x0 : Nat} : WP m58 1 [.inr (.inl l0)] [.inr (.inl x0)] σ Q = WP m58 2 [.inr (.inl l0)] [.inl (-1), .inr (.inl x0)] σ Q := w_iconst d58_1 (by decide)
theorem d58_2 : adec m58 2 = some (.iconst (-1), 1) := by decide +kernel
theorem s58_2 {l0 : Nat} {x0 : Nat} {x1 : Int} : WP m58 2 [.inr (.inl l0)] [.inl x1, .inr (.inl x0)] σ Q = WP m58 3 [.inr (.inl l0)] [.inl (-1), .inl x1, .inr (.inl x0)] σ Q := w_iconst d58_2 (by decide)
theorem d58_3 : adec m58 3 = some (.invokevirtual 123, 3) := by decide +kernel
theorem s58_3 {l0 : Nat} {x1 : Int} {x2 : Int} : WP m58 3 [.inr (.inl l0)] [.inl x2, .inl x1, .inr (.inl 108)] σ Q = CA m59 [.inr (.inl 108), .inl x1, .inl x2] σ (fun v σ2 => WP m58 6 [.inr (.inl l0)] (v ++ []) σ2 Q) := (w_cV (k := 59) d58_3 (by decide +kernel) m59_at rfl rfl ⟨Nat.le_of_ble_eq_true rfl, Nat.le_of_ble_eq_true rfl, Nat.le_of_ble_eq_true rfl⟩ (by decide)).trans (g_and (isO_dec (by decide +kernel)))
theorem d58_6 : adec m58 6 = some (.ireturn, 1) := by decide +kernel
theorem s58_6 {l0 : Nat} {x0 : Int} : WP m58 6 [.inr (.inl l0)] [.inl x0] σ Q = Q [.inl x0] σ := w_ri d58_6 rfl
theorem e58 {p0 : Nat} : CA m58 [.inr (.inl p0)] σ Q = WP m58 0 [.inr (.inl p0)] [] σ Q := rfl
-- BinderPress$Sorter.arrow(II)I
theorem d59_0 : adec m59 0 = some (.aload_n 0, 1) := by decide +kernel
theorem s59_0 {l0 : Nat} {l1 : Int} {l2 : Int} : WP m59 0 [.inr (.inl l0), .inl l1, .inl l2] [] σ Q = WP m59 1 [.inr (.inl l0), .inl l1, .inl l2] [.inr (.inl l0)] σ Q := w_ld d59_0 rfl
theorem d59_1 : adec m59 1 = some (.getfield 16, 3) := by decide +kernel
theorem s59_1 {l0 : Nat} {l1 : Int} {l2 : Int} : WP m59 1 [.inr (.inl l0), .inl l1, .inl l2] [.inr (.inl 108)] σ Q = WP m59 4 [.inr (.inl l0), .inl l1, .inl l2] [.inr (.inl 109)] σ Q := (w_getR (c := 5) (n := 0) d59_1 (by decide +kernel) (by decide +kernel)).trans (g_and ⟨isO_dec (by decide +kernel), by decide +kernel⟩)
theorem d59_4 : adec m59 4 = some (.iload_n 1, 1) := by decide +kernel
theorem s59_4 {l0 : Nat} {l1 : Int} {l2 : Int} {x0 : Nat} : WP m59 4 [.inr (.inl l0), .inl l1, .inl l2] [.inr (.inl x0)] σ Q = WP m59 5 [.inr (.inl l0), .inl l1, .inl l2] [.inl l1, .inr (.inl x0)] σ Q := w_ld d59_4 rfl
theorem d59_5 : adec m59 5 = some (.invokevirtual 85, 3) := by decide +kernel
theorem s59_5 {l0 : Nat} {l1 : Int} {l2 : Int} {x0 : Nat} {x1 : Int} : WP m59 5 [.inr (.inl l0), .inl l1, .inl l2] [.inl x1, .inr (.inl x0)] σ Q = (isO x0 3 ∧ CA m34 [.inr (.inl x0), .inl x1] σ (fun v σ2 => WP m59 8 [.inr (.inl l0), .inl l1, .inl l2] (v ++ []) σ2 Q)) := w_cV (k := 34) d59_5 (by decide +kernel) m34_at rfl rfl ⟨Nat.le_of_ble_eq_true rfl, Nat.le_of_ble_eq_true rfl, Nat.le_of_ble_eq_true rfl⟩ (by decide)
theorem d59_8 : adec m59 8 = some (.aload_n 0, 1) := by decide +kernel
theorem s59_8 {l0 : Nat} {l1 : Int} {l2 : Int} : WP m59 8 [.inr (.inl l0), .inl l1, .inl l2] [] σ Q = WP m59 9 [.inr (.inl l0), .inl l1, .inl l2] [.inr (.inl l0)] σ Q := w_ld d59_8 rfl
theorem d59_9 : adec m59 9 = some (.getfield 20, 3) := by decide +kernel
theorem s59_9 {l0 : Nat} {l1 : Int} {l2 : Int} : WP m59 9 [.inr (.inl l0), .inl l1, .inl l2] [.inr (.inl 108)] σ Q = WP m59 12 [.inr (.inl l0), .inl l1, .inl l2] [.inr (.inl 111)] σ Q := (w_getR (c := 5) (n := 1) d59_9 (by decide +kernel) (by decide +kernel)).trans (g_and ⟨isO_dec (by decide +kernel), by decide +kernel⟩)
theorem d59_12 : adec m59 12 = some (.iload_n 2, 1) := by decide +kernel
theorem s59_12 {l0 : Nat} {l1 : Int} {l2 : Int} {x0 : Nat} : WP m59 12 [.inr (.inl l0), .inl l1, .inl l2] [.inr (.inl x0)] σ Q = WP m59 13 [.inr (.inl l0), .inl l1, .inl l2] [.inl l2, .inr (.inl x0)] σ Q := w_ld d59_12 rfl
theorem d59_13 : adec m59 13 = some (.invokevirtual 85, 3) := by decide +kernel
theorem s59_13 {l0 : Nat} {l1 : Int} {l2 : Int} {x0 : Nat} {x1 : Int} : WP m59 13 [.inr (.inl l0), .inl l1, .inl l2] [.inl x1, .inr (.inl x0)] σ Q = (isO x0 3 ∧ CA m34 [.inr (.inl x0), .inl x1] σ (fun v σ2 => WP m59 16 [.inr (.inl l0), .inl l1, .inl l2] (v ++ []) σ2 Q)) := w_cV (k := 34) d59_13 (by decide +kernel) m34_at rfl rfl ⟨Nat.le_of_ble_eq_true rfl, Nat.le_of_ble_eq_true rfl, Nat.le_of_ble_eq_true rfl⟩ (by decide)
theorem d59_16 : adec m59 16 = some (.aload_n 0, 1) := by decide +kernel
theorem s59_16 {l0 : Nat} {l1 : Int} {l2 : Int} : WP m59 16 [.inr (.inl l0), .inl l1, .inl l2] [] σ Q = WP m59 17 [.inr (.inl l0), .inl l1, .inl l2] [.inr (.inl l0)] σ Q := w_ld d59_16 rfl
theorem d59_17 : adec m59 17 = some (.getfield 23, 3) := by decide +kernel
theorem s59_17 {l0 : Nat} {l1 : Int} {l2 : Int} : WP m59 17 [.inr (.inl l0), .inl l1, .inl l2] [.inr (.inl 108)] σ Q = WP m59 20 [.inr (.inl l0), .inl l1, .inl l2] [.inr (.inl 113)] σ Q := (w_getR (c := 5) (n := 2) d59_17 (by decide +kernel) (by decide +kernel)).trans (g_and ⟨isO_dec (by decide +kernel), by decide +kernel⟩)
theorem d59_20 : adec m59 20 = some (.aload_n 0, 1) := by decide +kernel
theorem s59_20 {l0 : Nat} {l1 : Int} {l2 : Int} {x0 : Nat} : WP m59 20 [.inr (.inl l0), .inl l1, .inl l2] [.inr (.inl x0)] σ Q = WP m59 21 [.inr (.inl l0), .inl l1, .inl l2] [.inr (.inl l0), .inr (.inl x0)] σ Q := w_ld d59_20 rfl
theorem d59_21 : adec m59 21 = some (.getfield 23, 3) := by decide +kernel
theorem s59_21 {l0 : Nat} {l1 : Int} {l2 : Int} {x0 : Nat} : WP m59 21 [.inr (.inl l0), .inl l1, .inl l2] [.inr (.inl 108), .inr (.inl x0)] σ Q = WP m59 24 [.inr (.inl l0), .inl l1, .inl l2] [.inr (.inl 113), .inr (.inl x0)] σ Q := (w_getR (c := 5) (n := 2) d59_21 (by decide +kernel) (by decide +kernel)).trans (g_and ⟨isO_dec (by decide +kernel), by decide +kernel⟩)
theorem d59_24 : adec m59 24 = some (.invokevirtual 58, 3) := by decide +kernel
theorem s59_24 {l0 : Nat} {l1 : Int} {l2 : Int} {x0 : Nat} {x1 : Nat} : WP m59 24 [.inr (.inl l0), .inl l1, .inl l2] [.inr (.inl x1), .inr (.inl x0)] σ Q = (isO x1 3 ∧ CA m28 [.inr (.inl x1)] σ (fun v σ2 => WP m59 27 [.inr (.inl l0), .inl l1, .inl l2] (v ++ [.inr (.inl x0)]) σ2 Q)) := w_cV (k := 28) d59_24 (by decide +kernel) m28_at rfl rfl ⟨Nat.le_of_ble_eq_true rfl, Nat.le_of_ble_eq_true rfl, Nat.le_of_ble_eq_true rfl⟩ (by decide)
theorem d59_27 : adec m59 27 = some (.invokevirtual 85, 3) := by decide +kernel
theorem s59_27 {l0 : Nat} {l1 : Int} {l2 : Int} {x0 : Nat} {x1 : Int} : WP m59 27 [.inr (.inl l0), .inl l1, .inl l2] [.inl x1, .inr (.inl x0)] σ Q = (isO x0 3 ∧ CA m34 [.inr (.inl x0), .inl x1] σ (fun v σ2 => WP m59 30 [.inr (.inl l0), .inl l1, .inl l2] (v ++ []) σ2 Q)) := w_cV (k := 34) d59_27 (by decide +kernel) m34_at rfl rfl ⟨Nat.le_of_ble_eq_true rfl, Nat.le_of_ble_eq_true rfl, Nat.le_of_ble_eq_true rfl⟩ (by decide)
theorem d59_30 : adec m59 30 = some (.aload_n 0, 1) := by decide +kernel
theorem s59_30 {l0 : Nat} {l1 : Int} {l2 : Int} : WP m59 30 [.inr (.inl l0), .inl l1, .inl l2] [] σ Q = WP m59 31 [.inr (.inl l0), .inl l1, .inl l2] [.inr (.inl l0)] σ Q := w_ld d59_30 rfl
theorem d59_31 : adec m59 31 = some (.getfield 23, 3) := by decide +kernel
theorem s59_31 {l0 : Nat} {l1 : Int} {l2 : Int} : WP m59 31 [.inr (.inl l0), .inl l1, .inl l2] [.inr (.inl 108)] σ Q = WP m59 34 [.inr (.inl l0), .inl l1, .inl l2] [.inr (.inl 113)] σ Q := (w_getR (c := 5) (n := 2) d59_31 (by decide +kernel) (by decide +kernel)).trans (g_and ⟨isO_dec (by decide +kernel), by decide +kernel⟩)
theorem d59_34 : adec m59 34 = some (.invokevirtual 58, 3) := by decide +kernel
theorem s59_34 {l0 : Nat} {l1 : Int} {l2 : Int} {x0 : Nat} : WP m59 34 [.inr (.inl l0), .inl l1, .inl l2] [.inr (.inl x0)] σ Q = (isO x0 3 ∧ CA m28 [.inr (.inl x0)] σ (fun v σ2 => WP m59 37 [.inr (.inl l0), .inl l1, .inl l2] (v ++ []) σ2 Q)) := w_cV (k := 28) d59_34 (by decide +kernel) m28_at rfl rfl ⟨Nat.le_of_ble_eq_true rfl, Nat.le_of_ble_eq_true rfl, Nat.le_of_ble_eq_true rfl⟩ (by decide)
theorem d59_37 : adec m59 37 = some (.iconst (1), 1) := by decide +kernel
theorem s59_37 {l0 : Nat} {l1 : Int} {l2 : Int} {x0 : Int} : WP m59 37 [.inr (.inl l0), .inl l1, .inl l2] [.inl x0] σ Q = WP m59 38 [.inr (.inl l0), .inl l1, .inl l2] [.inl (1), .inl x0] σ Q := w_iconst d59_37 (by decide)
theorem d59_38 : adec m59 38 = some (.isub, 1) := by decide +kernel
theorem s59_38 {l0 : Nat} {l1 : Int} {l2 : Int} {x0 : Int} {x1 : Int} : WP m59 38 [.inr (.inl l0), .inl l1, .inl l2] [.inl x1, .inl x0] σ Q = (inI (x0 - x1) ∧ WP m59 39 [.inr (.inl l0), .inl l1, .inl l2] [.inl (x0 - x1)] σ Q) := w_isub d59_38
theorem d59_39 : adec m59 39 = some (.ireturn, 1) := by decide +kernel
theorem s59_39 {l0 : Nat} {l1 : Int} {l2 : Int} {x0 : Int} : WP m59 39 [.inr (.inl l0), .inl l1, .inl l2] [.inl x0] σ Q = Q [.inl x0] σ := w_ri d59_39 rfl
theorem e59 {p0 : Nat} {p1 : Int} {p2 : Int} : CA m59 [.inr (.inl p0), .inl p1, .inl p2] σ Q = WP m59 0 [.inr (.inl p0), .inl p1, .inl p2] [] σ Q := rfl
-- BinderPress$Sorter.isUnknown(I)Z
theorem d60_0 : adec m60 0 = some (.aload_n 0, 1) := by decide +kernel
theorem s60_0 {l0 : Nat} {l1 : Int} : WP m60 0 [.inr (.inl l0), .inl l1] [] σ Q = WP m60 1 [.inr (.inl l0), .inl l1] [.inr (.inl l0)] σ Q := w_ld d60_0 rfl
theorem d60_1 : adec m60 1 = some (.getfield 16, 3) := by decide +kernel
theorem s60_1 {l0 : Nat} {l1 : Int} : WP m60 1 [.inr (.inl l0), .inl l1] [.inr (.inl 108)] σ Q = WP m60 4 [.inr (.inl l0), .inl l1] [.inr (.inl 109)] σ Q := (w_getR (c := 5) (n := 0) d60_1 (by decide +kernel) (by decide +kernel)).trans (g_and ⟨isO_dec (by decide +kernel), by decide +kernel⟩)
theorem d60_4 : adec m60 4 = some (.iload_n 1, 1) := by decide +kernel
theorem s60_4 {l0 : Nat} {l1 : Int} {x0 : Nat} : WP m60 4 [.inr (.inl l0), .inl l1] [.inr (.inl x0)] σ Q = WP m60 5 [.inr (.inl l0), .inl l1] [.inl l1, .inr (.inl x0)] σ Q := w_ld d60_4 rfl
theorem d60_5 : adec m60 5 = some (.invokevirtual 62, 3) := by decide +kernel
theorem s60_5 {l0 : Nat} {l1 : Int} {x0 : Nat} {x1 : Int} : WP m60 5 [.inr (.inl l0), .inl l1] [.inl x1, .inr (.inl x0)] σ Q = (isO x0 3 ∧ CA m30 [.inr (.inl x0), .inl x1] σ (fun v σ2 => WP m60 8 [.inr (.inl l0), .inl l1] (v ++ []) σ2 Q)) := w_cV (k := 30) d60_5 (by decide +kernel) m30_at rfl rfl ⟨Nat.le_of_ble_eq_true rfl, Nat.le_of_ble_eq_true rfl, Nat.le_of_ble_eq_true rfl⟩ (by decide)
theorem d60_8 : adec m60 8 = some (.iconst (-1), 1) := by decide +kernel
theorem s60_8 {l0 : Nat} {l1 : Int} {x0 : Int} : WP m60 8 [.inr (.inl l0), .inl l1] [.inl x0] σ Q = WP m60 9 [.inr (.inl l0), .inl l1] [.inl (-1), .inl x0] σ Q := w_iconst d60_8 (by decide)
theorem d60_9 : adec m60 9 = some (.if_icmp .ne (7), 3) := by decide +kernel
theorem s60_9 {l0 : Nat} {l1 : Int} {x0 : Int} {x1 : Int} : WP m60 9 [.inr (.inl l0), .inl l1] [.inl x1, .inl x0] σ Q = (if x0 = x1 then WP m60 12 [.inr (.inl l0), .inl l1] [] σ Q else WP m60 16 [.inr (.inl l0), .inl l1] [] σ Q) := w_icne d60_9 (by decide)
theorem d60_12 : adec m60 12 = some (.iconst (1), 1) := by decide +kernel
theorem s60_12 {l0 : Nat} {l1 : Int} : WP m60 12 [.inr (.inl l0), .inl l1] [] σ Q = WP m60 13 [.inr (.inl l0), .inl l1] [.inl (1)] σ Q := w_iconst d60_12 (by decide)
theorem d60_13 : adec m60 13 = some (.goto (4), 3) := by decide +kernel
theorem s60_13 {l0 : Nat} {l1 : Int} {x0 : Int} : WP m60 13 [.inr (.inl l0), .inl l1] [.inl x0] σ Q = WP m60 17 [.inr (.inl l0), .inl l1] [.inl x0] σ Q := w_goto d60_13 (by decide)
theorem d60_16 : adec m60 16 = some (.iconst (0), 1) := by decide +kernel
theorem s60_16 {l0 : Nat} {l1 : Int} : WP m60 16 [.inr (.inl l0), .inl l1] [] σ Q = WP m60 17 [.inr (.inl l0), .inl l1] [.inl (0)] σ Q := w_iconst d60_16 (by decide)
theorem d60_17 : adec m60 17 = some (.ireturn, 1) := by decide +kernel
theorem s60_17 {l0 : Nat} {l1 : Int} {x0 : Int} : WP m60 17 [.inr (.inl l0), .inl l1] [.inl x0] σ Q = ((x0 = 0 ∨ x0 = 1) ∧ Q [.inl x0] σ) := w_rz d60_17 rfl
theorem e60 {p0 : Nat} {p1 : Int} : CA m60 [.inr (.inl p0), .inl p1] σ Q = WP m60 0 [.inr (.inl p0), .inl p1] [] σ Q := rfl
-- BinderPress$Sorter.meant(I)I
theorem d61_0 : adec m61 0 = some (.iload_n 1, 1) := by decide +kernel
theorem s61_0 {l0 : Nat} {l1 : Int} {l2 : AV} {l3 : AV} : WP m61 0 [.inr (.inl l0), .inl l1, l2, l3] [] σ Q = WP m61 1 [.inr (.inl l0), .inl l1, l2, l3] [.inl l1] σ Q := w_ld d61_0 rfl
theorem d61_1 : adec m61 1 = some (.istore_n 2, 1) := by decide +kernel
theorem s61_1 {l0 : Nat} {l1 : Int} {l2 : AV} {l3 : AV} {x0 : Int} : WP m61 1 [.inr (.inl l0), .inl l1, l2, l3] [.inl x0] σ Q = WP m61 2 [.inr (.inl l0), .inl l1, .inl x0, l3] [] σ Q := w_st1 (j := 2) d61_1 rfl (Nat.le_of_ble_eq_true rfl) rfl
theorem d61_2 : adec m61 2 = some (.iconst (0), 1) := by decide +kernel
theorem s61_2 {l0 : Nat} {l1 : Int} {l2 : Int} {l3 : AV} : WP m61 2 [.inr (.inl l0), .inl l1, .inl l2, l3] [] σ Q = WP m61 3 [.inr (.inl l0), .inl l1, .inl l2, l3] [.inl (0)] σ Q := w_iconst d61_2 (by decide)
theorem d61_3 : adec m61 3 = some (.istore_n 3, 1) := by decide +kernel
theorem s61_3 {l0 : Nat} {l1 : Int} {l2 : Int} {l3 : AV} {x0 : Int} : WP m61 3 [.inr (.inl l0), .inl l1, .inl l2, l3] [.inl x0] σ Q = WP m61 4 [.inr (.inl l0), .inl l1, .inl l2, .inl x0] [] σ Q := w_st1 (j := 3) d61_3 rfl (Nat.le_of_ble_eq_true rfl) rfl
theorem d61_4 : adec m61 4 = some (.iload_n 3, 1) := by decide +kernel
theorem s61_4 {l0 : Nat} {l1 : Int} {l2 : Int} {l3 : Int} : WP m61 4 [.inr (.inl l0), .inl l1, .inl l2, .inl l3] [] σ Q = WP m61 5 [.inr (.inl l0), .inl l1, .inl l2, .inl l3] [.inl l3] σ Q := w_ld d61_4 rfl
theorem d61_5 : adec m61 5 = some (.sipush (720), 3) := by decide +kernel
theorem s61_5 {l0 : Nat} {l1 : Int} {l2 : Int} {l3 : Int} {x0 : Int} : WP m61 5 [.inr (.inl l0), .inl l1, .inl l2, .inl l3] [.inl x0] σ Q = WP m61 8 [.inr (.inl l0), .inl l1, .inl l2, .inl l3] [.inl (720), .inl x0] σ Q := w_sipush d61_5 (by decide)
theorem d61_8 : adec m61 8 = some (.if_icmp .ge (53), 3) := by decide +kernel
theorem s61_8 {l0 : Nat} {l1 : Int} {l2 : Int} {l3 : Int} {x0 : Int} {x1 : Int} : WP m61 8 [.inr (.inl l0), .inl l1, .inl l2, .inl l3] [.inl x1, .inl x0] σ Q = (if x1 ≤ x0 then WP m61 61 [.inr (.inl l0), .inl l1, .inl l2, .inl l3] [] σ Q else WP m61 11 [.inr (.inl l0), .inl l1, .inl l2, .inl l3] [] σ Q) := w_icge d61_8 (by decide)
theorem d61_11 : adec m61 11 = some (.aload_n 0, 1) := by decide +kernel
theorem s61_11 {l0 : Nat} {l1 : Int} {l2 : Int} {l3 : Int} : WP m61 11 [.inr (.inl l0), .inl l1, .inl l2, .inl l3] [] σ Q = WP m61 12 [.inr (.inl l0), .inl l1, .inl l2, .inl l3] [.inr (.inl l0)] σ Q := w_ld d61_11 rfl
theorem d61_12 : adec m61 12 = some (.getfield 23, 3) := by decide +kernel
theorem s61_12 {l0 : Nat} {l1 : Int} {l2 : Int} {l3 : Int} : WP m61 12 [.inr (.inl l0), .inl l1, .inl l2, .inl l3] [.inr (.inl 108)] σ Q = WP m61 15 [.inr (.inl l0), .inl l1, .inl l2, .inl l3] [.inr (.inl 113)] σ Q := (w_getR (c := 5) (n := 2) d61_12 (by decide +kernel) (by decide +kernel)).trans (g_and ⟨isO_dec (by decide +kernel), by decide +kernel⟩)
theorem d61_15 : adec m61 15 = some (.iload_n 2, 1) := by decide +kernel
theorem s61_15 {l0 : Nat} {l1 : Int} {l2 : Int} {l3 : Int} {x0 : Nat} : WP m61 15 [.inr (.inl l0), .inl l1, .inl l2, .inl l3] [.inr (.inl x0)] σ Q = WP m61 16 [.inr (.inl l0), .inl l1, .inl l2, .inl l3] [.inl l2, .inr (.inl x0)] σ Q := w_ld d61_15 rfl
theorem d61_16 : adec m61 16 = some (.invokevirtual 62, 3) := by decide +kernel
theorem s61_16 {l0 : Nat} {l1 : Int} {l2 : Int} {l3 : Int} {x0 : Nat} {x1 : Int} : WP m61 16 [.inr (.inl l0), .inl l1, .inl l2, .inl l3] [.inl x1, .inr (.inl x0)] σ Q = (isO x0 3 ∧ CA m30 [.inr (.inl x0), .inl x1] σ (fun v σ2 => WP m61 19 [.inr (.inl l0), .inl l1, .inl l2, .inl l3] (v ++ []) σ2 Q)) := w_cV (k := 30) d61_16 (by decide +kernel) m30_at rfl rfl ⟨Nat.le_of_ble_eq_true rfl, Nat.le_of_ble_eq_true rfl, Nat.le_of_ble_eq_true rfl⟩ (by decide)
theorem d61_19 : adec m61 19 = some (.iload_n 2, 1) := by decide +kernel
theorem s61_19 {l0 : Nat} {l1 : Int} {l2 : Int} {l3 : Int} {x0 : Int} : WP m61 19 [.inr (.inl l0), .inl l1, .inl l2, .inl l3] [.inl x0] σ Q = WP m61 20 [.inr (.inl l0), .inl l1, .inl l2, .inl l3] [.inl l2, .inl x0] σ Q := w_ld d61_19 rfl
theorem d61_20 : adec m61 20 = some (.if_icmp .eq (41), 3) := by decide +kernel
theorem s61_20 {l0 : Nat} {l1 : Int} {l2 : Int} {l3 : Int} {x0 : Int} {x1 : Int} : WP m61 20 [.inr (.inl l0), .inl l1, .inl l2, .inl l3] [.inl x1, .inl x0] σ Q = (if x0 = x1 then WP m61 61 [.inr (.inl l0), .inl l1, .inl l2, .inl l3] [] σ Q else WP m61 23 [.inr (.inl l0), .inl l1, .inl l2, .inl l3] [] σ Q) := w_iceq d61_20 (by decide)
theorem d61_23 : adec m61 23 = some (.aload_n 0, 1) := by decide +kernel
theorem s61_23 {l0 : Nat} {l1 : Int} {l2 : Int} {l3 : Int} : WP m61 23 [.inr (.inl l0), .inl l1, .inl l2, .inl l3] [] σ Q = WP m61 24 [.inr (.inl l0), .inl l1, .inl l2, .inl l3] [.inr (.inl l0)] σ Q := w_ld d61_23 rfl
theorem d61_24 : adec m61 24 = some (.getfield 23, 3) := by decide +kernel
theorem s61_24 {l0 : Nat} {l1 : Int} {l2 : Int} {l3 : Int} : WP m61 24 [.inr (.inl l0), .inl l1, .inl l2, .inl l3] [.inr (.inl 108)] σ Q = WP m61 27 [.inr (.inl l0), .inl l1, .inl l2, .inl l3] [.inr (.inl 113)] σ Q := (w_getR (c := 5) (n := 2) d61_24 (by decide +kernel) (by decide +kernel)).trans (g_and ⟨isO_dec (by decide +kernel), by decide +kernel⟩)
theorem d61_27 : adec m61 27 = some (.iload_n 2, 1) := by decide +kernel
theorem s61_27 {l0 : Nat} {l1 : Int} {l2 : Int} {l3 : Int} {x0 : Nat} : WP m61 27 [.inr (.inl l0), .inl l1, .inl l2, .inl l3] [.inr (.inl x0)] σ Q = WP m61 28 [.inr (.inl l0), .inl l1, .inl l2, .inl l3] [.inl l2, .inr (.inl x0)] σ Q := w_ld d61_27 rfl
theorem d61_28 : adec m61 28 = some (.aload_n 0, 1) := by decide +kernel
theorem s61_28 {l0 : Nat} {l1 : Int} {l2 : Int} {l3 : Int} {x0 : Nat} {x1 : Int} : WP m61 28 [.inr (.inl l0), .inl l1, .inl l2, .inl l3] [.inl x1, .inr (.inl x0)] σ Q = WP m61 29 [.inr (.inl l0), .inl l1, .inl l2, .inl l3] [.inr (.inl l0), .inl x1, .inr (.inl x0)] σ Q := w_ld d61_28 rfl
theorem d61_29 : adec m61 29 = some (.getfield 23, 3) := by decide +kernel
theorem s61_29 {l0 : Nat} {l1 : Int} {l2 : Int} {l3 : Int} {x0 : Nat} {x1 : Int} : WP m61 29 [.inr (.inl l0), .inl l1, .inl l2, .inl l3] [.inr (.inl 108), .inl x1, .inr (.inl x0)] σ Q = WP m61 32 [.inr (.inl l0), .inl l1, .inl l2, .inl l3] [.inr (.inl 113), .inl x1, .inr (.inl x0)] σ Q := (w_getR (c := 5) (n := 2) d61_29 (by decide +kernel) (by decide +kernel)).trans (g_and ⟨isO_dec (by decide +kernel), by decide +kernel⟩)
theorem d61_32 : adec m61 32 = some (.aload_n 0, 1) := by decide +kernel
theorem s61_32 {l0 : Nat} {l1 : Int} {l2 : Int} {l3 : Int} {x0 : Nat} {x1 : Int} {x2 : Nat} : WP m61 32 [.inr (.inl l0), .inl l1, .inl l2, .inl l3] [.inr (.inl x2), .inl x1, .inr (.inl x0)] σ Q = WP m61 33 [.inr (.inl l0), .inl l1, .inl l2, .inl l3] [.inr (.inl l0), .inr (.inl x2), .inl x1, .inr (.inl x0)] σ Q := w_ld d61_32 rfl
theorem d61_33 : adec m61 33 = some (.getfield 23, 3) := by decide +kernel
theorem s61_33 {l0 : Nat} {l1 : Int} {l2 : Int} {l3 : Int} {x0 : Nat} {x1 : Int} {x2 : Nat} : WP m61 33 [.inr (.inl l0), .inl l1, .inl l2, .inl l3] [.inr (.inl 108), .inr (.inl x2), .inl x1, .inr (.inl x0)] σ Q = WP m61 36 [.inr (.inl l0), .inl l1, .inl l2, .inl l3] [.inr (.inl 113), .inr (.inl x2), .inl x1, .inr (.inl x0)] σ Q := (w_getR (c := 5) (n := 2) d61_33 (by decide +kernel) (by decide +kernel)).trans (g_and ⟨isO_dec (by decide +kernel), by decide +kernel⟩)
theorem d61_36 : adec m61 36 = some (.iload_n 2, 1) := by decide +kernel
theorem s61_36 {l0 : Nat} {l1 : Int} {l2 : Int} {l3 : Int} {x0 : Nat} {x1 : Int} {x2 : Nat} {x3 : Nat} : WP m61 36 [.inr (.inl l0), .inl l1, .inl l2, .inl l3] [.inr (.inl x3), .inr (.inl x2), .inl x1, .inr (.inl x0)] σ Q = WP m61 37 [.inr (.inl l0), .inl l1, .inl l2, .inl l3] [.inl l2, .inr (.inl x3), .inr (.inl x2), .inl x1, .inr (.inl x0)] σ Q := w_ld d61_36 rfl
theorem d61_37 : adec m61 37 = some (.invokevirtual 62, 3) := by decide +kernel
theorem s61_37 {l0 : Nat} {l1 : Int} {l2 : Int} {l3 : Int} {x0 : Nat} {x1 : Int} {x2 : Nat} {x3 : Nat} {x4 : Int} : WP m61 37 [.inr (.inl l0), .inl l1, .inl l2, .inl l3] [.inl x4, .inr (.inl x3), .inr (.inl x2), .inl x1, .inr (.inl x0)] σ Q = (isO x3 3 ∧ CA m30 [.inr (.inl x3), .inl x4] σ (fun v σ2 => WP m61 40 [.inr (.inl l0), .inl l1, .inl l2, .inl l3] (v ++ [.inr (.inl x2), .inl x1, .inr (.inl x0)]) σ2 Q)) := w_cV (k := 30) d61_37 (by decide +kernel) m30_at rfl rfl ⟨Nat.le_of_ble_eq_true rfl, Nat.le_of_ble_eq_true rfl, Nat.le_of_ble_eq_true rfl⟩ (by decide)
theorem d61_40 : adec m61 40 = some (.invokevirtual 62, 3) := by decide +kernel
theorem s61_40 {l0 : Nat} {l1 : Int} {l2 : Int} {l3 : Int} {x0 : Nat} {x1 : Int} {x2 : Nat} {x3 : Int} : WP m61 40 [.inr (.inl l0), .inl l1, .inl l2, .inl l3] [.inl x3, .inr (.inl x2), .inl x1, .inr (.inl x0)] σ Q = (isO x2 3 ∧ CA m30 [.inr (.inl x2), .inl x3] σ (fun v σ2 => WP m61 43 [.inr (.inl l0), .inl l1, .inl l2, .inl l3] (v ++ [.inl x1, .inr (.inl x0)]) σ2 Q)) := w_cV (k := 30) d61_40 (by decide +kernel) m30_at rfl rfl ⟨Nat.le_of_ble_eq_true rfl, Nat.le_of_ble_eq_true rfl, Nat.le_of_ble_eq_true rfl⟩ (by decide)
theorem d61_43 : adec m61 43 = some (.invokevirtual 104, 3) := by decide +kernel
theorem s61_43 {l0 : Nat} {l1 : Int} {l2 : Int} {l3 : Int} {x0 : Nat} {x1 : Int} {x2 : Int} : WP m61 43 [.inr (.inl l0), .inl l1, .inl l2, .inl l3] [.inl x2, .inl x1, .inr (.inl x0)] σ Q = (isO x0 3 ∧ CA m33 [.inr (.inl x0), .inl x1, .inl x2] σ (fun v σ2 => WP m61 46 [.inr (.inl l0), .inl l1, .inl l2, .inl l3] (v ++ []) σ2 Q)) := w_cV (k := 33) d61_43 (by decide +kernel) m33_at rfl rfl ⟨Nat.le_of_ble_eq_true rfl, Nat.le_of_ble_eq_true rfl, Nat.le_of_ble_eq_true rfl⟩ (by decide)
theorem d61_46 : adec m61 46 = some (.aload_n 0, 1) := by decide +kernel
theorem s61_46 {l0 : Nat} {l1 : Int} {l2 : Int} {l3 : Int} : WP m61 46 [.inr (.inl l0), .inl l1, .inl l2, .inl l3] [] σ Q = WP m61 47 [.inr (.inl l0), .inl l1, .inl l2, .inl l3] [.inr (.inl l0)] σ Q := w_ld d61_46 rfl
theorem d61_47 : adec m61 47 = some (.getfield 23, 3) := by decide +kernel
theorem s61_47 {l0 : Nat} {l1 : Int} {l2 : Int} {l3 : Int} : WP m61 47 [.inr (.inl l0), .inl l1, .inl l2, .inl l3] [.inr (.inl 108)] σ Q = WP m61 50 [.inr (.inl l0), .inl l1, .inl l2, .inl l3] [.inr (.inl 113)] σ Q := (w_getR (c := 5) (n := 2) d61_47 (by decide +kernel) (by decide +kernel)).trans (g_and ⟨isO_dec (by decide +kernel), by decide +kernel⟩)
theorem d61_50 : adec m61 50 = some (.iload_n 2, 1) := by decide +kernel
theorem s61_50 {l0 : Nat} {l1 : Int} {l2 : Int} {l3 : Int} {x0 : Nat} : WP m61 50 [.inr (.inl l0), .inl l1, .inl l2, .inl l3] [.inr (.inl x0)] σ Q = WP m61 51 [.inr (.inl l0), .inl l1, .inl l2, .inl l3] [.inl l2, .inr (.inl x0)] σ Q := w_ld d61_50 rfl
theorem d61_51 : adec m61 51 = some (.invokevirtual 62, 3) := by decide +kernel
theorem s61_51 {l0 : Nat} {l1 : Int} {l2 : Int} {l3 : Int} {x0 : Nat} {x1 : Int} : WP m61 51 [.inr (.inl l0), .inl l1, .inl l2, .inl l3] [.inl x1, .inr (.inl x0)] σ Q = (isO x0 3 ∧ CA m30 [.inr (.inl x0), .inl x1] σ (fun v σ2 => WP m61 54 [.inr (.inl l0), .inl l1, .inl l2, .inl l3] (v ++ []) σ2 Q)) := w_cV (k := 30) d61_51 (by decide +kernel) m30_at rfl rfl ⟨Nat.le_of_ble_eq_true rfl, Nat.le_of_ble_eq_true rfl, Nat.le_of_ble_eq_true rfl⟩ (by decide)
theorem d61_54 : adec m61 54 = some (.istore_n 2, 1) := by decide +kernel
theorem s61_54 {l0 : Nat} {l1 : Int} {l2 : Int} {l3 : Int} {x0 : Int} : WP m61 54 [.inr (.inl l0), .inl l1, .inl l2, .inl l3] [.inl x0] σ Q = WP m61 55 [.inr (.inl l0), .inl l1, .inl x0, .inl l3] [] σ Q := w_st1 (j := 2) d61_54 rfl (Nat.le_of_ble_eq_true rfl) rfl
theorem d61_55 : adec m61 55 = some (.iinc 3 (1), 3) := by decide +kernel
theorem s61_55 {l0 : Nat} {l1 : Int} {l2 : Int} {l3 : Int} : WP m61 55 [.inr (.inl l0), .inl l1, .inl l2, .inl l3] [] σ Q = (inI (l3 + (1)) ∧ WP m61 58 [.inr (.inl l0), .inl l1, .inl l2, .inl (l3 + (1))] [] σ Q) := w_iinc d61_55 rfl rfl
theorem d61_58 : adec m61 58 = some (.goto (-54), 3) := by decide +kernel
theorem s61_58 {l0 : Nat} {l1 : Int} {l2 : Int} {l3 : Int} : WP m61 58 [.inr (.inl l0), .inl l1, .inl l2, .inl l3] [] σ Q = WP m61 4 [.inr (.inl l0), .inl l1, .inl l2, .inl l3] [] σ Q := w_goto d61_58 (by decide)
theorem d61_61 : adec m61 61 = some (.iload_n 2, 1) := by decide +kernel
theorem s61_61 {l0 : Nat} {l1 : Int} {l2 : Int} {l3 : Int} : WP m61 61 [.inr (.inl l0), .inl l1, .inl l2, .inl l3] [] σ Q = WP m61 62 [.inr (.inl l0), .inl l1, .inl l2, .inl l3] [.inl l2] σ Q := w_ld d61_61 rfl
theorem d61_62 : adec m61 62 = some (.ireturn, 1) := by decide +kernel
theorem s61_62 {l0 : Nat} {l1 : Int} {l2 : Int} {l3 : Int} {x0 : Int} : WP m61 62 [.inr (.inl l0), .inl l1, .inl l2, .inl l3] [.inl x0] σ Q = Q [.inl x0] σ := w_ri d61_62 rfl
theorem e61 {p0 : Nat} {p1 : Int} : CA m61 [.inr (.inl p0), .inl p1] σ Q = WP m61 0 [.inr (.inl p0), .inl p1, vU, vU] [] σ Q := rfl
-- BinderPress$Sorter.makeOne(II)V
theorem d62_0 : adec m62 0 = some (.aload_n 0, 1) := by decide +kernel
theorem s62_0 {l0 : Nat} {l1 : Int} {l2 : Int} {l3 : AV} {l4 : AV} {l5 : AV} : WP m62 0 [.inr (.inl l0), .inl l1, .inl l2, l3, l4, l5] [] σ Q = WP m62 1 [.inr (.inl l0), .inl l1, .inl l2, l3, l4, l5] [.inr (.inl l0)] σ Q := w_ld d62_0 rfl
theorem d62_1 : adec m62 1 = some (.getfield 32, 3) := by decide +kernel
theorem s62_1 {l0 : Nat} {l1 : Int} {l2 : Int} {l3 : AV} {l4 : AV} {l5 : AV} : WP m62 1 [.inr (.inl l0), .inl l1, .inl l2, l3, l4, l5] [.inr (.inl 108)] σ Q = WP m62 4 [.inr (.inl l0), .inl l1, .inl l2, l3, l4, l5] [.inr (.inl 119)] σ Q := (w_getR (c := 5) (n := 5) d62_1 (by decide +kernel) (by decide +kernel)).trans (g_and ⟨isO_dec (by decide +kernel), by decide +kernel⟩)
theorem d62_4 : adec m62 4 = some (.invokevirtual 52, 3) := by decide +kernel
theorem s62_4 {l0 : Nat} {l1 : Int} {l2 : Int} {l3 : AV} {l4 : AV} {l5 : AV} {x0 : Nat} : WP m62 4 [.inr (.inl l0), .inl l1, .inl l2, l3, l4, l5] [.inr (.inl x0)] σ Q = (isO x0 3 ∧ CA m29 [.inr (.inl x0)] σ (fun v σ2 => WP m62 7 [.inr (.inl l0), .inl l1, .inl l2, l3, l4, l5] (v ++ []) σ2 Q)) := w_cV (k := 29) d62_4 (by decide +kernel) m29_at rfl rfl ⟨Nat.le_of_ble_eq_true rfl, Nat.le_of_ble_eq_true rfl, Nat.le_of_ble_eq_true rfl⟩ (by decide)
theorem d62_7 : adec m62 7 = some (.aload_n 0, 1) := by decide +kernel
theorem s62_7 {l0 : Nat} {l1 : Int} {l2 : Int} {l3 : AV} {l4 : AV} {l5 : AV} : WP m62 7 [.inr (.inl l0), .inl l1, .inl l2, l3, l4, l5] [] σ Q = WP m62 8 [.inr (.inl l0), .inl l1, .inl l2, l3, l4, l5] [.inr (.inl l0)] σ Q := w_ld d62_7 rfl
theorem d62_8 : adec m62 8 = some (.getfield 32, 3) := by decide +kernel
theorem s62_8 {l0 : Nat} {l1 : Int} {l2 : Int} {l3 : AV} {l4 : AV} {l5 : AV} : WP m62 8 [.inr (.inl l0), .inl l1, .inl l2, l3, l4, l5] [.inr (.inl 108)] σ Q = WP m62 11 [.inr (.inl l0), .inl l1, .inl l2, l3, l4, l5] [.inr (.inl 119)] σ Q := (w_getR (c := 5) (n := 5) d62_8 (by decide +kernel) (by decide +kernel)).trans (g_and ⟨isO_dec (by decide +kernel), by decide +kernel⟩)
theorem d62_11 : adec m62 11 = some (.iload_n 1, 1) := by decide +kernel
theorem s62_11 {l0 : Nat} {l1 : Int} {l2 : Int} {l3 : AV} {l4 : AV} {l5 : AV} {x0 : Nat} : WP m62 11 [.inr (.inl l0), .inl l1, .inl l2, l3, l4, l5] [.inr (.inl x0)] σ Q = WP m62 12 [.inr (.inl l0), .inl l1, .inl l2, l3, l4, l5] [.inl l1, .inr (.inl x0)] σ Q := w_ld d62_11 rfl
theorem d62_12 : adec m62 12 = some (.invokevirtual 85, 3) := by decide +kernel
theorem s62_12 {l0 : Nat} {l1 : Int} {l2 : Int} {l3 : AV} {l4 : AV} {l5 : AV} {x0 : Nat} {x1 : Int} : WP m62 12 [.inr (.inl l0), .inl l1, .inl l2, l3, l4, l5] [.inl x1, .inr (.inl x0)] σ Q = (isO x0 3 ∧ CA m34 [.inr (.inl x0), .inl x1] σ (fun v σ2 => WP m62 15 [.inr (.inl l0), .inl l1, .inl l2, l3, l4, l5] (v ++ []) σ2 Q)) := w_cV (k := 34) d62_12 (by decide +kernel) m34_at rfl rfl ⟨Nat.le_of_ble_eq_true rfl, Nat.le_of_ble_eq_true rfl, Nat.le_of_ble_eq_true rfl⟩ (by decide)
theorem d62_15 : adec m62 15 = some (.aload_n 0, 1) := by decide +kernel
theorem s62_15 {l0 : Nat} {l1 : Int} {l2 : Int} {l3 : AV} {l4 : AV} {l5 : AV} : WP m62 15 [.inr (.inl l0), .inl l1, .inl l2, l3, l4, l5] [] σ Q = WP m62 16 [.inr (.inl l0), .inl l1, .inl l2, l3, l4, l5] [.inr (.inl l0)] σ Q := w_ld d62_15 rfl
theorem d62_16 : adec m62 16 = some (.getfield 32, 3) := by decide +kernel
theorem s62_16 {l0 : Nat} {l1 : Int} {l2 : Int} {l3 : AV} {l4 : AV} {l5 : AV} : WP m62 16 [.inr (.inl l0), .inl l1, .inl l2, l3, l4, l5] [.inr (.inl 108)] σ Q = WP m62 19 [.inr (.inl l0), .inl l1, .inl l2, l3, l4, l5] [.inr (.inl 119)] σ Q := (w_getR (c := 5) (n := 5) d62_16 (by decide +kernel) (by decide +kernel)).trans (g_and ⟨isO_dec (by decide +kernel), by decide +kernel⟩)
theorem d62_19 : adec m62 19 = some (.iload_n 2, 1) := by decide +kernel
theorem s62_19 {l0 : Nat} {l1 : Int} {l2 : Int} {l3 : AV} {l4 : AV} {l5 : AV} {x0 : Nat} : WP m62 19 [.inr (.inl l0), .inl l1, .inl l2, l3, l4, l5] [.inr (.inl x0)] σ Q = WP m62 20 [.inr (.inl l0), .inl l1, .inl l2, l3, l4, l5] [.inl l2, .inr (.inl x0)] σ Q := w_ld d62_19 rfl
theorem d62_20 : adec m62 20 = some (.invokevirtual 85, 3) := by decide +kernel
theorem s62_20 {l0 : Nat} {l1 : Int} {l2 : Int} {l3 : AV} {l4 : AV} {l5 : AV} {x0 : Nat} {x1 : Int} : WP m62 20 [.inr (.inl l0), .inl l1, .inl l2, l3, l4, l5] [.inl x1, .inr (.inl x0)] σ Q = (isO x0 3 ∧ CA m34 [.inr (.inl x0), .inl x1] σ (fun v σ2 => WP m62 23 [.inr (.inl l0), .inl l1, .inl l2, l3, l4, l5] (v ++ []) σ2 Q)) := w_cV (k := 34) d62_20 (by decide +kernel) m34_at rfl rfl ⟨Nat.le_of_ble_eq_true rfl, Nat.le_of_ble_eq_true rfl, Nat.le_of_ble_eq_true rfl⟩ (by decide)
theorem d62_23 : adec m62 23 = some (.iconst (0), 1) := by decide +kernel
theorem s62_23 {l0 : Nat} {l1 : Int} {l2 : Int} {l3 : AV} {l4 : AV} {l5 : AV} : WP m62 23 [.inr (.inl l0), .inl l1, .inl l2, l3, l4, l5] [] σ Q = WP m62 24 [.inr (.inl l0), .inl l1, .inl l2, l3, l4, l5] [.inl (0)] σ Q := w_iconst d62_23 (by decide)
theorem d62_24 : adec m62 24 = some (.istore_n 3, 1) := by decide +kernel
theorem s62_24 {l0 : Nat} {l1 : Int} {l2 : Int} {l3 : AV} {l4 : AV} {l5 : AV} {x0 : Int} : WP m62 24 [.inr (.inl l0), .inl l1, .inl l2, l3, l4, l5] [.inl x0] σ Q = WP m62 25 [.inr (.inl l0), .inl l1, .inl l2, .inl x0, l4, l5] [] σ Q := w_st1 (j := 3) d62_24 rfl (Nat.le_of_ble_eq_true rfl) rfl
theorem d62_25 : adec m62 25 = some (.iload_n 3, 1) := by decide +kernel
theorem s62_25 {l0 : Nat} {l1 : Int} {l2 : Int} {l3 : Int} {l4 : AV} {l5 : AV} : WP m62 25 [.inr (.inl l0), .inl l1, .inl l2, .inl l3, l4, l5] [] σ Q = WP m62 26 [.inr (.inl l0), .inl l1, .inl l2, .inl l3, l4, l5] [.inl l3] σ Q := w_ld d62_25 rfl
theorem d62_26 : adec m62 26 = some (.sipush (1442), 3) := by decide +kernel
theorem s62_26 {l0 : Nat} {l1 : Int} {l2 : Int} {l3 : Int} {l4 : AV} {l5 : AV} {x0 : Int} : WP m62 26 [.inr (.inl l0), .inl l1, .inl l2, .inl l3, l4, l5] [.inl x0] σ Q = WP m62 29 [.inr (.inl l0), .inl l1, .inl l2, .inl l3, l4, l5] [.inl (1442), .inl x0] σ Q := w_sipush d62_26 (by decide)
theorem d62_29 : adec m62 29 = some (.if_icmp .ge (163), 3) := by decide +kernel
theorem s62_29 {l0 : Nat} {l1 : Int} {l2 : Int} {l3 : Int} {l4 : AV} {l5 : AV} {x0 : Int} {x1 : Int} : WP m62 29 [.inr (.inl l0), .inl l1, .inl l2, .inl l3, l4, l5] [.inl x1, .inl x0] σ Q = (if x1 ≤ x0 then WP m62 192 [.inr (.inl l0), .inl l1, .inl l2, .inl l3, l4, l5] [] σ Q else WP m62 32 [.inr (.inl l0), .inl l1, .inl l2, .inl l3, l4, l5] [] σ Q) := w_icge d62_29 (by decide)
theorem d62_32 : adec m62 32 = some (.aload_n 0, 1) := by decide +kernel
theorem s62_32 {l0 : Nat} {l1 : Int} {l2 : Int} {l3 : Int} {l4 : AV} {l5 : AV} : WP m62 32 [.inr (.inl l0), .inl l1, .inl l2, .inl l3, l4, l5] [] σ Q = WP m62 33 [.inr (.inl l0), .inl l1, .inl l2, .inl l3, l4, l5] [.inr (.inl l0)] σ Q := w_ld d62_32 rfl
theorem d62_33 : adec m62 33 = some (.getfield 32, 3) := by decide +kernel
theorem s62_33 {l0 : Nat} {l1 : Int} {l2 : Int} {l3 : Int} {l4 : AV} {l5 : AV} : WP m62 33 [.inr (.inl l0), .inl l1, .inl l2, .inl l3, l4, l5] [.inr (.inl 108)] σ Q = WP m62 36 [.inr (.inl l0), .inl l1, .inl l2, .inl l3, l4, l5] [.inr (.inl 119)] σ Q := (w_getR (c := 5) (n := 5) d62_33 (by decide +kernel) (by decide +kernel)).trans (g_and ⟨isO_dec (by decide +kernel), by decide +kernel⟩)
theorem d62_36 : adec m62 36 = some (.invokevirtual 58, 3) := by decide +kernel
theorem s62_36 {l0 : Nat} {l1 : Int} {l2 : Int} {l3 : Int} {l4 : AV} {l5 : AV} {x0 : Nat} : WP m62 36 [.inr (.inl l0), .inl l1, .inl l2, .inl l3, l4, l5] [.inr (.inl x0)] σ Q = (isO x0 3 ∧ CA m28 [.inr (.inl x0)] σ (fun v σ2 => WP m62 39 [.inr (.inl l0), .inl l1, .inl l2, .inl l3, l4, l5] (v ++ []) σ2 Q)) := w_cV (k := 28) d62_36 (by decide +kernel) m28_at rfl rfl ⟨Nat.le_of_ble_eq_true rfl, Nat.le_of_ble_eq_true rfl, Nat.le_of_ble_eq_true rfl⟩ (by decide)
theorem d62_39 : adec m62 39 = some (.iconst (1), 1) := by decide +kernel
theorem s62_39 {l0 : Nat} {l1 : Int} {l2 : Int} {l3 : Int} {l4 : AV} {l5 : AV} {x0 : Int} : WP m62 39 [.inr (.inl l0), .inl l1, .inl l2, .inl l3, l4, l5] [.inl x0] σ Q = WP m62 40 [.inr (.inl l0), .inl l1, .inl l2, .inl l3, l4, l5] [.inl (1), .inl x0] σ Q := w_iconst d62_39 (by decide)
theorem d62_40 : adec m62 40 = some (.if_icmp .le (152), 3) := by decide +kernel
theorem s62_40 {l0 : Nat} {l1 : Int} {l2 : Int} {l3 : Int} {l4 : AV} {l5 : AV} {x0 : Int} {x1 : Int} : WP m62 40 [.inr (.inl l0), .inl l1, .inl l2, .inl l3, l4, l5] [.inl x1, .inl x0] σ Q = (if x0 ≤ x1 then WP m62 192 [.inr (.inl l0), .inl l1, .inl l2, .inl l3, l4, l5] [] σ Q else WP m62 43 [.inr (.inl l0), .inl l1, .inl l2, .inl l3, l4, l5] [] σ Q) := w_icle d62_40 (by decide)
theorem d62_43 : adec m62 43 = some (.aload_n 0, 1) := by decide +kernel
theorem s62_43 {l0 : Nat} {l1 : Int} {l2 : Int} {l3 : Int} {l4 : AV} {l5 : AV} : WP m62 43 [.inr (.inl l0), .inl l1, .inl l2, .inl l3, l4, l5] [] σ Q = WP m62 44 [.inr (.inl l0), .inl l1, .inl l2, .inl l3, l4, l5] [.inr (.inl l0)] σ Q := w_ld d62_43 rfl
theorem d62_44 : adec m62 44 = some (.aload_n 0, 1) := by decide +kernel
theorem s62_44 {l0 : Nat} {l1 : Int} {l2 : Int} {l3 : Int} {l4 : AV} {l5 : AV} {x0 : Nat} : WP m62 44 [.inr (.inl l0), .inl l1, .inl l2, .inl l3, l4, l5] [.inr (.inl x0)] σ Q = WP m62 45 [.inr (.inl l0), .inl l1, .inl l2, .inl l3, l4, l5] [.inr (.inl l0), .inr (.inl x0)] σ Q := w_ld d62_44 rfl
theorem d62_45 : adec m62 45 = some (.getfield 32, 3) := by decide +kernel
theorem s62_45 {l0 : Nat} {l1 : Int} {l2 : Int} {l3 : Int} {l4 : AV} {l5 : AV} {x0 : Nat} : WP m62 45 [.inr (.inl l0), .inl l1, .inl l2, .inl l3, l4, l5] [.inr (.inl 108), .inr (.inl x0)] σ Q = WP m62 48 [.inr (.inl l0), .inl l1, .inl l2, .inl l3, l4, l5] [.inr (.inl 119), .inr (.inl x0)] σ Q := (w_getR (c := 5) (n := 5) d62_45 (by decide +kernel) (by decide +kernel)).trans (g_and ⟨isO_dec (by decide +kernel), by decide +kernel⟩)
theorem d62_48 : adec m62 48 = some (.invokevirtual 88, 3) := by decide +kernel
theorem s62_48 {l0 : Nat} {l1 : Int} {l2 : Int} {l3 : Int} {l4 : AV} {l5 : AV} {x0 : Nat} {x1 : Nat} : WP m62 48 [.inr (.inl l0), .inl l1, .inl l2, .inl l3, l4, l5] [.inr (.inl x1), .inr (.inl x0)] σ Q = (isO x1 3 ∧ CA m35 [.inr (.inl x1)] σ (fun v σ2 => WP m62 51 [.inr (.inl l0), .inl l1, .inl l2, .inl l3, l4, l5] (v ++ [.inr (.inl x0)]) σ2 Q)) := w_cV (k := 35) d62_48 (by decide +kernel) m35_at rfl rfl ⟨Nat.le_of_ble_eq_true rfl, Nat.le_of_ble_eq_true rfl, Nat.le_of_ble_eq_true rfl⟩ (by decide)
theorem d62_51 : adec m62 51 = some (.invokevirtual 91, 3) := by decide +kernel
theorem s62_51 {l0 : Nat} {l1 : Int} {l2 : Int} {l3 : Int} {l4 : AV} {l5 : AV} {x1 : Int} : WP m62 51 [.inr (.inl l0), .inl l1, .inl l2, .inl l3, l4, l5] [.inl x1, .inr (.inl 108)] σ Q = CA m61 [.inr (.inl 108), .inl x1] σ (fun v σ2 => WP m62 54 [.inr (.inl l0), .inl l1, .inl l2, .inl l3, l4, l5] (v ++ []) σ2 Q) := (w_cV (k := 61) d62_51 (by decide +kernel) m61_at rfl rfl ⟨Nat.le_of_ble_eq_true rfl, Nat.le_of_ble_eq_true rfl, Nat.le_of_ble_eq_true rfl⟩ (by decide)).trans (g_and (isO_dec (by decide +kernel)))
theorem d62_54 : adec m62 54 = some (.istore 4, 2) := by decide +kernel
theorem s62_54 {l0 : Nat} {l1 : Int} {l2 : Int} {l3 : Int} {l4 : AV} {l5 : AV} {x0 : Int} : WP m62 54 [.inr (.inl l0), .inl l1, .inl l2, .inl l3, l4, l5] [.inl x0] σ Q = WP m62 56 [.inr (.inl l0), .inl l1, .inl l2, .inl l3, .inl x0, l5] [] σ Q := w_st1 (j := 4) d62_54 rfl (Nat.le_of_ble_eq_true rfl) rfl
theorem d62_56 : adec m62 56 = some (.aload_n 0, 1) := by decide +kernel
theorem s62_56 {l0 : Nat} {l1 : Int} {l2 : Int} {l3 : Int} {l4 : Int} {l5 : AV} : WP m62 56 [.inr (.inl l0), .inl l1, .inl l2, .inl l3, .inl l4, l5] [] σ Q = WP m62 57 [.inr (.inl l0), .inl l1, .inl l2, .inl l3, .inl l4, l5] [.inr (.inl l0)] σ Q := w_ld d62_56 rfl
theorem d62_57 : adec m62 57 = some (.aload_n 0, 1) := by decide +kernel
theorem s62_57 {l0 : Nat} {l1 : Int} {l2 : Int} {l3 : Int} {l4 : Int} {l5 : AV} {x0 : Nat} : WP m62 57 [.inr (.inl l0), .inl l1, .inl l2, .inl l3, .inl l4, l5] [.inr (.inl x0)] σ Q = WP m62 58 [.inr (.inl l0), .inl l1, .inl l2, .inl l3, .inl l4, l5] [.inr (.inl l0), .inr (.inl x0)] σ Q := w_ld d62_57 rfl
theorem d62_58 : adec m62 58 = some (.getfield 32, 3) := by decide +kernel
theorem s62_58 {l0 : Nat} {l1 : Int} {l2 : Int} {l3 : Int} {l4 : Int} {l5 : AV} {x0 : Nat} : WP m62 58 [.inr (.inl l0), .inl l1, .inl l2, .inl l3, .inl l4, l5] [.inr (.inl 108), .inr (.inl x0)] σ Q = WP m62 61 [.inr (.inl l0), .inl l1, .inl l2, .inl l3, .inl l4, l5] [.inr (.inl 119), .inr (.inl x0)] σ Q := (w_getR (c := 5) (n := 5) d62_58 (by decide +kernel) (by decide +kernel)).trans (g_and ⟨isO_dec (by decide +kernel), by decide +kernel⟩)
theorem d62_61 : adec m62 61 = some (.invokevirtual 88, 3) := by decide +kernel
theorem s62_61 {l0 : Nat} {l1 : Int} {l2 : Int} {l3 : Int} {l4 : Int} {l5 : AV} {x0 : Nat} {x1 : Nat} : WP m62 61 [.inr (.inl l0), .inl l1, .inl l2, .inl l3, .inl l4, l5] [.inr (.inl x1), .inr (.inl x0)] σ Q = (isO x1 3 ∧ CA m35 [.inr (.inl x1)] σ (fun v σ2 => WP m62 64 [.inr (.inl l0), .inl l1, .inl l2, .inl l3, .inl l4, l5] (v ++ [.inr (.inl x0)]) σ2 Q)) := w_cV (k := 35) d62_61 (by decide +kernel) m35_at rfl rfl ⟨Nat.le_of_ble_eq_true rfl, Nat.le_of_ble_eq_true rfl, Nat.le_of_ble_eq_true rfl⟩ (by decide)
theorem d62_64 : adec m62 64 = some (.invokevirtual 91, 3) := by decide +kernel
theorem s62_64 {l0 : Nat} {l1 : Int} {l2 : Int} {l3 : Int} {l4 : Int} {l5 : AV} {x1 : Int} : WP m62 64 [.inr (.inl l0), .inl l1, .inl l2, .inl l3, .inl l4, l5] [.inl x1, .inr (.inl 108)] σ Q = CA m61 [.inr (.inl 108), .inl x1] σ (fun v σ2 => WP m62 67 [.inr (.inl l0), .inl l1, .inl l2, .inl l3, .inl l4, l5] (v ++ []) σ2 Q) := (w_cV (k := 61) d62_64 (by decide +kernel) m61_at rfl rfl ⟨Nat.le_of_ble_eq_true rfl, Nat.le_of_ble_eq_true rfl, Nat.le_of_ble_eq_true rfl⟩ (by decide)).trans (g_and (isO_dec (by decide +kernel)))
theorem d62_67 : adec m62 67 = some (.istore 5, 2) := by decide +kernel
theorem s62_67 {l0 : Nat} {l1 : Int} {l2 : Int} {l3 : Int} {l4 : Int} {l5 : AV} {x0 : Int} : WP m62 67 [.inr (.inl l0), .inl l1, .inl l2, .inl l3, .inl l4, l5] [.inl x0] σ Q = WP m62 69 [.inr (.inl l0), .inl l1, .inl l2, .inl l3, .inl l4, .inl x0] [] σ Q := w_st1 (j := 5) d62_67 rfl (Nat.le_of_ble_eq_true rfl) rfl
theorem d62_69 : adec m62 69 = some (.iload 4, 2) := by decide +kernel
theorem s62_69 {l0 : Nat} {l1 : Int} {l2 : Int} {l3 : Int} {l4 : Int} {l5 : Int} : WP m62 69 [.inr (.inl l0), .inl l1, .inl l2, .inl l3, .inl l4, .inl l5] [] σ Q = WP m62 71 [.inr (.inl l0), .inl l1, .inl l2, .inl l3, .inl l4, .inl l5] [.inl l4] σ Q := w_ld d62_69 rfl
theorem d62_71 : adec m62 71 = some (.iload 5, 2) := by decide +kernel
theorem s62_71 {l0 : Nat} {l1 : Int} {l2 : Int} {l3 : Int} {l4 : Int} {l5 : Int} {x0 : Int} : WP m62 71 [.inr (.inl l0), .inl l1, .inl l2, .inl l3, .inl l4, .inl l5] [.inl x0] σ Q = WP m62 73 [.inr (.inl l0), .inl l1, .inl l2, .inl l3, .inl l4, .inl l5] [.inl l5, .inl x0] σ Q := w_ld d62_71 rfl
theorem d62_73 : adec m62 73 = some (.if_icmp .ne (6), 3) := by decide +kernel
theorem s62_73 {l0 : Nat} {l1 : Int} {l2 : Int} {l3 : Int} {l4 : Int} {l5 : Int} {x0 : Int} {x1 : Int} : WP m62 73 [.inr (.inl l0), .inl l1, .inl l2, .inl l3, .inl l4, .inl l5] [.inl x1, .inl x0] σ Q = (if x0 = x1 then WP m62 76 [.inr (.inl l0), .inl l1, .inl l2, .inl l3, .inl l4, .inl l5] [] σ Q else WP m62 79 [.inr (.inl l0), .inl l1, .inl l2, .inl l3, .inl l4, .inl l5] [] σ Q) := w_icne d62_73 (by decide)
theorem d62_76 : adec m62 76 = some (.goto (110), 3) := by decide +kernel
theorem s62_76 {l0 : Nat} {l1 : Int} {l2 : Int} {l3 : Int} {l4 : Int} {l5 : Int} : WP m62 76 [.inr (.inl l0), .inl l1, .inl l2, .inl l3, .inl l4, .inl l5] [] σ Q = WP m62 186 [.inr (.inl l0), .inl l1, .inl l2, .inl l3, .inl l4, .inl l5] [] σ Q := w_goto d62_76 (by decide)
theorem d62_79 : adec m62 79 = some (.aload_n 0, 1) := by decide +kernel
theorem s62_79 {l0 : Nat} {l1 : Int} {l2 : Int} {l3 : Int} {l4 : Int} {l5 : Int} : WP m62 79 [.inr (.inl l0), .inl l1, .inl l2, .inl l3, .inl l4, .inl l5] [] σ Q = WP m62 80 [.inr (.inl l0), .inl l1, .inl l2, .inl l3, .inl l4, .inl l5] [.inr (.inl l0)] σ Q := w_ld d62_79 rfl
theorem d62_80 : adec m62 80 = some (.iload 4, 2) := by decide +kernel
theorem s62_80 {l0 : Nat} {l1 : Int} {l2 : Int} {l3 : Int} {l4 : Int} {l5 : Int} {x0 : Nat} : WP m62 80 [.inr (.inl l0), .inl l1, .inl l2, .inl l3, .inl l4, .inl l5] [.inr (.inl x0)] σ Q = WP m62 82 [.inr (.inl l0), .inl l1, .inl l2, .inl l3, .inl l4, .inl l5] [.inl l4, .inr (.inl x0)] σ Q := w_ld d62_80 rfl
theorem d62_82 : adec m62 82 = some (.invokevirtual 97, 3) := by decide +kernel
theorem s62_82 {l0 : Nat} {l1 : Int} {l2 : Int} {l3 : Int} {l4 : Int} {l5 : Int} {x1 : Int} : WP m62 82 [.inr (.inl l0), .inl l1, .inl l2, .inl l3, .inl l4, .inl l5] [.inl x1, .inr (.inl 108)] σ Q = CA m60 [.inr (.inl 108), .inl x1] σ (fun v σ2 => WP m62 85 [.inr (.inl l0), .inl l1, .inl l2, .inl l3, .inl l4, .inl l5] (v ++ []) σ2 Q) := (w_cV (k := 60) d62_82 (by decide +kernel) m60_at rfl rfl ⟨Nat.le_of_ble_eq_true rfl, Nat.le_of_ble_eq_true rfl, Nat.le_of_ble_eq_true rfl⟩ (by decide)).trans (g_and (isO_dec (by decide +kernel)))
theorem d62_85 : adec m62 85 = some (.ifCond .eq (17), 3) := by decide +kernel
theorem s62_85 {l0 : Nat} {l1 : Int} {l2 : Int} {l3 : Int} {l4 : Int} {l5 : Int} {x0 : Int} : WP m62 85 [.inr (.inl l0), .inl l1, .inl l2, .inl l3, .inl l4, .inl l5] [.inl x0] σ Q = (if x0 = 0 then WP m62 102 [.inr (.inl l0), .inl l1, .inl l2, .inl l3, .inl l4, .inl l5] [] σ Q else WP m62 88 [.inr (.inl l0), .inl l1, .inl l2, .inl l3, .inl l4, .inl l5] [] σ Q) := w_ifeq d62_85 (by decide)
theorem d62_88 : adec m62 88 = some (.aload_n 0, 1) := by decide +kernel
theorem s62_88 {l0 : Nat} {l1 : Int} {l2 : Int} {l3 : Int} {l4 : Int} {l5 : Int} : WP m62 88 [.inr (.inl l0), .inl l1, .inl l2, .inl l3, .inl l4, .inl l5] [] σ Q = WP m62 89 [.inr (.inl l0), .inl l1, .inl l2, .inl l3, .inl l4, .inl l5] [.inr (.inl l0)] σ Q := w_ld d62_88 rfl
theorem d62_89 : adec m62 89 = some (.getfield 23, 3) := by decide +kernel
theorem s62_89 {l0 : Nat} {l1 : Int} {l2 : Int} {l3 : Int} {l4 : Int} {l5 : Int} : WP m62 89 [.inr (.inl l0), .inl l1, .inl l2, .inl l3, .inl l4, .inl l5] [.inr (.inl 108)] σ Q = WP m62 92 [.inr (.inl l0), .inl l1, .inl l2, .inl l3, .inl l4, .inl l5] [.inr (.inl 113)] σ Q := (w_getR (c := 5) (n := 2) d62_89 (by decide +kernel) (by decide +kernel)).trans (g_and ⟨isO_dec (by decide +kernel), by decide +kernel⟩)
theorem d62_92 : adec m62 92 = some (.iload 4, 2) := by decide +kernel
theorem s62_92 {l0 : Nat} {l1 : Int} {l2 : Int} {l3 : Int} {l4 : Int} {l5 : Int} {x0 : Nat} : WP m62 92 [.inr (.inl l0), .inl l1, .inl l2, .inl l3, .inl l4, .inl l5] [.inr (.inl x0)] σ Q = WP m62 94 [.inr (.inl l0), .inl l1, .inl l2, .inl l3, .inl l4, .inl l5] [.inl l4, .inr (.inl x0)] σ Q := w_ld d62_92 rfl
theorem d62_94 : adec m62 94 = some (.iload 5, 2) := by decide +kernel
theorem s62_94 {l0 : Nat} {l1 : Int} {l2 : Int} {l3 : Int} {l4 : Int} {l5 : Int} {x0 : Nat} {x1 : Int} : WP m62 94 [.inr (.inl l0), .inl l1, .inl l2, .inl l3, .inl l4, .inl l5] [.inl x1, .inr (.inl x0)] σ Q = WP m62 96 [.inr (.inl l0), .inl l1, .inl l2, .inl l3, .inl l4, .inl l5] [.inl l5, .inl x1, .inr (.inl x0)] σ Q := w_ld d62_94 rfl
theorem d62_96 : adec m62 96 = some (.invokevirtual 104, 3) := by decide +kernel
theorem s62_96 {l0 : Nat} {l1 : Int} {l2 : Int} {l3 : Int} {l4 : Int} {l5 : Int} {x0 : Nat} {x1 : Int} {x2 : Int} : WP m62 96 [.inr (.inl l0), .inl l1, .inl l2, .inl l3, .inl l4, .inl l5] [.inl x2, .inl x1, .inr (.inl x0)] σ Q = (isO x0 3 ∧ CA m33 [.inr (.inl x0), .inl x1, .inl x2] σ (fun v σ2 => WP m62 99 [.inr (.inl l0), .inl l1, .inl l2, .inl l3, .inl l4, .inl l5] (v ++ []) σ2 Q)) := w_cV (k := 33) d62_96 (by decide +kernel) m33_at rfl rfl ⟨Nat.le_of_ble_eq_true rfl, Nat.le_of_ble_eq_true rfl, Nat.le_of_ble_eq_true rfl⟩ (by decide)
theorem d62_99 : adec m62 99 = some (.goto (87), 3) := by decide +kernel
theorem s62_99 {l0 : Nat} {l1 : Int} {l2 : Int} {l3 : Int} {l4 : Int} {l5 : Int} : WP m62 99 [.inr (.inl l0), .inl l1, .inl l2, .inl l3, .inl l4, .inl l5] [] σ Q = WP m62 186 [.inr (.inl l0), .inl l1, .inl l2, .inl l3, .inl l4, .inl l5] [] σ Q := w_goto d62_99 (by decide)
theorem d62_102 : adec m62 102 = some (.aload_n 0, 1) := by decide +kernel
theorem s62_102 {l0 : Nat} {l1 : Int} {l2 : Int} {l3 : Int} {l4 : Int} {l5 : Int} : WP m62 102 [.inr (.inl l0), .inl l1, .inl l2, .inl l3, .inl l4, .inl l5] [] σ Q = WP m62 103 [.inr (.inl l0), .inl l1, .inl l2, .inl l3, .inl l4, .inl l5] [.inr (.inl l0)] σ Q := w_ld d62_102 rfl
theorem d62_103 : adec m62 103 = some (.getfield 23, 3) := by decide +kernel
theorem s62_103 {l0 : Nat} {l1 : Int} {l2 : Int} {l3 : Int} {l4 : Int} {l5 : Int} : WP m62 103 [.inr (.inl l0), .inl l1, .inl l2, .inl l3, .inl l4, .inl l5] [.inr (.inl 108)] σ Q = WP m62 106 [.inr (.inl l0), .inl l1, .inl l2, .inl l3, .inl l4, .inl l5] [.inr (.inl 113)] σ Q := (w_getR (c := 5) (n := 2) d62_103 (by decide +kernel) (by decide +kernel)).trans (g_and ⟨isO_dec (by decide +kernel), by decide +kernel⟩)
theorem d62_106 : adec m62 106 = some (.iload 5, 2) := by decide +kernel
theorem s62_106 {l0 : Nat} {l1 : Int} {l2 : Int} {l3 : Int} {l4 : Int} {l5 : Int} {x0 : Nat} : WP m62 106 [.inr (.inl l0), .inl l1, .inl l2, .inl l3, .inl l4, .inl l5] [.inr (.inl x0)] σ Q = WP m62 108 [.inr (.inl l0), .inl l1, .inl l2, .inl l3, .inl l4, .inl l5] [.inl l5, .inr (.inl x0)] σ Q := w_ld d62_106 rfl
theorem d62_108 : adec m62 108 = some (.iload 4, 2) := by decide +kernel
theorem s62_108 {l0 : Nat} {l1 : Int} {l2 : Int} {l3 : Int} {l4 : Int} {l5 : Int} {x0 : Nat} {x1 : Int} : WP m62 108 [.inr (.inl l0), .inl l1, .inl l2, .inl l3, .inl l4, .inl l5] [.inl x1, .inr (.inl x0)] σ Q = WP m62 110 [.inr (.inl l0), .inl l1, .inl l2, .inl l3, .inl l4, .inl l5] [.inl l4, .inl x1, .inr (.inl x0)] σ Q := w_ld d62_108 rfl
theorem d62_110 : adec m62 110 = some (.invokevirtual 104, 3) := by decide +kernel
theorem s62_110 {l0 : Nat} {l1 : Int} {l2 : Int} {l3 : Int} {l4 : Int} {l5 : Int} {x0 : Nat} {x1 : Int} {x2 : Int} : WP m62 110 [.inr (.inl l0), .inl l1, .inl l2, .inl l3, .inl l4, .inl l5] [.inl x2, .inl x1, .inr (.inl x0)] σ Q = (isO x0 3 ∧ CA m33 [.inr (.inl x0), .inl x1, .inl x2] σ (fun v σ2 => WP m62 113 [.inr (.inl l0), .inl l1, .inl l2, .inl l3, .inl l4, .inl l5] (v ++ []) σ2 Q)) := w_cV (k := 33) d62_110 (by decide +kernel) m33_at rfl rfl ⟨Nat.le_of_ble_eq_true rfl, Nat.le_of_ble_eq_true rfl, Nat.le_of_ble_eq_true rfl⟩ (by decide)
theorem d62_113 : adec m62 113 = some (.aload_n 0, 1) := by decide +kernel
theorem s62_113 {l0 : Nat} {l1 : Int} {l2 : Int} {l3 : Int} {l4 : Int} {l5 : Int} : WP m62 113 [.inr (.inl l0), .inl l1, .inl l2, .inl l3, .inl l4, .inl l5] [] σ Q = WP m62 114 [.inr (.inl l0), .inl l1, .inl l2, .inl l3, .inl l4, .inl l5] [.inr (.inl l0)] σ Q := w_ld d62_113 rfl
theorem d62_114 : adec m62 114 = some (.iload 5, 2) := by decide +kernel
theorem s62_114 {l0 : Nat} {l1 : Int} {l2 : Int} {l3 : Int} {l4 : Int} {l5 : Int} {x0 : Nat} : WP m62 114 [.inr (.inl l0), .inl l1, .inl l2, .inl l3, .inl l4, .inl l5] [.inr (.inl x0)] σ Q = WP m62 116 [.inr (.inl l0), .inl l1, .inl l2, .inl l3, .inl l4, .inl l5] [.inl l5, .inr (.inl x0)] σ Q := w_ld d62_114 rfl
theorem d62_116 : adec m62 116 = some (.invokevirtual 97, 3) := by decide +kernel
theorem s62_116 {l0 : Nat} {l1 : Int} {l2 : Int} {l3 : Int} {l4 : Int} {l5 : Int} {x1 : Int} : WP m62 116 [.inr (.inl l0), .inl l1, .inl l2, .inl l3, .inl l4, .inl l5] [.inl x1, .inr (.inl 108)] σ Q = CA m60 [.inr (.inl 108), .inl x1] σ (fun v σ2 => WP m62 119 [.inr (.inl l0), .inl l1, .inl l2, .inl l3, .inl l4, .inl l5] (v ++ []) σ2 Q) := (w_cV (k := 60) d62_116 (by decide +kernel) m60_at rfl rfl ⟨Nat.le_of_ble_eq_true rfl, Nat.le_of_ble_eq_true rfl, Nat.le_of_ble_eq_true rfl⟩ (by decide)).trans (g_and (isO_dec (by decide +kernel)))
theorem d62_119 : adec m62 119 = some (.ifCond .ne (67), 3) := by decide +kernel
theorem s62_119 {l0 : Nat} {l1 : Int} {l2 : Int} {l3 : Int} {l4 : Int} {l5 : Int} {x0 : Int} : WP m62 119 [.inr (.inl l0), .inl l1, .inl l2, .inl l3, .inl l4, .inl l5] [.inl x0] σ Q = (if x0 = 0 then WP m62 122 [.inr (.inl l0), .inl l1, .inl l2, .inl l3, .inl l4, .inl l5] [] σ Q else WP m62 186 [.inr (.inl l0), .inl l1, .inl l2, .inl l3, .inl l4, .inl l5] [] σ Q) := w_ifne d62_119 (by decide)
theorem d62_122 : adec m62 122 = some (.aload_n 0, 1) := by decide +kernel
theorem s62_122 {l0 : Nat} {l1 : Int} {l2 : Int} {l3 : Int} {l4 : Int} {l5 : Int} : WP m62 122 [.inr (.inl l0), .inl l1, .inl l2, .inl l3, .inl l4, .inl l5] [] σ Q = WP m62 123 [.inr (.inl l0), .inl l1, .inl l2, .inl l3, .inl l4, .inl l5] [.inr (.inl l0)] σ Q := w_ld d62_122 rfl
theorem d62_123 : adec m62 123 = some (.getfield 32, 3) := by decide +kernel
theorem s62_123 {l0 : Nat} {l1 : Int} {l2 : Int} {l3 : Int} {l4 : Int} {l5 : Int} : WP m62 123 [.inr (.inl l0), .inl l1, .inl l2, .inl l3, .inl l4, .inl l5] [.inr (.inl 108)] σ Q = WP m62 126 [.inr (.inl l0), .inl l1, .inl l2, .inl l3, .inl l4, .inl l5] [.inr (.inl 119)] σ Q := (w_getR (c := 5) (n := 5) d62_123 (by decide +kernel) (by decide +kernel)).trans (g_and ⟨isO_dec (by decide +kernel), by decide +kernel⟩)
theorem d62_126 : adec m62 126 = some (.aload_n 0, 1) := by decide +kernel
theorem s62_126 {l0 : Nat} {l1 : Int} {l2 : Int} {l3 : Int} {l4 : Int} {l5 : Int} {x0 : Nat} : WP m62 126 [.inr (.inl l0), .inl l1, .inl l2, .inl l3, .inl l4, .inl l5] [.inr (.inl x0)] σ Q = WP m62 127 [.inr (.inl l0), .inl l1, .inl l2, .inl l3, .inl l4, .inl l5] [.inr (.inl l0), .inr (.inl x0)] σ Q := w_ld d62_126 rfl
theorem d62_127 : adec m62 127 = some (.getfield 16, 3) := by decide +kernel
theorem s62_127 {l0 : Nat} {l1 : Int} {l2 : Int} {l3 : Int} {l4 : Int} {l5 : Int} {x0 : Nat} : WP m62 127 [.inr (.inl l0), .inl l1, .inl l2, .inl l3, .inl l4, .inl l5] [.inr (.inl 108), .inr (.inl x0)] σ Q = WP m62 130 [.inr (.inl l0), .inl l1, .inl l2, .inl l3, .inl l4, .inl l5] [.inr (.inl 109), .inr (.inl x0)] σ Q := (w_getR (c := 5) (n := 0) d62_127 (by decide +kernel) (by decide +kernel)).trans (g_and ⟨isO_dec (by decide +kernel), by decide +kernel⟩)
theorem d62_130 : adec m62 130 = some (.iload 4, 2) := by decide +kernel
theorem s62_130 {l0 : Nat} {l1 : Int} {l2 : Int} {l3 : Int} {l4 : Int} {l5 : Int} {x0 : Nat} {x1 : Nat} : WP m62 130 [.inr (.inl l0), .inl l1, .inl l2, .inl l3, .inl l4, .inl l5] [.inr (.inl x1), .inr (.inl x0)] σ Q = WP m62 132 [.inr (.inl l0), .inl l1, .inl l2, .inl l3, .inl l4, .inl l5] [.inl l4, .inr (.inl x1), .inr (.inl x0)] σ Q := w_ld d62_130 rfl
theorem d62_132 : adec m62 132 = some (.invokevirtual 62, 3) := by decide +kernel
theorem s62_132 {l0 : Nat} {l1 : Int} {l2 : Int} {l3 : Int} {l4 : Int} {l5 : Int} {x0 : Nat} {x1 : Nat} {x2 : Int} : WP m62 132 [.inr (.inl l0), .inl l1, .inl l2, .inl l3, .inl l4, .inl l5] [.inl x2, .inr (.inl x1), .inr (.inl x0)] σ Q = (isO x1 3 ∧ CA m30 [.inr (.inl x1), .inl x2] σ (fun v σ2 => WP m62 135 [.inr (.inl l0), .inl l1, .inl l2, .inl l3, .inl l4, .inl l5] (v ++ [.inr (.inl x0)]) σ2 Q)) := w_cV (k := 30) d62_132 (by decide +kernel) m30_at rfl rfl ⟨Nat.le_of_ble_eq_true rfl, Nat.le_of_ble_eq_true rfl, Nat.le_of_ble_eq_true rfl⟩ (by decide)
theorem d62_135 : adec m62 135 = some (.invokevirtual 85, 3) := by decide +kernel
theorem s62_135 {l0 : Nat} {l1 : Int} {l2 : Int} {l3 : Int} {l4 : Int} {l5 : Int} {x0 : Nat} {x1 : Int} : WP m62 135 [.inr (.inl l0), .inl l1, .inl l2, .inl l3, .inl l4, .inl l5] [.inl x1, .inr (.inl x0)] σ Q = (isO x0 3 ∧ CA m34 [.inr (.inl x0), .inl x1] σ (fun v σ2 => WP m62 138 [.inr (.inl l0), .inl l1, .inl l2, .inl l3, .inl l4, .inl l5] (v ++ []) σ2 Q)) := w_cV (k := 34) d62_135 (by decide +kernel) m34_at rfl rfl ⟨Nat.le_of_ble_eq_true rfl, Nat.le_of_ble_eq_true rfl, Nat.le_of_ble_eq_true rfl⟩ (by decide)
theorem d62_138 : adec m62 138 = some (.aload_n 0, 1) := by decide +kernel
theorem s62_138 {l0 : Nat} {l1 : Int} {l2 : Int} {l3 : Int} {l4 : Int} {l5 : Int} : WP m62 138 [.inr (.inl l0), .inl l1, .inl l2, .inl l3, .inl l4, .inl l5] [] σ Q = WP m62 139 [.inr (.inl l0), .inl l1, .inl l2, .inl l3, .inl l4, .inl l5] [.inr (.inl l0)] σ Q := w_ld d62_138 rfl
theorem d62_139 : adec m62 139 = some (.getfield 32, 3) := by decide +kernel
theorem s62_139 {l0 : Nat} {l1 : Int} {l2 : Int} {l3 : Int} {l4 : Int} {l5 : Int} : WP m62 139 [.inr (.inl l0), .inl l1, .inl l2, .inl l3, .inl l4, .inl l5] [.inr (.inl 108)] σ Q = WP m62 142 [.inr (.inl l0), .inl l1, .inl l2, .inl l3, .inl l4, .inl l5] [.inr (.inl 119)] σ Q := (w_getR (c := 5) (n := 5) d62_139 (by decide +kernel) (by decide +kernel)).trans (g_and ⟨isO_dec (by decide +kernel), by decide +kernel⟩)
theorem d62_142 : adec m62 142 = some (.aload_n 0, 1) := by decide +kernel
theorem s62_142 {l0 : Nat} {l1 : Int} {l2 : Int} {l3 : Int} {l4 : Int} {l5 : Int} {x0 : Nat} : WP m62 142 [.inr (.inl l0), .inl l1, .inl l2, .inl l3, .inl l4, .inl l5] [.inr (.inl x0)] σ Q = WP m62 143 [.inr (.inl l0), .inl l1, .inl l2, .inl l3, .inl l4, .inl l5] [.inr (.inl l0), .inr (.inl x0)] σ Q := w_ld d62_142 rfl
theorem d62_143 : adec m62 143 = some (.getfield 16, 3) := by decide +kernel
theorem s62_143 {l0 : Nat} {l1 : Int} {l2 : Int} {l3 : Int} {l4 : Int} {l5 : Int} {x0 : Nat} : WP m62 143 [.inr (.inl l0), .inl l1, .inl l2, .inl l3, .inl l4, .inl l5] [.inr (.inl 108), .inr (.inl x0)] σ Q = WP m62 146 [.inr (.inl l0), .inl l1, .inl l2, .inl l3, .inl l4, .inl l5] [.inr (.inl 109), .inr (.inl x0)] σ Q := (w_getR (c := 5) (n := 0) d62_143 (by decide +kernel) (by decide +kernel)).trans (g_and ⟨isO_dec (by decide +kernel), by decide +kernel⟩)
theorem d62_146 : adec m62 146 = some (.iload 5, 2) := by decide +kernel
theorem s62_146 {l0 : Nat} {l1 : Int} {l2 : Int} {l3 : Int} {l4 : Int} {l5 : Int} {x0 : Nat} {x1 : Nat} : WP m62 146 [.inr (.inl l0), .inl l1, .inl l2, .inl l3, .inl l4, .inl l5] [.inr (.inl x1), .inr (.inl x0)] σ Q = WP m62 148 [.inr (.inl l0), .inl l1, .inl l2, .inl l3, .inl l4, .inl l5] [.inl l5, .inr (.inl x1), .inr (.inl x0)] σ Q := w_ld d62_146 rfl
theorem d62_148 : adec m62 148 = some (.invokevirtual 62, 3) := by decide +kernel
theorem s62_148 {l0 : Nat} {l1 : Int} {l2 : Int} {l3 : Int} {l4 : Int} {l5 : Int} {x0 : Nat} {x1 : Nat} {x2 : Int} : WP m62 148 [.inr (.inl l0), .inl l1, .inl l2, .inl l3, .inl l4, .inl l5] [.inl x2, .inr (.inl x1), .inr (.inl x0)] σ Q = (isO x1 3 ∧ CA m30 [.inr (.inl x1), .inl x2] σ (fun v σ2 => WP m62 151 [.inr (.inl l0), .inl l1, .inl l2, .inl l3, .inl l4, .inl l5] (v ++ [.inr (.inl x0)]) σ2 Q)) := w_cV (k := 30) d62_148 (by decide +kernel) m30_at rfl rfl ⟨Nat.le_of_ble_eq_true rfl, Nat.le_of_ble_eq_true rfl, Nat.le_of_ble_eq_true rfl⟩ (by decide)
theorem d62_151 : adec m62 151 = some (.invokevirtual 85, 3) := by decide +kernel
theorem s62_151 {l0 : Nat} {l1 : Int} {l2 : Int} {l3 : Int} {l4 : Int} {l5 : Int} {x0 : Nat} {x1 : Int} : WP m62 151 [.inr (.inl l0), .inl l1, .inl l2, .inl l3, .inl l4, .inl l5] [.inl x1, .inr (.inl x0)] σ Q = (isO x0 3 ∧ CA m34 [.inr (.inl x0), .inl x1] σ (fun v σ2 => WP m62 154 [.inr (.inl l0), .inl l1, .inl l2, .inl l3, .inl l4, .inl l5] (v ++ []) σ2 Q)) := w_cV (k := 34) d62_151 (by decide +kernel) m34_at rfl rfl ⟨Nat.le_of_ble_eq_true rfl, Nat.le_of_ble_eq_true rfl, Nat.le_of_ble_eq_true rfl⟩ (by decide)
theorem d62_154 : adec m62 154 = some (.aload_n 0, 1) := by decide +kernel
theorem s62_154 {l0 : Nat} {l1 : Int} {l2 : Int} {l3 : Int} {l4 : Int} {l5 : Int} : WP m62 154 [.inr (.inl l0), .inl l1, .inl l2, .inl l3, .inl l4, .inl l5] [] σ Q = WP m62 155 [.inr (.inl l0), .inl l1, .inl l2, .inl l3, .inl l4, .inl l5] [.inr (.inl l0)] σ Q := w_ld d62_154 rfl
theorem d62_155 : adec m62 155 = some (.getfield 32, 3) := by decide +kernel
theorem s62_155 {l0 : Nat} {l1 : Int} {l2 : Int} {l3 : Int} {l4 : Int} {l5 : Int} : WP m62 155 [.inr (.inl l0), .inl l1, .inl l2, .inl l3, .inl l4, .inl l5] [.inr (.inl 108)] σ Q = WP m62 158 [.inr (.inl l0), .inl l1, .inl l2, .inl l3, .inl l4, .inl l5] [.inr (.inl 119)] σ Q := (w_getR (c := 5) (n := 5) d62_155 (by decide +kernel) (by decide +kernel)).trans (g_and ⟨isO_dec (by decide +kernel), by decide +kernel⟩)
theorem d62_158 : adec m62 158 = some (.aload_n 0, 1) := by decide +kernel
theorem s62_158 {l0 : Nat} {l1 : Int} {l2 : Int} {l3 : Int} {l4 : Int} {l5 : Int} {x0 : Nat} : WP m62 158 [.inr (.inl l0), .inl l1, .inl l2, .inl l3, .inl l4, .inl l5] [.inr (.inl x0)] σ Q = WP m62 159 [.inr (.inl l0), .inl l1, .inl l2, .inl l3, .inl l4, .inl l5] [.inr (.inl l0), .inr (.inl x0)] σ Q := w_ld d62_158 rfl
theorem d62_159 : adec m62 159 = some (.getfield 20, 3) := by decide +kernel
theorem s62_159 {l0 : Nat} {l1 : Int} {l2 : Int} {l3 : Int} {l4 : Int} {l5 : Int} {x0 : Nat} : WP m62 159 [.inr (.inl l0), .inl l1, .inl l2, .inl l3, .inl l4, .inl l5] [.inr (.inl 108), .inr (.inl x0)] σ Q = WP m62 162 [.inr (.inl l0), .inl l1, .inl l2, .inl l3, .inl l4, .inl l5] [.inr (.inl 111), .inr (.inl x0)] σ Q := (w_getR (c := 5) (n := 1) d62_159 (by decide +kernel) (by decide +kernel)).trans (g_and ⟨isO_dec (by decide +kernel), by decide +kernel⟩)
theorem d62_162 : adec m62 162 = some (.iload 4, 2) := by decide +kernel
theorem s62_162 {l0 : Nat} {l1 : Int} {l2 : Int} {l3 : Int} {l4 : Int} {l5 : Int} {x0 : Nat} {x1 : Nat} : WP m62 162 [.inr (.inl l0), .inl l1, .inl l2, .inl l3, .inl l4, .inl l5] [.inr (.inl x1), .inr (.inl x0)] σ Q = WP m62 164 [.inr (.inl l0), .inl l1, .inl l2, .inl l3, .inl l4, .inl l5] [.inl l4, .inr (.inl x1), .inr (.inl x0)] σ Q := w_ld d62_162 rfl
theorem d62_164 : adec m62 164 = some (.invokevirtual 62, 3) := by decide +kernel
theorem s62_164 {l0 : Nat} {l1 : Int} {l2 : Int} {l3 : Int} {l4 : Int} {l5 : Int} {x0 : Nat} {x1 : Nat} {x2 : Int} : WP m62 164 [.inr (.inl l0), .inl l1, .inl l2, .inl l3, .inl l4, .inl l5] [.inl x2, .inr (.inl x1), .inr (.inl x0)] σ Q = (isO x1 3 ∧ CA m30 [.inr (.inl x1), .inl x2] σ (fun v σ2 => WP m62 167 [.inr (.inl l0), .inl l1, .inl l2, .inl l3, .inl l4, .inl l5] (v ++ [.inr (.inl x0)]) σ2 Q)) := w_cV (k := 30) d62_164 (by decide +kernel) m30_at rfl rfl ⟨Nat.le_of_ble_eq_true rfl, Nat.le_of_ble_eq_true rfl, Nat.le_of_ble_eq_true rfl⟩ (by decide)
theorem d62_167 : adec m62 167 = some (.invokevirtual 85, 3) := by decide +kernel
theorem s62_167 {l0 : Nat} {l1 : Int} {l2 : Int} {l3 : Int} {l4 : Int} {l5 : Int} {x0 : Nat} {x1 : Int} : WP m62 167 [.inr (.inl l0), .inl l1, .inl l2, .inl l3, .inl l4, .inl l5] [.inl x1, .inr (.inl x0)] σ Q = (isO x0 3 ∧ CA m34 [.inr (.inl x0), .inl x1] σ (fun v σ2 => WP m62 170 [.inr (.inl l0), .inl l1, .inl l2, .inl l3, .inl l4, .inl l5] (v ++ []) σ2 Q)) := w_cV (k := 34) d62_167 (by decide +kernel) m34_at rfl rfl ⟨Nat.le_of_ble_eq_true rfl, Nat.le_of_ble_eq_true rfl, Nat.le_of_ble_eq_true rfl⟩ (by decide)
theorem d62_170 : adec m62 170 = some (.aload_n 0, 1) := by decide +kernel
theorem s62_170 {l0 : Nat} {l1 : Int} {l2 : Int} {l3 : Int} {l4 : Int} {l5 : Int} : WP m62 170 [.inr (.inl l0), .inl l1, .inl l2, .inl l3, .inl l4, .inl l5] [] σ Q = WP m62 171 [.inr (.inl l0), .inl l1, .inl l2, .inl l3, .inl l4, .inl l5] [.inr (.inl l0)] σ Q := w_ld d62_170 rfl
theorem d62_171 : adec m62 171 = some (.getfield 32, 3) := by decide +kernel
theorem s62_171 {l0 : Nat} {l1 : Int} {l2 : Int} {l3 : Int} {l4 : Int} {l5 : Int} : WP m62 171 [.inr (.inl l0), .inl l1, .inl l2, .inl l3, .inl l4, .inl l5] [.inr (.inl 108)] σ Q = WP m62 174 [.inr (.inl l0), .inl l1, .inl l2, .inl l3, .inl l4, .inl l5] [.inr (.inl 119)] σ Q := (w_getR (c := 5) (n := 5) d62_171 (by decide +kernel) (by decide +kernel)).trans (g_and ⟨isO_dec (by decide +kernel), by decide +kernel⟩)
theorem d62_174 : adec m62 174 = some (.aload_n 0, 1) := by decide +kernel
theorem s62_174 {l0 : Nat} {l1 : Int} {l2 : Int} {l3 : Int} {l4 : Int} {l5 : Int} {x0 : Nat} : WP m62 174 [.inr (.inl l0), .inl l1, .inl l2, .inl l3, .inl l4, .inl l5] [.inr (.inl x0)] σ Q = WP m62 175 [.inr (.inl l0), .inl l1, .inl l2, .inl l3, .inl l4, .inl l5] [.inr (.inl l0), .inr (.inl x0)] σ Q := w_ld d62_174 rfl
theorem d62_175 : adec m62 175 = some (.getfield 20, 3) := by decide +kernel
theorem s62_175 {l0 : Nat} {l1 : Int} {l2 : Int} {l3 : Int} {l4 : Int} {l5 : Int} {x0 : Nat} : WP m62 175 [.inr (.inl l0), .inl l1, .inl l2, .inl l3, .inl l4, .inl l5] [.inr (.inl 108), .inr (.inl x0)] σ Q = WP m62 178 [.inr (.inl l0), .inl l1, .inl l2, .inl l3, .inl l4, .inl l5] [.inr (.inl 111), .inr (.inl x0)] σ Q := (w_getR (c := 5) (n := 1) d62_175 (by decide +kernel) (by decide +kernel)).trans (g_and ⟨isO_dec (by decide +kernel), by decide +kernel⟩)
theorem d62_178 : adec m62 178 = some (.iload 5, 2) := by decide +kernel
theorem s62_178 {l0 : Nat} {l1 : Int} {l2 : Int} {l3 : Int} {l4 : Int} {l5 : Int} {x0 : Nat} {x1 : Nat} : WP m62 178 [.inr (.inl l0), .inl l1, .inl l2, .inl l3, .inl l4, .inl l5] [.inr (.inl x1), .inr (.inl x0)] σ Q = WP m62 180 [.inr (.inl l0), .inl l1, .inl l2, .inl l3, .inl l4, .inl l5] [.inl l5, .inr (.inl x1), .inr (.inl x0)] σ Q := w_ld d62_178 rfl
theorem d62_180 : adec m62 180 = some (.invokevirtual 62, 3) := by decide +kernel
theorem s62_180 {l0 : Nat} {l1 : Int} {l2 : Int} {l3 : Int} {l4 : Int} {l5 : Int} {x0 : Nat} {x1 : Nat} {x2 : Int} : WP m62 180 [.inr (.inl l0), .inl l1, .inl l2, .inl l3, .inl l4, .inl l5] [.inl x2, .inr (.inl x1), .inr (.inl x0)] σ Q = (isO x1 3 ∧ CA m30 [.inr (.inl x1), .inl x2] σ (fun v σ2 => WP m62 183 [.inr (.inl l0), .inl l1, .inl l2, .inl l3, .inl l4, .inl l5] (v ++ [.inr (.inl x0)]) σ2 Q)) := w_cV (k := 30) d62_180 (by decide +kernel) m30_at rfl rfl ⟨Nat.le_of_ble_eq_true rfl, Nat.le_of_ble_eq_true rfl, Nat.le_of_ble_eq_true rfl⟩ (by decide)
theorem d62_183 : adec m62 183 = some (.invokevirtual 85, 3) := by decide +kernel
theorem s62_183 {l0 : Nat} {l1 : Int} {l2 : Int} {l3 : Int} {l4 : Int} {l5 : Int} {x0 : Nat} {x1 : Int} : WP m62 183 [.inr (.inl l0), .inl l1, .inl l2, .inl l3, .inl l4, .inl l5] [.inl x1, .inr (.inl x0)] σ Q = (isO x0 3 ∧ CA m34 [.inr (.inl x0), .inl x1] σ (fun v σ2 => WP m62 186 [.inr (.inl l0), .inl l1, .inl l2, .inl l3, .inl l4, .inl l5] (v ++ []) σ2 Q)) := w_cV (k := 34) d62_183 (by decide +kernel) m34_at rfl rfl ⟨Nat.le_of_ble_eq_true rfl, Nat.le_of_ble_eq_true rfl, Nat.le_of_ble_eq_true rfl⟩ (by decide)
theorem d62_186 : adec m62 186 = some (.iinc 3 (1), 3) := by decide +kernel
theorem s62_186 {l0 : Nat} {l1 : Int} {l2 : Int} {l3 : Int} {l4 : Int} {l5 : Int} : WP m62 186 [.inr (.inl l0), .inl l1, .inl l2, .inl l3, .inl l4, .inl l5] [] σ Q = (inI (l3 + (1)) ∧ WP m62 189 [.inr (.inl l0), .inl l1, .inl l2, .inl (l3 + (1)), .inl l4, .inl l5] [] σ Q) := w_iinc d62_186 rfl rfl
theorem d62_189 : adec m62 189 = some (.goto (-164), 3) := by decide +kernel
theorem s62_189 {l0 : Nat} {l1 : Int} {l2 : Int} {l3 : Int} {l4 : Int} {l5 : Int} : WP m62 189 [.inr (.inl l0), .inl l1, .inl l2, .inl l3, .inl l4, .inl l5] [] σ Q = WP m62 25 [.inr (.inl l0), .inl l1, .inl l2, .inl l3, .inl l4, .inl l5] [] σ Q := w_goto d62_189 (by decide)
theorem d62_192 : adec m62 192 = some (.return_, 1) := by decide +kernel
theorem s62_192 {l0 : Nat} {l1 : Int} {l2 : Int} {l3 : Int} {l4 : AV} {l5 : AV} : WP m62 192 [.inr (.inl l0), .inl l1, .inl l2, .inl l3, l4, l5] [] σ Q = Q [] σ := w_rv d62_192 rfl
theorem e62 {p0 : Nat} {p1 : Int} {p2 : Int} : CA m62 [.inr (.inl p0), .inl p1, .inl p2] σ Q = WP m62 0 [.inr (.inl p0), .inl p1, .inl p2, vU, vU, vU] [] σ Q := rfl
-- BinderPress$Sorter.hasNoneWithinItself()Z
theorem d63_0 : adec m63 0 = some (.aload_n 0, 1) := by decide +kernel
theorem s63_0 {l0 : Nat} {l1 : AV} : WP m63 0 [.inr (.inl l0), l1] [] σ Q = WP m63 1 [.inr (.inl l0), l1] [.inr (.inl l0)] σ Q := w_ld d63_0 rfl
theorem d63_1 : adec m63 1 = some (.getfield 35, 3) := by decide +kernel
theorem s63_1 {l0 : Nat} {l1 : AV} : WP m63 1 [.inr (.inl l0), l1] [.inr (.inl 108)] σ Q = WP m63 4 [.inr (.inl l0), l1] [.inr (.inl 121)] σ Q := (w_getR (c := 5) (n := 6) d63_1 (by decide +kernel) (by decide +kernel)).trans (g_and ⟨isO_dec (by decide +kernel), by decide +kernel⟩)
theorem d63_4 : adec m63 4 = some (.aload_n 0, 1) := by decide +kernel
theorem s63_4 {l0 : Nat} {l1 : AV} {x0 : Nat} : WP m63 4 [.inr (.inl l0), l1] [.inr (.inl x0)] σ Q = WP m63 5 [.inr (.inl l0), l1] [.inr (.inl l0), .inr (.inl x0)] σ Q := w_ld d63_4 rfl
theorem d63_5 : adec m63 5 = some (.getfield 23, 3) := by decide +kernel
theorem s63_5 {l0 : Nat} {l1 : AV} {x0 : Nat} : WP m63 5 [.inr (.inl l0), l1] [.inr (.inl 108), .inr (.inl x0)] σ Q = WP m63 8 [.inr (.inl l0), l1] [.inr (.inl 113), .inr (.inl x0)] σ Q := (w_getR (c := 5) (n := 2) d63_5 (by decide +kernel) (by decide +kernel)).trans (g_and ⟨isO_dec (by decide +kernel), by decide +kernel⟩)
theorem d63_8 : adec m63 8 = some (.invokevirtual 58, 3) := by decide +kernel
theorem s63_8 {l0 : Nat} {l1 : AV} {x0 : Nat} {x1 : Nat} : WP m63 8 [.inr (.inl l0), l1] [.inr (.inl x1), .inr (.inl x0)] σ Q = (isO x1 3 ∧ CA m28 [.inr (.inl x1)] σ (fun v σ2 => WP m63 11 [.inr (.inl l0), l1] (v ++ [.inr (.inl x0)]) σ2 Q)) := w_cV (k := 28) d63_8 (by decide +kernel) m28_at rfl rfl ⟨Nat.le_of_ble_eq_true rfl, Nat.le_of_ble_eq_true rfl, Nat.le_of_ble_eq_true rfl⟩ (by decide)
theorem d63_11 : adec m63 11 = some (.iconst (0), 1) := by decide +kernel
theorem s63_11 {l0 : Nat} {l1 : AV} {x0 : Nat} {x1 : Int} : WP m63 11 [.inr (.inl l0), l1] [.inl x1, .inr (.inl x0)] σ Q = WP m63 12 [.inr (.inl l0), l1] [.inl (0), .inl x1, .inr (.inl x0)] σ Q := w_iconst d63_11 (by decide)
theorem d63_12 : adec m63 12 = some (.invokevirtual 82, 3) := by decide +kernel
theorem s63_12 {l0 : Nat} {l1 : AV} {x0 : Nat} {x1 : Int} {x2 : Int} : WP m63 12 [.inr (.inl l0), l1] [.inl x2, .inl x1, .inr (.inl x0)] σ Q = (isO x0 3 ∧ CA m37 [.inr (.inl x0), .inl x1, .inl x2] σ (fun v σ2 => WP m63 15 [.inr (.inl l0), l1] (v ++ []) σ2 Q)) := w_cV (k := 37) d63_12 (by decide +kernel) m37_at rfl rfl ⟨Nat.le_of_ble_eq_true rfl, Nat.le_of_ble_eq_true rfl, Nat.le_of_ble_eq_true rfl⟩ (by decide)
theorem d63_15 : adec m63 15 = some (.iconst (0), 1) := by decide +kernel
theorem s63_15 {l0 : Nat} {l1 : AV} : WP m63 15 [.inr (.inl l0), l1] [] σ Q = WP m63 16 [.inr (.inl l0), l1] [.inl (0)] σ Q := w_iconst d63_15 (by decide)
theorem d63_16 : adec m63 16 = some (.istore_n 1, 1) := by decide +kernel
theorem s63_16 {l0 : Nat} {l1 : AV} {x0 : Int} : WP m63 16 [.inr (.inl l0), l1] [.inl x0] σ Q = WP m63 17 [.inr (.inl l0), .inl x0] [] σ Q := w_st1 (j := 1) d63_16 rfl (Nat.le_of_ble_eq_true rfl) rfl
theorem d63_17 : adec m63 17 = some (.iload_n 1, 1) := by decide +kernel
theorem s63_17 {l0 : Nat} {l1 : Int} : WP m63 17 [.inr (.inl l0), .inl l1] [] σ Q = WP m63 18 [.inr (.inl l0), .inl l1] [.inl l1] σ Q := w_ld d63_17 rfl
theorem d63_18 : adec m63 18 = some (.aload_n 0, 1) := by decide +kernel
theorem s63_18 {l0 : Nat} {l1 : Int} {x0 : Int} : WP m63 18 [.inr (.inl l0), .inl l1] [.inl x0] σ Q = WP m63 19 [.inr (.inl l0), .inl l1] [.inr (.inl l0), .inl x0] σ Q := w_ld d63_18 rfl
theorem d63_19 : adec m63 19 = some (.getfield 23, 3) := by decide +kernel
theorem s63_19 {l0 : Nat} {l1 : Int} {x0 : Int} : WP m63 19 [.inr (.inl l0), .inl l1] [.inr (.inl 108), .inl x0] σ Q = WP m63 22 [.inr (.inl l0), .inl l1] [.inr (.inl 113), .inl x0] σ Q := (w_getR (c := 5) (n := 2) d63_19 (by decide +kernel) (by decide +kernel)).trans (g_and ⟨isO_dec (by decide +kernel), by decide +kernel⟩)
theorem d63_22 : adec m63 22 = some (.invokevirtual 58, 3) := by decide +kernel
theorem s63_22 {l0 : Nat} {l1 : Int} {x0 : Int} {x1 : Nat} : WP m63 22 [.inr (.inl l0), .inl l1] [.inr (.inl x1), .inl x0] σ Q = (isO x1 3 ∧ CA m28 [.inr (.inl x1)] σ (fun v σ2 => WP m63 25 [.inr (.inl l0), .inl l1] (v ++ [.inl x0]) σ2 Q)) := w_cV (k := 28) d63_22 (by decide +kernel) m28_at rfl rfl ⟨Nat.le_of_ble_eq_true rfl, Nat.le_of_ble_eq_true rfl, Nat.le_of_ble_eq_true rfl⟩ (by decide)
theorem d63_25 : adec m63 25 = some (.if_icmp .ge (38), 3) := by decide +kernel
theorem s63_25 {l0 : Nat} {l1 : Int} {x0 : Int} {x1 : Int} : WP m63 25 [.inr (.inl l0), .inl l1] [.inl x1, .inl x0] σ Q = (if x1 ≤ x0 then WP m63 63 [.inr (.inl l0), .inl l1] [] σ Q else WP m63 28 [.inr (.inl l0), .inl l1] [] σ Q) := w_icge d63_25 (by decide)
theorem d63_28 : adec m63 28 = some (.aload_n 0, 1) := by decide +kernel
theorem s63_28 {l0 : Nat} {l1 : Int} : WP m63 28 [.inr (.inl l0), .inl l1] [] σ Q = WP m63 29 [.inr (.inl l0), .inl l1] [.inr (.inl l0)] σ Q := w_ld d63_28 rfl
theorem d63_29 : adec m63 29 = some (.getfield 35, 3) := by decide +kernel
theorem s63_29 {l0 : Nat} {l1 : Int} : WP m63 29 [.inr (.inl l0), .inl l1] [.inr (.inl 108)] σ Q = WP m63 32 [.inr (.inl l0), .inl l1] [.inr (.inl 121)] σ Q := (w_getR (c := 5) (n := 6) d63_29 (by decide +kernel) (by decide +kernel)).trans (g_and ⟨isO_dec (by decide +kernel), by decide +kernel⟩)
theorem d63_32 : adec m63 32 = some (.aload_n 0, 1) := by decide +kernel
theorem s63_32 {l0 : Nat} {l1 : Int} {x0 : Nat} : WP m63 32 [.inr (.inl l0), .inl l1] [.inr (.inl x0)] σ Q = WP m63 33 [.inr (.inl l0), .inl l1] [.inr (.inl l0), .inr (.inl x0)] σ Q := w_ld d63_32 rfl
theorem d63_33 : adec m63 33 = some (.iload_n 1, 1) := by decide +kernel
theorem s63_33 {l0 : Nat} {l1 : Int} {x0 : Nat} {x1 : Nat} : WP m63 33 [.inr (.inl l0), .inl l1] [.inr (.inl x1), .inr (.inl x0)] σ Q = WP m63 34 [.inr (.inl l0), .inl l1] [.inl l1, .inr (.inl x1), .inr (.inl x0)] σ Q := w_ld d63_33 rfl
theorem d63_34 : adec m63 34 = some (.invokevirtual 91, 3) := by decide +kernel
theorem s63_34 {l0 : Nat} {l1 : Int} {x0 : Nat} {x2 : Int} : WP m63 34 [.inr (.inl l0), .inl l1] [.inl x2, .inr (.inl 108), .inr (.inl x0)] σ Q = CA m61 [.inr (.inl 108), .inl x2] σ (fun v σ2 => WP m63 37 [.inr (.inl l0), .inl l1] (v ++ [.inr (.inl x0)]) σ2 Q) := (w_cV (k := 61) d63_34 (by decide +kernel) m61_at rfl rfl ⟨Nat.le_of_ble_eq_true rfl, Nat.le_of_ble_eq_true rfl, Nat.le_of_ble_eq_true rfl⟩ (by decide)).trans (g_and (isO_dec (by decide +kernel)))
theorem d63_37 : adec m63 37 = some (.invokevirtual 62, 3) := by decide +kernel
theorem s63_37 {l0 : Nat} {l1 : Int} {x0 : Nat} {x1 : Int} : WP m63 37 [.inr (.inl l0), .inl l1] [.inl x1, .inr (.inl x0)] σ Q = (isO x0 3 ∧ CA m30 [.inr (.inl x0), .inl x1] σ (fun v σ2 => WP m63 40 [.inr (.inl l0), .inl l1] (v ++ []) σ2 Q)) := w_cV (k := 30) d63_37 (by decide +kernel) m30_at rfl rfl ⟨Nat.le_of_ble_eq_true rfl, Nat.le_of_ble_eq_true rfl, Nat.le_of_ble_eq_true rfl⟩ (by decide)
theorem d63_40 : adec m63 40 = some (.ifCond .ne (17), 3) := by decide +kernel
theorem s63_40 {l0 : Nat} {l1 : Int} {x0 : Int} : WP m63 40 [.inr (.inl l0), .inl l1] [.inl x0] σ Q = (if x0 = 0 then WP m63 43 [.inr (.inl l0), .inl l1] [] σ Q else WP m63 57 [.inr (.inl l0), .inl l1] [] σ Q) := w_ifne d63_40 (by decide)
theorem d63_43 : adec m63 43 = some (.aload_n 0, 1) := by decide +kernel
theorem s63_43 {l0 : Nat} {l1 : Int} : WP m63 43 [.inr (.inl l0), .inl l1] [] σ Q = WP m63 44 [.inr (.inl l0), .inl l1] [.inr (.inl l0)] σ Q := w_ld d63_43 rfl
theorem d63_44 : adec m63 44 = some (.aload_n 0, 1) := by decide +kernel
theorem s63_44 {l0 : Nat} {l1 : Int} {x0 : Nat} : WP m63 44 [.inr (.inl l0), .inl l1] [.inr (.inl x0)] σ Q = WP m63 45 [.inr (.inl l0), .inl l1] [.inr (.inl l0), .inr (.inl x0)] σ Q := w_ld d63_44 rfl
theorem d63_45 : adec m63 45 = some (.iload_n 1, 1) := by decide +kernel
theorem s63_45 {l0 : Nat} {l1 : Int} {x0 : Nat} {x1 : Nat} : WP m63 45 [.inr (.inl l0), .inl l1] [.inr (.inl x1), .inr (.inl x0)] σ Q = WP m63 46 [.inr (.inl l0), .inl l1] [.inl l1, .inr (.inl x1), .inr (.inl x0)] σ Q := w_ld d63_45 rfl
theorem d63_46 : adec m63 46 = some (.invokevirtual 91, 3) := by decide +kernel
theorem s63_46 {l0 : Nat} {l1 : Int} {x0 : Nat} {x2 : Int} : WP m63 46 [.inr (.inl l0), .inl l1] [.inl x2, .inr (.inl 108), .inr (.inl x0)] σ Q = CA m61 [.inr (.inl 108), .inl x2] σ (fun v σ2 => WP m63 49 [.inr (.inl l0), .inl l1] (v ++ [.inr (.inl x0)]) σ2 Q) := (w_cV (k := 61) d63_46 (by decide +kernel) m61_at rfl rfl ⟨Nat.le_of_ble_eq_true rfl, Nat.le_of_ble_eq_true rfl, Nat.le_of_ble_eq_true rfl⟩ (by decide)).trans (g_and (isO_dec (by decide +kernel)))
theorem d63_49 : adec m63 49 = some (.invokevirtual 136, 3) := by decide +kernel
theorem s63_49 {l0 : Nat} {l1 : Int} {x1 : Int} : WP m63 49 [.inr (.inl l0), .inl l1] [.inl x1, .inr (.inl 108)] σ Q = CA m64 [.inr (.inl 108), .inl x1] σ (fun v σ2 => WP m63 52 [.inr (.inl l0), .inl l1] (v ++ []) σ2 Q) := (w_cV (k := 64) d63_49 (by decide +kernel) m64_at rfl rfl ⟨Nat.le_of_ble_eq_true rfl, Nat.le_of_ble_eq_true rfl, Nat.le_of_ble_eq_true rfl⟩ (by decide)).trans (g_and (isO_dec (by decide +kernel)))
theorem d63_52 : adec m63 52 = some (.ifCond .ne (5), 3) := by decide +kernel
theorem s63_52 {l0 : Nat} {l1 : Int} {x0 : Int} : WP m63 52 [.inr (.inl l0), .inl l1] [.inl x0] σ Q = (if x0 = 0 then WP m63 55 [.inr (.inl l0), .inl l1] [] σ Q else WP m63 57 [.inr (.inl l0), .inl l1] [] σ Q) := w_ifne d63_52 (by decide)
theorem d63_55 : adec m63 55 = some (.iconst (0), 1) := by decide +kernel
theorem s63_55 {l0 : Nat} {l1 : Int} : WP m63 55 [.inr (.inl l0), .inl l1] [] σ Q = WP m63 56 [.inr (.inl l0), .inl l1] [.inl (0)] σ Q := w_iconst d63_55 (by decide)
theorem d63_56 : adec m63 56 = some (.ireturn, 1) := by decide +kernel
theorem s63_56 {l0 : Nat} {l1 : Int} {x0 : Int} : WP m63 56 [.inr (.inl l0), .inl l1] [.inl x0] σ Q = ((x0 = 0 ∨ x0 = 1) ∧ Q [.inl x0] σ) := w_rz d63_56 rfl
theorem d63_57 : adec m63 57 = some (.iinc 1 (1), 3) := by decide +kernel
theorem s63_57 {l0 : Nat} {l1 : Int} : WP m63 57 [.inr (.inl l0), .inl l1] [] σ Q = (inI (l1 + (1)) ∧ WP m63 60 [.inr (.inl l0), .inl (l1 + (1))] [] σ Q) := w_iinc d63_57 rfl rfl
theorem d63_60 : adec m63 60 = some (.goto (-43), 3) := by decide +kernel
theorem s63_60 {l0 : Nat} {l1 : Int} : WP m63 60 [.inr (.inl l0), .inl l1] [] σ Q = WP m63 17 [.inr (.inl l0), .inl l1] [] σ Q := w_goto d63_60 (by decide)
theorem d63_63 : adec m63 63 = some (.iconst (1), 1) := by decide +kernel
theorem s63_63 {l0 : Nat} {l1 : Int} : WP m63 63 [.inr (.inl l0), .inl l1] [] σ Q = WP m63 64 [.inr (.inl l0), .inl l1] [.inl (1)] σ Q := w_iconst d63_63 (by decide)
theorem d63_64 : adec m63 64 = some (.ireturn, 1) := by decide +kernel
theorem s63_64 {l0 : Nat} {l1 : Int} {x0 : Int} : WP m63 64 [.inr (.inl l0), .inl l1] [.inl x0] σ Q = ((x0 = 0 ∨ x0 = 1) ∧ Q [.inl x0] σ) := w_rz d63_64 rfl
theorem e63 {p0 : Nat} : CA m63 [.inr (.inl p0)] σ Q = WP m63 0 [.inr (.inl p0), vU] [] σ Q := rfl
-- BinderPress$Sorter.isSoundFrom(I)Z
theorem d64_0 : adec m64 0 = some (.aload_n 0, 1) := by decide +kernel
theorem s64_0 {l0 : Nat} {l1 : Int} {l2 : AV} {l3 : AV} : WP m64 0 [.inr (.inl l0), .inl l1, l2, l3] [] σ Q = WP m64 1 [.inr (.inl l0), .inl l1, l2, l3] [.inr (.inl l0)] σ Q := w_ld d64_0 rfl
theorem d64_1 : adec m64 1 = some (.getfield 32, 3) := by decide +kernel
theorem s64_1 {l0 : Nat} {l1 : Int} {l2 : AV} {l3 : AV} : WP m64 1 [.inr (.inl l0), .inl l1, l2, l3] [.inr (.inl 108)] σ Q = WP m64 4 [.inr (.inl l0), .inl l1, l2, l3] [.inr (.inl 119)] σ Q := (w_getR (c := 5) (n := 5) d64_1 (by decide +kernel) (by decide +kernel)).trans (g_and ⟨isO_dec (by decide +kernel), by decide +kernel⟩)
theorem d64_4 : adec m64 4 = some (.invokevirtual 52, 3) := by decide +kernel
theorem s64_4 {l0 : Nat} {l1 : Int} {l2 : AV} {l3 : AV} {x0 : Nat} : WP m64 4 [.inr (.inl l0), .inl l1, l2, l3] [.inr (.inl x0)] σ Q = (isO x0 3 ∧ CA m29 [.inr (.inl x0)] σ (fun v σ2 => WP m64 7 [.inr (.inl l0), .inl l1, l2, l3] (v ++ []) σ2 Q)) := w_cV (k := 29) d64_4 (by decide +kernel) m29_at rfl rfl ⟨Nat.le_of_ble_eq_true rfl, Nat.le_of_ble_eq_true rfl, Nat.le_of_ble_eq_true rfl⟩ (by decide)
theorem d64_7 : adec m64 7 = some (.aload_n 0, 1) := by decide +kernel
theorem s64_7 {l0 : Nat} {l1 : Int} {l2 : AV} {l3 : AV} : WP m64 7 [.inr (.inl l0), .inl l1, l2, l3] [] σ Q = WP m64 8 [.inr (.inl l0), .inl l1, l2, l3] [.inr (.inl l0)] σ Q := w_ld d64_7 rfl
theorem d64_8 : adec m64 8 = some (.getfield 32, 3) := by decide +kernel
theorem s64_8 {l0 : Nat} {l1 : Int} {l2 : AV} {l3 : AV} : WP m64 8 [.inr (.inl l0), .inl l1, l2, l3] [.inr (.inl 108)] σ Q = WP m64 11 [.inr (.inl l0), .inl l1, l2, l3] [.inr (.inl 119)] σ Q := (w_getR (c := 5) (n := 5) d64_8 (by decide +kernel) (by decide +kernel)).trans (g_and ⟨isO_dec (by decide +kernel), by decide +kernel⟩)
theorem d64_11 : adec m64 11 = some (.iload_n 1, 1) := by decide +kernel
theorem s64_11 {l0 : Nat} {l1 : Int} {l2 : AV} {l3 : AV} {x0 : Nat} : WP m64 11 [.inr (.inl l0), .inl l1, l2, l3] [.inr (.inl x0)] σ Q = WP m64 12 [.inr (.inl l0), .inl l1, l2, l3] [.inl l1, .inr (.inl x0)] σ Q := w_ld d64_11 rfl
theorem d64_12 : adec m64 12 = some (.invokevirtual 85, 3) := by decide +kernel
theorem s64_12 {l0 : Nat} {l1 : Int} {l2 : AV} {l3 : AV} {x0 : Nat} {x1 : Int} : WP m64 12 [.inr (.inl l0), .inl l1, l2, l3] [.inl x1, .inr (.inl x0)] σ Q = (isO x0 3 ∧ CA m34 [.inr (.inl x0), .inl x1] σ (fun v σ2 => WP m64 15 [.inr (.inl l0), .inl l1, l2, l3] (v ++ []) σ2 Q)) := w_cV (k := 34) d64_12 (by decide +kernel) m34_at rfl rfl ⟨Nat.le_of_ble_eq_true rfl, Nat.le_of_ble_eq_true rfl, Nat.le_of_ble_eq_true rfl⟩ (by decide)
theorem d64_15 : adec m64 15 = some (.iconst (0), 1) := by decide +kernel
theorem s64_15 {l0 : Nat} {l1 : Int} {l2 : AV} {l3 : AV} : WP m64 15 [.inr (.inl l0), .inl l1, l2, l3] [] σ Q = WP m64 16 [.inr (.inl l0), .inl l1, l2, l3] [.inl (0)] σ Q := w_iconst d64_15 (by decide)
theorem d64_16 : adec m64 16 = some (.istore_n 2, 1) := by decide +kernel
theorem s64_16 {l0 : Nat} {l1 : Int} {l2 : AV} {l3 : AV} {x0 : Int} : WP m64 16 [.inr (.inl l0), .inl l1, l2, l3] [.inl x0] σ Q = WP m64 17 [.inr (.inl l0), .inl l1, .inl x0, l3] [] σ Q := w_st1 (j := 2) d64_16 rfl (Nat.le_of_ble_eq_true rfl) rfl
theorem d64_17 : adec m64 17 = some (.iload_n 2, 1) := by decide +kernel
theorem s64_17 {l0 : Nat} {l1 : Int} {l2 : Int} {l3 : AV} : WP m64 17 [.inr (.inl l0), .inl l1, .inl l2, l3] [] σ Q = WP m64 18 [.inr (.inl l0), .inl l1, .inl l2, l3] [.inl l2] σ Q := w_ld d64_17 rfl
theorem d64_18 : adec m64 18 = some (.sipush (2880), 3) := by decide +kernel
theorem s64_18 {l0 : Nat} {l1 : Int} {l2 : Int} {l3 : AV} {x0 : Int} : WP m64 18 [.inr (.inl l0), .inl l1, .inl l2, l3] [.inl x0] σ Q = WP m64 21 [.inr (.inl l0), .inl l1, .inl l2, l3] [.inl (2880), .inl x0] σ Q := w_sipush d64_18 (by decide)
theorem d64_21 : adec m64 21 = some (.if_icmp .ge (108), 3) := by decide +kernel
theorem s64_21 {l0 : Nat} {l1 : Int} {l2 : Int} {l3 : AV} {x0 : Int} {x1 : Int} : WP m64 21 [.inr (.inl l0), .inl l1, .inl l2, l3] [.inl x1, .inl x0] σ Q = (if x1 ≤ x0 then WP m64 129 [.inr (.inl l0), .inl l1, .inl l2, l3] [] σ Q else WP m64 24 [.inr (.inl l0), .inl l1, .inl l2, l3] [] σ Q) := w_icge d64_21 (by decide)
theorem d64_24 : adec m64 24 = some (.aload_n 0, 1) := by decide +kernel
theorem s64_24 {l0 : Nat} {l1 : Int} {l2 : Int} {l3 : AV} : WP m64 24 [.inr (.inl l0), .inl l1, .inl l2, l3] [] σ Q = WP m64 25 [.inr (.inl l0), .inl l1, .inl l2, l3] [.inr (.inl l0)] σ Q := w_ld d64_24 rfl
theorem d64_25 : adec m64 25 = some (.getfield 32, 3) := by decide +kernel
theorem s64_25 {l0 : Nat} {l1 : Int} {l2 : Int} {l3 : AV} : WP m64 25 [.inr (.inl l0), .inl l1, .inl l2, l3] [.inr (.inl 108)] σ Q = WP m64 28 [.inr (.inl l0), .inl l1, .inl l2, l3] [.inr (.inl 119)] σ Q := (w_getR (c := 5) (n := 5) d64_25 (by decide +kernel) (by decide +kernel)).trans (g_and ⟨isO_dec (by decide +kernel), by decide +kernel⟩)
theorem d64_28 : adec m64 28 = some (.invokevirtual 58, 3) := by decide +kernel
theorem s64_28 {l0 : Nat} {l1 : Int} {l2 : Int} {l3 : AV} {x0 : Nat} : WP m64 28 [.inr (.inl l0), .inl l1, .inl l2, l3] [.inr (.inl x0)] σ Q = (isO x0 3 ∧ CA m28 [.inr (.inl x0)] σ (fun v σ2 => WP m64 31 [.inr (.inl l0), .inl l1, .inl l2, l3] (v ++ []) σ2 Q)) := w_cV (k := 28) d64_28 (by decide +kernel) m28_at rfl rfl ⟨Nat.le_of_ble_eq_true rfl, Nat.le_of_ble_eq_true rfl, Nat.le_of_ble_eq_true rfl⟩ (by decide)
theorem d64_31 : adec m64 31 = some (.ifCond .le (98), 3) := by decide +kernel
theorem s64_31 {l0 : Nat} {l1 : Int} {l2 : Int} {l3 : AV} {x0 : Int} : WP m64 31 [.inr (.inl l0), .inl l1, .inl l2, l3] [.inl x0] σ Q = (if x0 ≤ 0 then WP m64 129 [.inr (.inl l0), .inl l1, .inl l2, l3] [] σ Q else WP m64 34 [.inr (.inl l0), .inl l1, .inl l2, l3] [] σ Q) := w_ifle d64_31 (by decide)
theorem d64_34 : adec m64 34 = some (.aload_n 0, 1) := by decide +kernel
theorem s64_34 {l0 : Nat} {l1 : Int} {l2 : Int} {l3 : AV} : WP m64 34 [.inr (.inl l0), .inl l1, .inl l2, l3] [] σ Q = WP m64 35 [.inr (.inl l0), .inl l1, .inl l2, l3] [.inr (.inl l0)] σ Q := w_ld d64_34 rfl
theorem d64_35 : adec m64 35 = some (.getfield 32, 3) := by decide +kernel
theorem s64_35 {l0 : Nat} {l1 : Int} {l2 : Int} {l3 : AV} : WP m64 35 [.inr (.inl l0), .inl l1, .inl l2, l3] [.inr (.inl 108)] σ Q = WP m64 38 [.inr (.inl l0), .inl l1, .inl l2, l3] [.inr (.inl 119)] σ Q := (w_getR (c := 5) (n := 5) d64_35 (by decide +kernel) (by decide +kernel)).trans (g_and ⟨isO_dec (by decide +kernel), by decide +kernel⟩)
theorem d64_38 : adec m64 38 = some (.invokevirtual 139, 3) := by decide +kernel
theorem s64_38 {l0 : Nat} {l1 : Int} {l2 : Int} {l3 : AV} {x0 : Nat} : WP m64 38 [.inr (.inl l0), .inl l1, .inl l2, l3] [.inr (.inl x0)] σ Q = (isO x0 3 ∧ CA m32 [.inr (.inl x0)] σ (fun v σ2 => WP m64 41 [.inr (.inl l0), .inl l1, .inl l2, l3] (v ++ []) σ2 Q)) := w_cV (k := 32) d64_38 (by decide +kernel) m32_at rfl rfl ⟨Nat.le_of_ble_eq_true rfl, Nat.le_of_ble_eq_true rfl, Nat.le_of_ble_eq_true rfl⟩ (by decide)
theorem d64_41 : adec m64 41 = some (.istore_n 3, 1) := by decide +kernel
theorem s64_41 {l0 : Nat} {l1 : Int} {l2 : Int} {l3 : AV} {x0 : Int} : WP m64 41 [.inr (.inl l0), .inl l1, .inl l2, l3] [.inl x0] σ Q = WP m64 42 [.inr (.inl l0), .inl l1, .inl l2, .inl x0] [] σ Q := w_st1 (j := 3) d64_41 rfl (Nat.le_of_ble_eq_true rfl) rfl
theorem d64_42 : adec m64 42 = some (.aload_n 0, 1) := by decide +kernel
theorem s64_42 {l0 : Nat} {l1 : Int} {l2 : Int} {l3 : Int} : WP m64 42 [.inr (.inl l0), .inl l1, .inl l2, .inl l3] [] σ Q = WP m64 43 [.inr (.inl l0), .inl l1, .inl l2, .inl l3] [.inr (.inl l0)] σ Q := w_ld d64_42 rfl
theorem d64_43 : adec m64 43 = some (.getfield 35, 3) := by decide +kernel
theorem s64_43 {l0 : Nat} {l1 : Int} {l2 : Int} {l3 : Int} : WP m64 43 [.inr (.inl l0), .inl l1, .inl l2, .inl l3] [.inr (.inl 108)] σ Q = WP m64 46 [.inr (.inl l0), .inl l1, .inl l2, .inl l3] [.inr (.inl 121)] σ Q := (w_getR (c := 5) (n := 6) d64_43 (by decide +kernel) (by decide +kernel)).trans (g_and ⟨isO_dec (by decide +kernel), by decide +kernel⟩)
theorem d64_46 : adec m64 46 = some (.iload_n 3, 1) := by decide +kernel
theorem s64_46 {l0 : Nat} {l1 : Int} {l2 : Int} {l3 : Int} {x0 : Nat} : WP m64 46 [.inr (.inl l0), .inl l1, .inl l2, .inl l3] [.inr (.inl x0)] σ Q = WP m64 47 [.inr (.inl l0), .inl l1, .inl l2, .inl l3] [.inl l3, .inr (.inl x0)] σ Q := w_ld d64_46 rfl
theorem d64_47 : adec m64 47 = some (.invokevirtual 62, 3) := by decide +kernel
theorem s64_47 {l0 : Nat} {l1 : Int} {l2 : Int} {l3 : Int} {x0 : Nat} {x1 : Int} : WP m64 47 [.inr (.inl l0), .inl l1, .inl l2, .inl l3] [.inl x1, .inr (.inl x0)] σ Q = (isO x0 3 ∧ CA m30 [.inr (.inl x0), .inl x1] σ (fun v σ2 => WP m64 50 [.inr (.inl l0), .inl l1, .inl l2, .inl l3] (v ++ []) σ2 Q)) := w_cV (k := 30) d64_47 (by decide +kernel) m30_at rfl rfl ⟨Nat.le_of_ble_eq_true rfl, Nat.le_of_ble_eq_true rfl, Nat.le_of_ble_eq_true rfl⟩ (by decide)
theorem d64_50 : adec m64 50 = some (.ifCond .eq (23), 3) := by decide +kernel
theorem s64_50 {l0 : Nat} {l1 : Int} {l2 : Int} {l3 : Int} {x0 : Int} : WP m64 50 [.inr (.inl l0), .inl l1, .inl l2, .inl l3] [.inl x0] σ Q = (if x0 = 0 then WP m64 73 [.inr (.inl l0), .inl l1, .inl l2, .inl l3] [] σ Q else WP m64 53 [.inr (.inl l0), .inl l1, .inl l2, .inl l3] [] σ Q) := w_ifeq d64_50 (by decide)
theorem d64_53 : adec m64 53 = some (.aload_n 0, 1) := by decide +kernel
theorem s64_53 {l0 : Nat} {l1 : Int} {l2 : Int} {l3 : Int} : WP m64 53 [.inr (.inl l0), .inl l1, .inl l2, .inl l3] [] σ Q = WP m64 54 [.inr (.inl l0), .inl l1, .inl l2, .inl l3] [.inr (.inl l0)] σ Q := w_ld d64_53 rfl
theorem d64_54 : adec m64 54 = some (.getfield 35, 3) := by decide +kernel
theorem s64_54 {l0 : Nat} {l1 : Int} {l2 : Int} {l3 : Int} : WP m64 54 [.inr (.inl l0), .inl l1, .inl l2, .inl l3] [.inr (.inl 108)] σ Q = WP m64 57 [.inr (.inl l0), .inl l1, .inl l2, .inl l3] [.inr (.inl 121)] σ Q := (w_getR (c := 5) (n := 6) d64_54 (by decide +kernel) (by decide +kernel)).trans (g_and ⟨isO_dec (by decide +kernel), by decide +kernel⟩)
theorem d64_57 : adec m64 57 = some (.iload_n 3, 1) := by decide +kernel
theorem s64_57 {l0 : Nat} {l1 : Int} {l2 : Int} {l3 : Int} {x0 : Nat} : WP m64 57 [.inr (.inl l0), .inl l1, .inl l2, .inl l3] [.inr (.inl x0)] σ Q = WP m64 58 [.inr (.inl l0), .inl l1, .inl l2, .inl l3] [.inl l3, .inr (.inl x0)] σ Q := w_ld d64_57 rfl
theorem d64_58 : adec m64 58 = some (.iconst (2), 1) := by decide +kernel
theorem s64_58 {l0 : Nat} {l1 : Int} {l2 : Int} {l3 : Int} {x0 : Nat} {x1 : Int} : WP m64 58 [.inr (.inl l0), .inl l1, .inl l2, .inl l3] [.inl x1, .inr (.inl x0)] σ Q = WP m64 59 [.inr (.inl l0), .inl l1, .inl l2, .inl l3] [.inl (2), .inl x1, .inr (.inl x0)] σ Q := w_iconst d64_58 (by decide)
theorem d64_59 : adec m64 59 = some (.invokevirtual 104, 3) := by decide +kernel
theorem s64_59 {l0 : Nat} {l1 : Int} {l2 : Int} {l3 : Int} {x0 : Nat} {x1 : Int} {x2 : Int} : WP m64 59 [.inr (.inl l0), .inl l1, .inl l2, .inl l3] [.inl x2, .inl x1, .inr (.inl x0)] σ Q = (isO x0 3 ∧ CA m33 [.inr (.inl x0), .inl x1, .inl x2] σ (fun v σ2 => WP m64 62 [.inr (.inl l0), .inl l1, .inl l2, .inl l3] (v ++ []) σ2 Q)) := w_cV (k := 33) d64_59 (by decide +kernel) m33_at rfl rfl ⟨Nat.le_of_ble_eq_true rfl, Nat.le_of_ble_eq_true rfl, Nat.le_of_ble_eq_true rfl⟩ (by decide)
theorem d64_62 : adec m64 62 = some (.aload_n 0, 1) := by decide +kernel
theorem s64_62 {l0 : Nat} {l1 : Int} {l2 : Int} {l3 : Int} : WP m64 62 [.inr (.inl l0), .inl l1, .inl l2, .inl l3] [] σ Q = WP m64 63 [.inr (.inl l0), .inl l1, .inl l2, .inl l3] [.inr (.inl l0)] σ Q := w_ld d64_62 rfl
theorem d64_63 : adec m64 63 = some (.getfield 32, 3) := by decide +kernel
theorem s64_63 {l0 : Nat} {l1 : Int} {l2 : Int} {l3 : Int} : WP m64 63 [.inr (.inl l0), .inl l1, .inl l2, .inl l3] [.inr (.inl 108)] σ Q = WP m64 66 [.inr (.inl l0), .inl l1, .inl l2, .inl l3] [.inr (.inl 119)] σ Q := (w_getR (c := 5) (n := 5) d64_63 (by decide +kernel) (by decide +kernel)).trans (g_and ⟨isO_dec (by decide +kernel), by decide +kernel⟩)
theorem d64_66 : adec m64 66 = some (.invokevirtual 88, 3) := by decide +kernel
theorem s64_66 {l0 : Nat} {l1 : Int} {l2 : Int} {l3 : Int} {x0 : Nat} : WP m64 66 [.inr (.inl l0), .inl l1, .inl l2, .inl l3] [.inr (.inl x0)] σ Q = (isO x0 3 ∧ CA m35 [.inr (.inl x0)] σ (fun v σ2 => WP m64 69 [.inr (.inl l0), .inl l1, .inl l2, .inl l3] (v ++ []) σ2 Q)) := w_cV (k := 35) d64_66 (by decide +kernel) m35_at rfl rfl ⟨Nat.le_of_ble_eq_true rfl, Nat.le_of_ble_eq_true rfl, Nat.le_of_ble_eq_true rfl⟩ (by decide)
theorem d64_69 : adec m64 69 = some (.pop, 1) := by decide +kernel
theorem s64_69 {l0 : Nat} {l1 : Int} {l2 : Int} {l3 : Int} {x0 : Int} : WP m64 69 [.inr (.inl l0), .inl l1, .inl l2, .inl l3] [.inl x0] σ Q = WP m64 70 [.inr (.inl l0), .inl l1, .inl l2, .inl l3] [] σ Q := w_ld d64_69 rfl
theorem d64_70 : adec m64 70 = some (.goto (53), 3) := by decide +kernel
theorem s64_70 {l0 : Nat} {l1 : Int} {l2 : Int} {l3 : Int} : WP m64 70 [.inr (.inl l0), .inl l1, .inl l2, .inl l3] [] σ Q = WP m64 123 [.inr (.inl l0), .inl l1, .inl l2, .inl l3] [] σ Q := w_goto d64_70 (by decide)
theorem d64_73 : adec m64 73 = some (.aload_n 0, 1) := by decide +kernel
theorem s64_73 {l0 : Nat} {l1 : Int} {l2 : Int} {l3 : Int} : WP m64 73 [.inr (.inl l0), .inl l1, .inl l2, .inl l3] [] σ Q = WP m64 74 [.inr (.inl l0), .inl l1, .inl l2, .inl l3] [.inr (.inl l0)] σ Q := w_ld d64_73 rfl
theorem d64_74 : adec m64 74 = some (.getfield 35, 3) := by decide +kernel
theorem s64_74 {l0 : Nat} {l1 : Int} {l2 : Int} {l3 : Int} : WP m64 74 [.inr (.inl l0), .inl l1, .inl l2, .inl l3] [.inr (.inl 108)] σ Q = WP m64 77 [.inr (.inl l0), .inl l1, .inl l2, .inl l3] [.inr (.inl 121)] σ Q := (w_getR (c := 5) (n := 6) d64_74 (by decide +kernel) (by decide +kernel)).trans (g_and ⟨isO_dec (by decide +kernel), by decide +kernel⟩)
theorem d64_77 : adec m64 77 = some (.iload_n 3, 1) := by decide +kernel
theorem s64_77 {l0 : Nat} {l1 : Int} {l2 : Int} {l3 : Int} {x0 : Nat} : WP m64 77 [.inr (.inl l0), .inl l1, .inl l2, .inl l3] [.inr (.inl x0)] σ Q = WP m64 78 [.inr (.inl l0), .inl l1, .inl l2, .inl l3] [.inl l3, .inr (.inl x0)] σ Q := w_ld d64_77 rfl
theorem d64_78 : adec m64 78 = some (.iconst (1), 1) := by decide +kernel
theorem s64_78 {l0 : Nat} {l1 : Int} {l2 : Int} {l3 : Int} {x0 : Nat} {x1 : Int} : WP m64 78 [.inr (.inl l0), .inl l1, .inl l2, .inl l3] [.inl x1, .inr (.inl x0)] σ Q = WP m64 79 [.inr (.inl l0), .inl l1, .inl l2, .inl l3] [.inl (1), .inl x1, .inr (.inl x0)] σ Q := w_iconst d64_78 (by decide)
theorem d64_79 : adec m64 79 = some (.invokevirtual 104, 3) := by decide +kernel
theorem s64_79 {l0 : Nat} {l1 : Int} {l2 : Int} {l3 : Int} {x0 : Nat} {x1 : Int} {x2 : Int} : WP m64 79 [.inr (.inl l0), .inl l1, .inl l2, .inl l3] [.inl x2, .inl x1, .inr (.inl x0)] σ Q = (isO x0 3 ∧ CA m33 [.inr (.inl x0), .inl x1, .inl x2] σ (fun v σ2 => WP m64 82 [.inr (.inl l0), .inl l1, .inl l2, .inl l3] (v ++ []) σ2 Q)) := w_cV (k := 33) d64_79 (by decide +kernel) m33_at rfl rfl ⟨Nat.le_of_ble_eq_true rfl, Nat.le_of_ble_eq_true rfl, Nat.le_of_ble_eq_true rfl⟩ (by decide)
theorem d64_82 : adec m64 82 = some (.aload_n 0, 1) := by decide +kernel
theorem s64_82 {l0 : Nat} {l1 : Int} {l2 : Int} {l3 : Int} : WP m64 82 [.inr (.inl l0), .inl l1, .inl l2, .inl l3] [] σ Q = WP m64 83 [.inr (.inl l0), .inl l1, .inl l2, .inl l3] [.inr (.inl l0)] σ Q := w_ld d64_82 rfl
theorem d64_83 : adec m64 83 = some (.iload_n 3, 1) := by decide +kernel
theorem s64_83 {l0 : Nat} {l1 : Int} {l2 : Int} {l3 : Int} {x0 : Nat} : WP m64 83 [.inr (.inl l0), .inl l1, .inl l2, .inl l3] [.inr (.inl x0)] σ Q = WP m64 84 [.inr (.inl l0), .inl l1, .inl l2, .inl l3] [.inl l3, .inr (.inl x0)] σ Q := w_ld d64_83 rfl
theorem d64_84 : adec m64 84 = some (.invokevirtual 97, 3) := by decide +kernel
theorem s64_84 {l0 : Nat} {l1 : Int} {l2 : Int} {l3 : Int} {x1 : Int} : WP m64 84 [.inr (.inl l0), .inl l1, .inl l2, .inl l3] [.inl x1, .inr (.inl 108)] σ Q = CA m60 [.inr (.inl 108), .inl x1] σ (fun v σ2 => WP m64 87 [.inr (.inl l0), .inl l1, .inl l2, .inl l3] (v ++ []) σ2 Q) := (w_cV (k := 60) d64_84 (by decide +kernel) m60_at rfl rfl ⟨Nat.le_of_ble_eq_true rfl, Nat.le_of_ble_eq_true rfl, Nat.le_of_ble_eq_true rfl⟩ (by decide)).trans (g_and (isO_dec (by decide +kernel)))
theorem d64_87 : adec m64 87 = some (.ifCond .ne (36), 3) := by decide +kernel
theorem s64_87 {l0 : Nat} {l1 : Int} {l2 : Int} {l3 : Int} {x0 : Int} : WP m64 87 [.inr (.inl l0), .inl l1, .inl l2, .inl l3] [.inl x0] σ Q = (if x0 = 0 then WP m64 90 [.inr (.inl l0), .inl l1, .inl l2, .inl l3] [] σ Q else WP m64 123 [.inr (.inl l0), .inl l1, .inl l2, .inl l3] [] σ Q) := w_ifne d64_87 (by decide)
theorem d64_90 : adec m64 90 = some (.aload_n 0, 1) := by decide +kernel
theorem s64_90 {l0 : Nat} {l1 : Int} {l2 : Int} {l3 : Int} : WP m64 90 [.inr (.inl l0), .inl l1, .inl l2, .inl l3] [] σ Q = WP m64 91 [.inr (.inl l0), .inl l1, .inl l2, .inl l3] [.inr (.inl l0)] σ Q := w_ld d64_90 rfl
theorem d64_91 : adec m64 91 = some (.aload_n 0, 1) := by decide +kernel
theorem s64_91 {l0 : Nat} {l1 : Int} {l2 : Int} {l3 : Int} {x0 : Nat} : WP m64 91 [.inr (.inl l0), .inl l1, .inl l2, .inl l3] [.inr (.inl x0)] σ Q = WP m64 92 [.inr (.inl l0), .inl l1, .inl l2, .inl l3] [.inr (.inl l0), .inr (.inl x0)] σ Q := w_ld d64_91 rfl
theorem d64_92 : adec m64 92 = some (.aload_n 0, 1) := by decide +kernel
theorem s64_92 {l0 : Nat} {l1 : Int} {l2 : Int} {l3 : Int} {x0 : Nat} {x1 : Nat} : WP m64 92 [.inr (.inl l0), .inl l1, .inl l2, .inl l3] [.inr (.inl x1), .inr (.inl x0)] σ Q = WP m64 93 [.inr (.inl l0), .inl l1, .inl l2, .inl l3] [.inr (.inl l0), .inr (.inl x1), .inr (.inl x0)] σ Q := w_ld d64_92 rfl
theorem d64_93 : adec m64 93 = some (.getfield 16, 3) := by decide +kernel
theorem s64_93 {l0 : Nat} {l1 : Int} {l2 : Int} {l3 : Int} {x0 : Nat} {x1 : Nat} : WP m64 93 [.inr (.inl l0), .inl l1, .inl l2, .inl l3] [.inr (.inl 108), .inr (.inl x1), .inr (.inl x0)] σ Q = WP m64 96 [.inr (.inl l0), .inl l1, .inl l2, .inl l3] [.inr (.inl 109), .inr (.inl x1), .inr (.inl x0)] σ Q := (w_getR (c := 5) (n := 0) d64_93 (by decide +kernel) (by decide +kernel)).trans (g_and ⟨isO_dec (by decide +kernel), by decide +kernel⟩)
theorem d64_96 : adec m64 96 = some (.iload_n 3, 1) := by decide +kernel
theorem s64_96 {l0 : Nat} {l1 : Int} {l2 : Int} {l3 : Int} {x0 : Nat} {x1 : Nat} {x2 : Nat} : WP m64 96 [.inr (.inl l0), .inl l1, .inl l2, .inl l3] [.inr (.inl x2), .inr (.inl x1), .inr (.inl x0)] σ Q = WP m64 97 [.inr (.inl l0), .inl l1, .inl l2, .inl l3] [.inl l3, .inr (.inl x2), .inr (.inl x1), .inr (.inl x0)] σ Q := w_ld d64_96 rfl
theorem d64_97 : adec m64 97 = some (.invokevirtual 62, 3) := by decide +kernel
theorem s64_97 {l0 : Nat} {l1 : Int} {l2 : Int} {l3 : Int} {x0 : Nat} {x1 : Nat} {x2 : Nat} {x3 : Int} : WP m64 97 [.inr (.inl l0), .inl l1, .inl l2, .inl l3] [.inl x3, .inr (.inl x2), .inr (.inl x1), .inr (.inl x0)] σ Q = (isO x2 3 ∧ CA m30 [.inr (.inl x2), .inl x3] σ (fun v σ2 => WP m64 100 [.inr (.inl l0), .inl l1, .inl l2, .inl l3] (v ++ [.inr (.inl x1), .inr (.inl x0)]) σ2 Q)) := w_cV (k := 30) d64_97 (by decide +kernel) m30_at rfl rfl ⟨Nat.le_of_ble_eq_true rfl, Nat.le_of_ble_eq_true rfl, Nat.le_of_ble_eq_true rfl⟩ (by decide)
theorem d64_100 : adec m64 100 = some (.invokevirtual 91, 3) := by decide +kernel
theorem s64_100 {l0 : Nat} {l1 : Int} {l2 : Int} {l3 : Int} {x0 : Nat} {x2 : Int} : WP m64 100 [.inr (.inl l0), .inl l1, .inl l2, .inl l3] [.inl x2, .inr (.inl 108), .inr (.inl x0)] σ Q = CA m61 [.inr (.inl 108), .inl x2] σ (fun v σ2 => WP m64 103 [.inr (.inl l0), .inl l1, .inl l2, .inl l3] (v ++ [.inr (.inl x0)]) σ2 Q) := (w_cV (k := 61) d64_100 (by decide +kernel) m61_at rfl rfl ⟨Nat.le_of_ble_eq_true rfl, Nat.le_of_ble_eq_true rfl, Nat.le_of_ble_eq_true rfl⟩ (by decide)).trans (g_and (isO_dec (by decide +kernel)))
theorem d64_103 : adec m64 103 = some (.aload_n 0, 1) := by decide +kernel
theorem s64_103 {l0 : Nat} {l1 : Int} {l2 : Int} {l3 : Int} {x0 : Nat} {x1 : Int} : WP m64 103 [.inr (.inl l0), .inl l1, .inl l2, .inl l3] [.inl x1, .inr (.inl x0)] σ Q = WP m64 104 [.inr (.inl l0), .inl l1, .inl l2, .inl l3] [.inr (.inl l0), .inl x1, .inr (.inl x0)] σ Q := w_ld d64_103 rfl
theorem d64_104 : adec m64 104 = some (.aload_n 0, 1) := by decide +kernel
theorem s64_104 {l0 : Nat} {l1 : Int} {l2 : Int} {l3 : Int} {x0 : Nat} {x1 : Int} {x2 : Nat} : WP m64 104 [.inr (.inl l0), .inl l1, .inl l2, .inl l3] [.inr (.inl x2), .inl x1, .inr (.inl x0)] σ Q = WP m64 105 [.inr (.inl l0), .inl l1, .inl l2, .inl l3] [.inr (.inl l0), .inr (.inl x2), .inl x1, .inr (.inl x0)] σ Q := w_ld d64_104 rfl
theorem d64_105 : adec m64 105 = some (.getfield 20, 3) := by decide +kernel
theorem s64_105 {l0 : Nat} {l1 : Int} {l2 : Int} {l3 : Int} {x0 : Nat} {x1 : Int} {x2 : Nat} : WP m64 105 [.inr (.inl l0), .inl l1, .inl l2, .inl l3] [.inr (.inl 108), .inr (.inl x2), .inl x1, .inr (.inl x0)] σ Q = WP m64 108 [.inr (.inl l0), .inl l1, .inl l2, .inl l3] [.inr (.inl 111), .inr (.inl x2), .inl x1, .inr (.inl x0)] σ Q := (w_getR (c := 5) (n := 1) d64_105 (by decide +kernel) (by decide +kernel)).trans (g_and ⟨isO_dec (by decide +kernel), by decide +kernel⟩)
theorem d64_108 : adec m64 108 = some (.iload_n 3, 1) := by decide +kernel
theorem s64_108 {l0 : Nat} {l1 : Int} {l2 : Int} {l3 : Int} {x0 : Nat} {x1 : Int} {x2 : Nat} {x3 : Nat} : WP m64 108 [.inr (.inl l0), .inl l1, .inl l2, .inl l3] [.inr (.inl x3), .inr (.inl x2), .inl x1, .inr (.inl x0)] σ Q = WP m64 109 [.inr (.inl l0), .inl l1, .inl l2, .inl l3] [.inl l3, .inr (.inl x3), .inr (.inl x2), .inl x1, .inr (.inl x0)] σ Q := w_ld d64_108 rfl
theorem d64_109 : adec m64 109 = some (.invokevirtual 62, 3) := by decide +kernel
theorem s64_109 {l0 : Nat} {l1 : Int} {l2 : Int} {l3 : Int} {x0 : Nat} {x1 : Int} {x2 : Nat} {x3 : Nat} {x4 : Int} : WP m64 109 [.inr (.inl l0), .inl l1, .inl l2, .inl l3] [.inl x4, .inr (.inl x3), .inr (.inl x2), .inl x1, .inr (.inl x0)] σ Q = (isO x3 3 ∧ CA m30 [.inr (.inl x3), .inl x4] σ (fun v σ2 => WP m64 112 [.inr (.inl l0), .inl l1, .inl l2, .inl l3] (v ++ [.inr (.inl x2), .inl x1, .inr (.inl x0)]) σ2 Q)) := w_cV (k := 30) d64_109 (by decide +kernel) m30_at rfl rfl ⟨Nat.le_of_ble_eq_true rfl, Nat.le_of_ble_eq_true rfl, Nat.le_of_ble_eq_true rfl⟩ (by decide)
theorem d64_112 : adec m64 112 = some (.invokevirtual 91, 3) := by decide +kernel
theorem s64_112 {l0 : Nat} {l1 : Int} {l2 : Int} {l3 : Int} {x0 : Nat} {x1 : Int} {x3 : Int} : WP m64 112 [.inr (.inl l0), .inl l1, .inl l2, .inl l3] [.inl x3, .inr (.inl 108), .inl x1, .inr (.inl x0)] σ Q = CA m61 [.inr (.inl 108), .inl x3] σ (fun v σ2 => WP m64 115 [.inr (.inl l0), .inl l1, .inl l2, .inl l3] (v ++ [.inl x1, .inr (.inl x0)]) σ2 Q) := (w_cV (k := 61) d64_112 (by decide +kernel) m61_at rfl rfl ⟨Nat.le_of_ble_eq_true rfl, Nat.le_of_ble_eq_true rfl, Nat.le_of_ble_eq_true rfl⟩ (by decide)).trans (g_and (isO_dec (by decide +kernel)))
theorem d64_115 : adec m64 115 = some (.invokevirtual 142, 3) := by decide +kernel
theorem s64_115 {l0 : Nat} {l1 : Int} {l2 : Int} {l3 : Int} {x1 : Int} {x2 : Int} : WP m64 115 [.inr (.inl l0), .inl l1, .inl l2, .inl l3] [.inl x2, .inl x1, .inr (.inl 108)] σ Q = CA m65 [.inr (.inl 108), .inl x1, .inl x2] σ (fun v σ2 => WP m64 118 [.inr (.inl l0), .inl l1, .inl l2, .inl l3] (v ++ []) σ2 Q) := (w_cV (k := 65) d64_115 (by decide +kernel) m65_at rfl rfl ⟨Nat.le_of_ble_eq_true rfl, Nat.le_of_ble_eq_true rfl, Nat.le_of_ble_eq_true rfl⟩ (by decide)).trans (g_and (isO_dec (by decide +kernel)))
theorem d64_118 : adec m64 118 = some (.ifCond .ne (5), 3) := by decide +kernel
theorem s64_118 {l0 : Nat} {l1 : Int} {l2 : Int} {l3 : Int} {x0 : Int} : WP m64 118 [.inr (.inl l0), .inl l1, .inl l2, .inl l3] [.inl x0] σ Q = (if x0 = 0 then WP m64 121 [.inr (.inl l0), .inl l1, .inl l2, .inl l3] [] σ Q else WP m64 123 [.inr (.inl l0), .inl l1, .inl l2, .inl l3] [] σ Q) := w_ifne d64_118 (by decide)
theorem d64_121 : adec m64 121 = some (.iconst (0), 1) := by decide +kernel
theorem s64_121 {l0 : Nat} {l1 : Int} {l2 : Int} {l3 : Int} : WP m64 121 [.inr (.inl l0), .inl l1, .inl l2, .inl l3] [] σ Q = WP m64 122 [.inr (.inl l0), .inl l1, .inl l2, .inl l3] [.inl (0)] σ Q := w_iconst d64_121 (by decide)
theorem d64_122 : adec m64 122 = some (.ireturn, 1) := by decide +kernel
theorem s64_122 {l0 : Nat} {l1 : Int} {l2 : Int} {l3 : Int} {x0 : Int} : WP m64 122 [.inr (.inl l0), .inl l1, .inl l2, .inl l3] [.inl x0] σ Q = ((x0 = 0 ∨ x0 = 1) ∧ Q [.inl x0] σ) := w_rz d64_122 rfl
theorem d64_123 : adec m64 123 = some (.iinc 2 (1), 3) := by decide +kernel
theorem s64_123 {l0 : Nat} {l1 : Int} {l2 : Int} {l3 : Int} : WP m64 123 [.inr (.inl l0), .inl l1, .inl l2, .inl l3] [] σ Q = (inI (l2 + (1)) ∧ WP m64 126 [.inr (.inl l0), .inl l1, .inl (l2 + (1)), .inl l3] [] σ Q) := w_iinc d64_123 rfl rfl
theorem d64_126 : adec m64 126 = some (.goto (-109), 3) := by decide +kernel
theorem s64_126 {l0 : Nat} {l1 : Int} {l2 : Int} {l3 : Int} : WP m64 126 [.inr (.inl l0), .inl l1, .inl l2, .inl l3] [] σ Q = WP m64 17 [.inr (.inl l0), .inl l1, .inl l2, .inl l3] [] σ Q := w_goto d64_126 (by decide)
theorem d64_129 : adec m64 129 = some (.iconst (1), 1) := by decide +kernel
theorem s64_129 {l0 : Nat} {l1 : Int} {l2 : Int} {l3 : AV} : WP m64 129 [.inr (.inl l0), .inl l1, .inl l2, l3] [] σ Q = WP m64 130 [.inr (.inl l0), .inl l1, .inl l2, l3] [.inl (1)] σ Q := w_iconst d64_129 (by decide)
theorem d64_130 : adec m64 130 = some (.ireturn, 1) := by decide +kernel
theorem s64_130 {l0 : Nat} {l1 : Int} {l2 : Int} {l3 : AV} {x0 : Int} : WP m64 130 [.inr (.inl l0), .inl l1, .inl l2, l3] [.inl x0] σ Q = ((x0 = 0 ∨ x0 = 1) ∧ Q [.inl x0] σ) := w_rz d64_130 rfl
theorem e64 {p0 : Nat} {p1 : Int} : CA m64 [.inr (.inl p0), .inl p1] σ Q = WP m64 0 [.inr (.inl p0), .inl p1, vU, vU] [] σ Q := rfl
-- BinderPress$Sorter.enters(II)Z
theorem d65_0 : adec m65 0 = some (.aload_n 0, 1) := by decide +kernel
theorem s65_0 {l0 : Nat} {l1 : Int} {l2 : Int} : WP m65 0 [.inr (.inl l0), .inl l1, .inl l2] [] σ Q = WP m65 1 [.inr (.inl l0), .inl l1, .inl l2] [.inr (.inl l0)] σ Q := w_ld d65_0 rfl
theorem d65_1 : adec m65 1 = some (.getfield 35, 3) := by decide +kernel
theorem s65_1 {l0 : Nat} {l1 : Int} {l2 : Int} : WP m65 1 [.inr (.inl l0), .inl l1, .inl l2] [.inr (.inl 108)] σ Q = WP m65 4 [.inr (.inl l0), .inl l1, .inl l2] [.inr (.inl 121)] σ Q := (w_getR (c := 5) (n := 6) d65_1 (by decide +kernel) (by decide +kernel)).trans (g_and ⟨isO_dec (by decide +kernel), by decide +kernel⟩)
theorem d65_4 : adec m65 4 = some (.iload_n 1, 1) := by decide +kernel
theorem s65_4 {l0 : Nat} {l1 : Int} {l2 : Int} {x0 : Nat} : WP m65 4 [.inr (.inl l0), .inl l1, .inl l2] [.inr (.inl x0)] σ Q = WP m65 5 [.inr (.inl l0), .inl l1, .inl l2] [.inl l1, .inr (.inl x0)] σ Q := w_ld d65_4 rfl
theorem d65_5 : adec m65 5 = some (.invokevirtual 62, 3) := by decide +kernel
theorem s65_5 {l0 : Nat} {l1 : Int} {l2 : Int} {x0 : Nat} {x1 : Int} : WP m65 5 [.inr (.inl l0), .inl l1, .inl l2] [.inl x1, .inr (.inl x0)] σ Q = (isO x0 3 ∧ CA m30 [.inr (.inl x0), .inl x1] σ (fun v σ2 => WP m65 8 [.inr (.inl l0), .inl l1, .inl l2] (v ++ []) σ2 Q)) := w_cV (k := 30) d65_5 (by decide +kernel) m30_at rfl rfl ⟨Nat.le_of_ble_eq_true rfl, Nat.le_of_ble_eq_true rfl, Nat.le_of_ble_eq_true rfl⟩ (by decide)
theorem d65_8 : adec m65 8 = some (.iconst (1), 1) := by decide +kernel
theorem s65_8 {l0 : Nat} {l1 : Int} {l2 : Int} {x0 : Int} : WP m65 8 [.inr (.inl l0), .inl l1, .inl l2] [.inl x0] σ Q = WP m65 9 [.inr (.inl l0), .inl l1, .inl l2] [.inl (1), .inl x0] σ Q := w_iconst d65_8 (by decide)
theorem d65_9 : adec m65 9 = some (.if_icmp .eq (15), 3) := by decide +kernel
theorem s65_9 {l0 : Nat} {l1 : Int} {l2 : Int} {x0 : Int} {x1 : Int} : WP m65 9 [.inr (.inl l0), .inl l1, .inl l2] [.inl x1, .inl x0] σ Q = (if x0 = x1 then WP m65 24 [.inr (.inl l0), .inl l1, .inl l2] [] σ Q else WP m65 12 [.inr (.inl l0), .inl l1, .inl l2] [] σ Q) := w_iceq d65_9 (by decide)
theorem d65_12 : adec m65 12 = some (.aload_n 0, 1) := by decide +kernel
theorem s65_12 {l0 : Nat} {l1 : Int} {l2 : Int} : WP m65 12 [.inr (.inl l0), .inl l1, .inl l2] [] σ Q = WP m65 13 [.inr (.inl l0), .inl l1, .inl l2] [.inr (.inl l0)] σ Q := w_ld d65_12 rfl
theorem d65_13 : adec m65 13 = some (.getfield 35, 3) := by decide +kernel
theorem s65_13 {l0 : Nat} {l1 : Int} {l2 : Int} : WP m65 13 [.inr (.inl l0), .inl l1, .inl l2] [.inr (.inl 108)] σ Q = WP m65 16 [.inr (.inl l0), .inl l1, .inl l2] [.inr (.inl 121)] σ Q := (w_getR (c := 5) (n := 6) d65_13 (by decide +kernel) (by decide +kernel)).trans (g_and ⟨isO_dec (by decide +kernel), by decide +kernel⟩)
theorem d65_16 : adec m65 16 = some (.iload_n 2, 1) := by decide +kernel
theorem s65_16 {l0 : Nat} {l1 : Int} {l2 : Int} {x0 : Nat} : WP m65 16 [.inr (.inl l0), .inl l1, .inl l2] [.inr (.inl x0)] σ Q = WP m65 17 [.inr (.inl l0), .inl l1, .inl l2] [.inl l2, .inr (.inl x0)] σ Q := w_ld d65_16 rfl
theorem d65_17 : adec m65 17 = some (.invokevirtual 62, 3) := by decide +kernel
theorem s65_17 {l0 : Nat} {l1 : Int} {l2 : Int} {x0 : Nat} {x1 : Int} : WP m65 17 [.inr (.inl l0), .inl l1, .inl l2] [.inl x1, .inr (.inl x0)] σ Q = (isO x0 3 ∧ CA m30 [.inr (.inl x0), .inl x1] σ (fun v σ2 => WP m65 20 [.inr (.inl l0), .inl l1, .inl l2] (v ++ []) σ2 Q)) := w_cV (k := 30) d65_17 (by decide +kernel) m30_at rfl rfl ⟨Nat.le_of_ble_eq_true rfl, Nat.le_of_ble_eq_true rfl, Nat.le_of_ble_eq_true rfl⟩ (by decide)
theorem d65_20 : adec m65 20 = some (.iconst (1), 1) := by decide +kernel
theorem s65_20 {l0 : Nat} {l1 : Int} {l2 : Int} {x0 : Int} : WP m65 20 [.inr (.inl l0), .inl l1, .inl l2] [.inl x0] σ Q = WP m65 21 [.inr (.inl l0), .inl l1, .inl l2] [.inl (1), .inl x0] σ Q := w_iconst d65_20 (by decide)
theorem d65_21 : adec m65 21 = some (.if_icmp .ne (5), 3) := by decide +kernel
theorem s65_21 {l0 : Nat} {l1 : Int} {l2 : Int} {x0 : Int} {x1 : Int} : WP m65 21 [.inr (.inl l0), .inl l1, .inl l2] [.inl x1, .inl x0] σ Q = (if x0 = x1 then WP m65 24 [.inr (.inl l0), .inl l1, .inl l2] [] σ Q else WP m65 26 [.inr (.inl l0), .inl l1, .inl l2] [] σ Q) := w_icne d65_21 (by decide)
theorem d65_24 : adec m65 24 = some (.iconst (0), 1) := by decide +kernel
theorem s65_24 {l0 : Nat} {l1 : Int} {l2 : Int} : WP m65 24 [.inr (.inl l0), .inl l1, .inl l2] [] σ Q = WP m65 25 [.inr (.inl l0), .inl l1, .inl l2] [.inl (0)] σ Q := w_iconst d65_24 (by decide)
theorem d65_25 : adec m65 25 = some (.ireturn, 1) := by decide +kernel
theorem s65_25 {l0 : Nat} {l1 : Int} {l2 : Int} {x0 : Int} : WP m65 25 [.inr (.inl l0), .inl l1, .inl l2] [.inl x0] σ Q = ((x0 = 0 ∨ x0 = 1) ∧ Q [.inl x0] σ) := w_rz d65_25 rfl
theorem d65_26 : adec m65 26 = some (.aload_n 0, 1) := by decide +kernel
theorem s65_26 {l0 : Nat} {l1 : Int} {l2 : Int} : WP m65 26 [.inr (.inl l0), .inl l1, .inl l2] [] σ Q = WP m65 27 [.inr (.inl l0), .inl l1, .inl l2] [.inr (.inl l0)] σ Q := w_ld d65_26 rfl
theorem d65_27 : adec m65 27 = some (.getfield 32, 3) := by decide +kernel
theorem s65_27 {l0 : Nat} {l1 : Int} {l2 : Int} : WP m65 27 [.inr (.inl l0), .inl l1, .inl l2] [.inr (.inl 108)] σ Q = WP m65 30 [.inr (.inl l0), .inl l1, .inl l2] [.inr (.inl 119)] σ Q := (w_getR (c := 5) (n := 5) d65_27 (by decide +kernel) (by decide +kernel)).trans (g_and ⟨isO_dec (by decide +kernel), by decide +kernel⟩)
theorem d65_30 : adec m65 30 = some (.iload_n 1, 1) := by decide +kernel
theorem s65_30 {l0 : Nat} {l1 : Int} {l2 : Int} {x0 : Nat} : WP m65 30 [.inr (.inl l0), .inl l1, .inl l2] [.inr (.inl x0)] σ Q = WP m65 31 [.inr (.inl l0), .inl l1, .inl l2] [.inl l1, .inr (.inl x0)] σ Q := w_ld d65_30 rfl
theorem d65_31 : adec m65 31 = some (.invokevirtual 85, 3) := by decide +kernel
theorem s65_31 {l0 : Nat} {l1 : Int} {l2 : Int} {x0 : Nat} {x1 : Int} : WP m65 31 [.inr (.inl l0), .inl l1, .inl l2] [.inl x1, .inr (.inl x0)] σ Q = (isO x0 3 ∧ CA m34 [.inr (.inl x0), .inl x1] σ (fun v σ2 => WP m65 34 [.inr (.inl l0), .inl l1, .inl l2] (v ++ []) σ2 Q)) := w_cV (k := 34) d65_31 (by decide +kernel) m34_at rfl rfl ⟨Nat.le_of_ble_eq_true rfl, Nat.le_of_ble_eq_true rfl, Nat.le_of_ble_eq_true rfl⟩ (by decide)
theorem d65_34 : adec m65 34 = some (.aload_n 0, 1) := by decide +kernel
theorem s65_34 {l0 : Nat} {l1 : Int} {l2 : Int} : WP m65 34 [.inr (.inl l0), .inl l1, .inl l2] [] σ Q = WP m65 35 [.inr (.inl l0), .inl l1, .inl l2] [.inr (.inl l0)] σ Q := w_ld d65_34 rfl
theorem d65_35 : adec m65 35 = some (.getfield 32, 3) := by decide +kernel
theorem s65_35 {l0 : Nat} {l1 : Int} {l2 : Int} : WP m65 35 [.inr (.inl l0), .inl l1, .inl l2] [.inr (.inl 108)] σ Q = WP m65 38 [.inr (.inl l0), .inl l1, .inl l2] [.inr (.inl 119)] σ Q := (w_getR (c := 5) (n := 5) d65_35 (by decide +kernel) (by decide +kernel)).trans (g_and ⟨isO_dec (by decide +kernel), by decide +kernel⟩)
theorem d65_38 : adec m65 38 = some (.iload_n 2, 1) := by decide +kernel
theorem s65_38 {l0 : Nat} {l1 : Int} {l2 : Int} {x0 : Nat} : WP m65 38 [.inr (.inl l0), .inl l1, .inl l2] [.inr (.inl x0)] σ Q = WP m65 39 [.inr (.inl l0), .inl l1, .inl l2] [.inl l2, .inr (.inl x0)] σ Q := w_ld d65_38 rfl
theorem d65_39 : adec m65 39 = some (.invokevirtual 85, 3) := by decide +kernel
theorem s65_39 {l0 : Nat} {l1 : Int} {l2 : Int} {x0 : Nat} {x1 : Int} : WP m65 39 [.inr (.inl l0), .inl l1, .inl l2] [.inl x1, .inr (.inl x0)] σ Q = (isO x0 3 ∧ CA m34 [.inr (.inl x0), .inl x1] σ (fun v σ2 => WP m65 42 [.inr (.inl l0), .inl l1, .inl l2] (v ++ []) σ2 Q)) := w_cV (k := 34) d65_39 (by decide +kernel) m34_at rfl rfl ⟨Nat.le_of_ble_eq_true rfl, Nat.le_of_ble_eq_true rfl, Nat.le_of_ble_eq_true rfl⟩ (by decide)
theorem d65_42 : adec m65 42 = some (.iconst (1), 1) := by decide +kernel
theorem s65_42 {l0 : Nat} {l1 : Int} {l2 : Int} : WP m65 42 [.inr (.inl l0), .inl l1, .inl l2] [] σ Q = WP m65 43 [.inr (.inl l0), .inl l1, .inl l2] [.inl (1)] σ Q := w_iconst d65_42 (by decide)
theorem d65_43 : adec m65 43 = some (.ireturn, 1) := by decide +kernel
theorem s65_43 {l0 : Nat} {l1 : Int} {l2 : Int} {x0 : Int} : WP m65 43 [.inr (.inl l0), .inl l1, .inl l2] [.inl x0] σ Q = ((x0 = 0 ∨ x0 = 1) ∧ Q [.inl x0] σ) := w_rz d65_43 rfl
theorem e65 {p0 : Nat} {p1 : Int} {p2 : Int} : CA m65 [.inr (.inl p0), .inl p1, .inl p2] σ Q = WP m65 0 [.inr (.inl p0), .inl p1, .inl p2] [] σ Q := rfl
end
