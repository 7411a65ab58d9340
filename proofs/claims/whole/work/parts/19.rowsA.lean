section
variable {σ : aSg} {Q : List AV → aSg → Prop}
-- BinderPress$Past.count()I
theorem d9_0 : adec m9 0 = some (.aload_n 0, 1) := by decide +kernel
theorem s9_0 {l0 : Nat} : WP m9 0 [.inr (.inl l0)] [] σ Q = WP m9 1 [.inr (.inl l0)] [.inr (.inl l0)] σ Q := w_ld d9_0 rfl
theorem d9_1 : adec m9 1 = some (.getfield 23, 3) := by decide +kernel
theorem s9_1 {l0 : Nat} : WP m9 1 [.inr (.inl l0)] [.inr (.inl 30)] σ Q = WP m9 4 [.inr (.inl l0)] [.inl (σ 30 2)] σ Q := (w_getI (c := 1) (n := 2) d9_1 (by decide +kernel) (by decide +kernel)).trans (g_and (isO_dec (by decide +kernel)))
theorem d9_4 : adec m9 4 = some (.ireturn, 1) := by decide +kernel
theorem s9_4 {l0 : Nat} {x0 : Int} : WP m9 4 [.inr (.inl l0)] [.inl x0] σ Q = Q [.inl x0] σ := w_ri d9_4 rfl
theorem e9 {p0 : Nat} : CA m9 [.inr (.inl p0)] σ Q = WP m9 0 [.inr (.inl p0)] [] σ Q := rfl
-- BinderPress$Past.forget()V
theorem d10_0 : adec m10 0 = some (.aload_n 0, 1) := by decide +kernel
theorem s10_0 {l0 : Nat} : WP m10 0 [.inr (.inl l0)] [] σ Q = WP m10 1 [.inr (.inl l0)] [.inr (.inl l0)] σ Q := w_ld d10_0 rfl
theorem d10_1 : adec m10 1 = some (.iconst (0), 1) := by decide +kernel
theorem s10_1 {l0 : Nat} {x0 : Nat} : WP m10 1 [.inr (.inl l0)] [.inr (.inl x0)] σ Q = WP m10 2 [.inr (.inl l0)] [.inl (0), .inr (.inl x0)] σ Q := w_iconst d10_1 (by decide)
theorem d10_2 : adec m10 2 = some (.putfield 23, 3) := by decide +kernel
theorem s10_2 {l0 : Nat} {x1 : Int} : WP m10 2 [.inr (.inl l0)] [.inl x1, .inr (.inl 30)] σ Q = WP m10 5 [.inr (.inl l0)] [] (aup σ 30 2 x1) Q := (w_putI (c := 1) (n := 2) d10_2 (by decide +kernel) (by decide +kernel) (by decide +kernel)).trans (g_and (isO_dec (by decide +kernel)))
theorem d10_5 : adec m10 5 = some (.return_, 1) := by decide +kernel
theorem s10_5 {l0 : Nat} : WP m10 5 [.inr (.inl l0)] [] σ Q = Q [] σ := w_rv d10_5 rfl
theorem e10 {p0 : Nat} : CA m10 [.inr (.inl p0)] σ Q = WP m10 0 [.inr (.inl p0)] [] σ Q := rfl
-- BinderPress$Past.remember(ILBinderPress$Row;)V
theorem d11_0 : adec m11 0 = some (.aload_n 0, 1) := by decide +kernel
theorem s11_0 {l0 : Nat} {l1 : Int} {l2 : Nat} : WP m11 0 [.inr (.inl l0), .inl l1, .inr (.inl l2)] [] σ Q = WP m11 1 [.inr (.inl l0), .inl l1, .inr (.inl l2)] [.inr (.inl l0)] σ Q := w_ld d11_0 rfl
theorem d11_1 : adec m11 1 = some (.getfield 23, 3) := by decide +kernel
theorem s11_1 {l0 : Nat} {l1 : Int} {l2 : Nat} : WP m11 1 [.inr (.inl l0), .inl l1, .inr (.inl l2)] [.inr (.inl 30)] σ Q = WP m11 4 [.inr (.inl l0), .inl l1, .inr (.inl l2)] [.inl (σ 30 2)] σ Q := (w_getI (c := 1) (n := 2) d11_1 (by decide +kernel) (by decide +kernel)).trans (g_and (isO_dec (by decide +kernel)))
theorem d11_4 : adec m11 4 = some (.bipush (10), 2) := by decide +kernel
theorem s11_4 {l0 : Nat} {l1 : Int} {l2 : Nat} {x0 : Int} : WP m11 4 [.inr (.inl l0), .inl l1, .inr (.inl l2)] [.inl x0] σ Q = WP m11 6 [.inr (.inl l0), .inl l1, .inr (.inl l2)] [.inl (10), .inl x0] σ Q := w_bipush d11_4 (by decide)
theorem d11_6 : adec m11 6 = some (.if_icmp .lt (7), 3) := by decide +kernel
theorem s11_6 {l0 : Nat} {l1 : Int} {l2 : Nat} {x0 : Int} {x1 : Int} : WP m11 6 [.inr (.inl l0), .inl l1, .inr (.inl l2)] [.inl x1, .inl x0] σ Q = (if x0 < x1 then WP m11 13 [.inr (.inl l0), .inl l1, .inr (.inl l2)] [] σ Q else WP m11 9 [.inr (.inl l0), .inl l1, .inr (.inl l2)] [] σ Q) := w_iclt d11_6 (by decide)
theorem d11_9 : adec m11 9 = some (.aload_n 0, 1) := by decide +kernel
theorem s11_9 {l0 : Nat} {l1 : Int} {l2 : Nat} : WP m11 9 [.inr (.inl l0), .inl l1, .inr (.inl l2)] [] σ Q = WP m11 10 [.inr (.inl l0), .inl l1, .inr (.inl l2)] [.inr (.inl l0)] σ Q := w_ld d11_9 rfl
theorem d11_10 : adec m11 10 = some (.invokevirtual 27, 3) := by decide +kernel
theorem s11_10 {l0 : Nat} {l1 : Int} {l2 : Nat} : WP m11 10 [.inr (.inl l0), .inl l1, .inr (.inl l2)] [.inr (.inl 30)] σ Q = CA m14 [.inr (.inl 30)] σ (fun v σ2 => WP m11 13 [.inr (.inl l0), .inl l1, .inr (.inl l2)] (v ++ []) σ2 Q) := (w_cV (k := 14) d11_10 (by decide +kernel) m14_at rfl rfl ⟨Nat.le_of_ble_eq_true rfl, Nat.le_of_ble_eq_true rfl, Nat.le_of_ble_eq_true rfl⟩ (by decide)).trans (g_and (isO_dec (by decide +kernel)))
theorem d11_13 : adec m11 13 = some (.aload_n 0, 1) := by decide +kernel
theorem s11_13 {l0 : Nat} {l1 : Int} {l2 : Nat} : WP m11 13 [.inr (.inl l0), .inl l1, .inr (.inl l2)] [] σ Q = WP m11 14 [.inr (.inl l0), .inl l1, .inr (.inl l2)] [.inr (.inl l0)] σ Q := w_ld d11_13 rfl
theorem d11_14 : adec m11 14 = some (.getfield 23, 3) := by decide +kernel
theorem s11_14 {l0 : Nat} {l1 : Int} {l2 : Nat} : WP m11 14 [.inr (.inl l0), .inl l1, .inr (.inl l2)] [.inr (.inl 30)] σ Q = WP m11 17 [.inr (.inl l0), .inl l1, .inr (.inl l2)] [.inl (σ 30 2)] σ Q := (w_getI (c := 1) (n := 2) d11_14 (by decide +kernel) (by decide +kernel)).trans (g_and (isO_dec (by decide +kernel)))
theorem d11_17 : adec m11 17 = some (.ifCond .lt (45), 3) := by decide +kernel
theorem s11_17 {l0 : Nat} {l1 : Int} {l2 : Nat} {x0 : Int} : WP m11 17 [.inr (.inl l0), .inl l1, .inr (.inl l2)] [.inl x0] σ Q = (if x0 < 0 then WP m11 62 [.inr (.inl l0), .inl l1, .inr (.inl l2)] [] σ Q else WP m11 20 [.inr (.inl l0), .inl l1, .inr (.inl l2)] [] σ Q) := w_iflt d11_17 (by decide)
theorem d11_20 : adec m11 20 = some (.aload_n 0, 1) := by decide +kernel
theorem s11_20 {l0 : Nat} {l1 : Int} {l2 : Nat} : WP m11 20 [.inr (.inl l0), .inl l1, .inr (.inl l2)] [] σ Q = WP m11 21 [.inr (.inl l0), .inl l1, .inr (.inl l2)] [.inr (.inl l0)] σ Q := w_ld d11_20 rfl
theorem d11_21 : adec m11 21 = some (.getfield 23, 3) := by decide +kernel
theorem s11_21 {l0 : Nat} {l1 : Int} {l2 : Nat} : WP m11 21 [.inr (.inl l0), .inl l1, .inr (.inl l2)] [.inr (.inl 30)] σ Q = WP m11 24 [.inr (.inl l0), .inl l1, .inr (.inl l2)] [.inl (σ 30 2)] σ Q := (w_getI (c := 1) (n := 2) d11_21 (by decide +kernel) (by decide +kernel)).trans (g_and (isO_dec (by decide +kernel)))
theorem d11_24 : adec m11 24 = some (.bipush (10), 2) := by decide +kernel
theorem s11_24 {l0 : Nat} {l1 : Int} {l2 : Nat} {x0 : Int} : WP m11 24 [.inr (.inl l0), .inl l1, .inr (.inl l2)] [.inl x0] σ Q = WP m11 26 [.inr (.inl l0), .inl l1, .inr (.inl l2)] [.inl (10), .inl x0] σ Q := w_bipush d11_24 (by decide)
theorem d11_26 : adec m11 26 = some (.if_icmp .ge (36), 3) := by decide +kernel
theorem s11_26 {l0 : Nat} {l1 : Int} {l2 : Nat} {x0 : Int} {x1 : Int} : WP m11 26 [.inr (.inl l0), .inl l1, .inr (.inl l2)] [.inl x1, .inl x0] σ Q = (if x1 ≤ x0 then WP m11 62 [.inr (.inl l0), .inl l1, .inr (.inl l2)] [] σ Q else WP m11 29 [.inr (.inl l0), .inl l1, .inr (.inl l2)] [] σ Q) := w_icge d11_26 (by decide)
theorem d11_29 : adec m11 29 = some (.aload_n 0, 1) := by decide +kernel
theorem s11_29 {l0 : Nat} {l1 : Int} {l2 : Nat} : WP m11 29 [.inr (.inl l0), .inl l1, .inr (.inl l2)] [] σ Q = WP m11 30 [.inr (.inl l0), .inl l1, .inr (.inl l2)] [.inr (.inl l0)] σ Q := w_ld d11_29 rfl
theorem d11_30 : adec m11 30 = some (.getfield 13, 3) := by decide +kernel
theorem s11_30 {l0 : Nat} {l1 : Int} {l2 : Nat} : WP m11 30 [.inr (.inl l0), .inl l1, .inr (.inl l2)] [.inr (.inl 30)] σ Q = WP m11 33 [.inr (.inl l0), .inl l1, .inr (.inl l2)] [.inr (.inl 31)] σ Q := (w_getR (c := 1) (n := 0) d11_30 (by decide +kernel) (by decide +kernel)).trans (g_and ⟨isO_dec (by decide +kernel), by decide +kernel⟩)
theorem d11_33 : adec m11 33 = some (.aload_n 0, 1) := by decide +kernel
theorem s11_33 {l0 : Nat} {l1 : Int} {l2 : Nat} {x0 : Nat} : WP m11 33 [.inr (.inl l0), .inl l1, .inr (.inl l2)] [.inr (.inl x0)] σ Q = WP m11 34 [.inr (.inl l0), .inl l1, .inr (.inl l2)] [.inr (.inl l0), .inr (.inl x0)] σ Q := w_ld d11_33 rfl
theorem d11_34 : adec m11 34 = some (.getfield 23, 3) := by decide +kernel
theorem s11_34 {l0 : Nat} {l1 : Int} {l2 : Nat} {x0 : Nat} : WP m11 34 [.inr (.inl l0), .inl l1, .inr (.inl l2)] [.inr (.inl 30), .inr (.inl x0)] σ Q = WP m11 37 [.inr (.inl l0), .inl l1, .inr (.inl l2)] [.inl (σ 30 2), .inr (.inl x0)] σ Q := (w_getI (c := 1) (n := 2) d11_34 (by decide +kernel) (by decide +kernel)).trans (g_and (isO_dec (by decide +kernel)))
theorem d11_37 : adec m11 37 = some (.aaload, 1) := by decide +kernel
theorem s11_37 {l0 : Nat} {l1 : Int} {l2 : Nat} {x1 : Int} : WP m11 37 [.inr (.inl l0), .inl l1, .inr (.inl l2)] [.inl x1, .inr (.inl 31)] σ Q = ((0 ≤ x1 ∧ x1 < 10 ∧ 0 ≤ σ 31 x1.toNat) ∧ WP m11 38 [.inr (.inl l0), .inl l1, .inr (.inl l2)] [.inr (.inl (σ 31 x1.toNat).toNat)] σ Q) := w_aaldD d11_37
theorem d11_38 : adec m11 38 = some (.aload_n 2, 1) := by decide +kernel
theorem s11_38 {l0 : Nat} {l1 : Int} {l2 : Nat} {x0 : Nat} : WP m11 38 [.inr (.inl l0), .inl l1, .inr (.inl l2)] [.inr (.inl x0)] σ Q = WP m11 39 [.inr (.inl l0), .inl l1, .inr (.inl l2)] [.inr (.inl l2), .inr (.inl x0)] σ Q := w_ld d11_38 rfl
theorem d11_39 : adec m11 39 = some (.invokevirtual 30, 3) := by decide +kernel
theorem s11_39 {l0 : Nat} {l1 : Int} {l2 : Nat} {x0 : Nat} {x1 : Nat} : WP m11 39 [.inr (.inl l0), .inl l1, .inr (.inl l2)] [.inr (.inl x1), .inr (.inl x0)] σ Q = (isO x0 3 ∧ CA m40 [.inr (.inl x0), .inr (.inl x1)] σ (fun v σ2 => WP m11 42 [.inr (.inl l0), .inl l1, .inr (.inl l2)] (v ++ []) σ2 Q)) := w_cV (k := 40) d11_39 (by decide +kernel) m40_at rfl rfl ⟨Nat.le_of_ble_eq_true rfl, Nat.le_of_ble_eq_true rfl, Nat.le_of_ble_eq_true rfl⟩ (by decide)
theorem d11_42 : adec m11 42 = some (.aload_n 0, 1) := by decide +kernel
theorem s11_42 {l0 : Nat} {l1 : Int} {l2 : Nat} : WP m11 42 [.inr (.inl l0), .inl l1, .inr (.inl l2)] [] σ Q = WP m11 43 [.inr (.inl l0), .inl l1, .inr (.inl l2)] [.inr (.inl l0)] σ Q := w_ld d11_42 rfl
theorem d11_43 : adec m11 43 = some (.getfield 19, 3) := by decide +kernel
theorem s11_43 {l0 : Nat} {l1 : Int} {l2 : Nat} : WP m11 43 [.inr (.inl l0), .inl l1, .inr (.inl l2)] [.inr (.inl 30)] σ Q = WP m11 46 [.inr (.inl l0), .inl l1, .inr (.inl l2)] [.inr (.inl 52)] σ Q := (w_getR (c := 1) (n := 1) d11_43 (by decide +kernel) (by decide +kernel)).trans (g_and ⟨isO_dec (by decide +kernel), by decide +kernel⟩)
theorem d11_46 : adec m11 46 = some (.aload_n 0, 1) := by decide +kernel
theorem s11_46 {l0 : Nat} {l1 : Int} {l2 : Nat} {x0 : Nat} : WP m11 46 [.inr (.inl l0), .inl l1, .inr (.inl l2)] [.inr (.inl x0)] σ Q = WP m11 47 [.inr (.inl l0), .inl l1, .inr (.inl l2)] [.inr (.inl l0), .inr (.inl x0)] σ Q := w_ld d11_46 rfl
theorem d11_47 : adec m11 47 = some (.getfield 23, 3) := by decide +kernel
theorem s11_47 {l0 : Nat} {l1 : Int} {l2 : Nat} {x0 : Nat} : WP m11 47 [.inr (.inl l0), .inl l1, .inr (.inl l2)] [.inr (.inl 30), .inr (.inl x0)] σ Q = WP m11 50 [.inr (.inl l0), .inl l1, .inr (.inl l2)] [.inl (σ 30 2), .inr (.inl x0)] σ Q := (w_getI (c := 1) (n := 2) d11_47 (by decide +kernel) (by decide +kernel)).trans (g_and (isO_dec (by decide +kernel)))
theorem d11_50 : adec m11 50 = some (.iload_n 1, 1) := by decide +kernel
theorem s11_50 {l0 : Nat} {l1 : Int} {l2 : Nat} {x0 : Nat} {x1 : Int} : WP m11 50 [.inr (.inl l0), .inl l1, .inr (.inl l2)] [.inl x1, .inr (.inl x0)] σ Q = WP m11 51 [.inr (.inl l0), .inl l1, .inr (.inl l2)] [.inl l1, .inl x1, .inr (.inl x0)] σ Q := w_ld d11_50 rfl
theorem d11_51 : adec m11 51 = some (.iastore, 1) := by decide +kernel
theorem s11_51 {l0 : Nat} {l1 : Int} {l2 : Nat} {x0 : Nat} {x1 : Int} {x2 : Int} : WP m11 51 [.inr (.inl l0), .inl l1, .inr (.inl l2)] [.inl x2, .inl x1, .inr (.inl x0)] σ Q = ((kdS x0 = 20 ∧ 0 ≤ x1 ∧ x1 < ln x0) ∧ WP m11 52 [.inr (.inl l0), .inl l1, .inr (.inl l2)] [] (aup σ x0 x1.toNat x2) Q) := w_iast d11_51
theorem d11_52 : adec m11 52 = some (.aload_n 0, 1) := by decide +kernel
theorem s11_52 {l0 : Nat} {l1 : Int} {l2 : Nat} : WP m11 52 [.inr (.inl l0), .inl l1, .inr (.inl l2)] [] σ Q = WP m11 53 [.inr (.inl l0), .inl l1, .inr (.inl l2)] [.inr (.inl l0)] σ Q := w_ld d11_52 rfl
theorem d11_53 : adec m11 53 = some (.dup, 1) := by decide +kernel
theorem s11_53 {l0 : Nat} {l1 : Int} {l2 : Nat} {x0 : Nat} : WP m11 53 [.inr (.inl l0), .inl l1, .inr (.inl l2)] [.inr (.inl x0)] σ Q = WP m11 54 [.inr (.inl l0), .inl l1, .inr (.inl l2)] [.inr (.inl x0), .inr (.inl x0)] σ Q := w_ld d11_53 rfl
theorem d11_54 : adec m11 54 = some (.getfield 23, 3) := by decide +kernel
theorem s11_54 {l0 : Nat} {l1 : Int} {l2 : Nat} {x0 : Nat} : WP m11 54 [.inr (.inl l0), .inl l1, .inr (.inl l2)] [.inr (.inl 30), .inr (.inl x0)] σ Q = WP m11 57 [.inr (.inl l0), .inl l1, .inr (.inl l2)] [.inl (σ 30 2), .inr (.inl x0)] σ Q := (w_getI (c := 1) (n := 2) d11_54 (by decide +kernel) (by decide +kernel)).trans (g_and (isO_dec (by decide +kernel)))
theorem d11_57 : adec m11 57 = some (.iconst (1), 1) := by decide +kernel
theorem s11_57 {l0 : Nat} {l1 : Int} {l2 : Nat} {x0 : Nat} {x1 : Int} : WP m11 57 [.inr (.inl l0), .inl l1, .inr (.inl l2)] [.inl x1, .inr (.inl x0)] σ Q = WP m11 58 [.inr (.inl l0), .inl l1, .inr (.inl l2)] [.inl (1), .inl x1, .inr (.inl x0)] σ Q := w_iconst d11_57 (by decide)
theorem d11_58 : adec m11 58 = some (.iadd, 1) := by decide +kernel
theorem s11_58 {l0 : Nat} {l1 : Int} {l2 : Nat} {x0 : Nat} {x1 : Int} {x2 : Int} : WP m11 58 [.inr (.inl l0), .inl l1, .inr (.inl l2)] [.inl x2, .inl x1, .inr (.inl x0)] σ Q = (inI (x1 + x2) ∧ WP m11 59 [.inr (.inl l0), .inl l1, .inr (.inl l2)] [.inl (x1 + x2), .inr (.inl x0)] σ Q) := w_iadd d11_58
theorem d11_59 : adec m11 59 = some (.putfield 23, 3) := by decide +kernel
theorem s11_59 {l0 : Nat} {l1 : Int} {l2 : Nat} {x1 : Int} : WP m11 59 [.inr (.inl l0), .inl l1, .inr (.inl l2)] [.inl x1, .inr (.inl 30)] σ Q = WP m11 62 [.inr (.inl l0), .inl l1, .inr (.inl l2)] [] (aup σ 30 2 x1) Q := (w_putI (c := 1) (n := 2) d11_59 (by decide +kernel) (by decide +kernel) (by decide +kernel)).trans (g_and (isO_dec (by decide +kernel)))
theorem d11_62 : adec m11 62 = some (.return_, 1) := by decide +kernel
theorem s11_62 {l0 : Nat} {l1 : Int} {l2 : Nat} : WP m11 62 [.inr (.inl l0), .inl l1, .inr (.inl l2)] [] σ Q = Q [] σ := w_rv d11_62 rfl
theorem e11 {p0 : Nat} {p1 : Int} {p2 : Nat} : CA m11 [.inr (.inl p0), .inl p1, .inr (.inl p2)] σ Q = WP m11 0 [.inr (.inl p0), .inl p1, .inr (.inl p2)] [] σ Q := rfl
-- BinderPress$Past.latestShelf()I
theorem d12_0 : adec m12 0 = some (.aload_n 0, 1) := by decide +kernel
theorem s12_0 {l0 : Nat} : WP m12 0 [.inr (.inl l0)] [] σ Q = WP m12 1 [.inr (.inl l0)] [.inr (.inl l0)] σ Q := w_ld d12_0 rfl
theorem d12_1 : adec m12 1 = some (.getfield 23, 3) := by decide +kernel
theorem s12_1 {l0 : Nat} : WP m12 1 [.inr (.inl l0)] [.inr (.inl 30)] σ Q = WP m12 4 [.inr (.inl l0)] [.inl (σ 30 2)] σ Q := (w_getI (c := 1) (n := 2) d12_1 (by decide +kernel) (by decide +kernel)).trans (g_and (isO_dec (by decide +kernel)))
theorem d12_4 : adec m12 4 = some (.ifCond .le (26), 3) := by decide +kernel
theorem s12_4 {l0 : Nat} {x0 : Int} : WP m12 4 [.inr (.inl l0)] [.inl x0] σ Q = (if x0 ≤ 0 then WP m12 30 [.inr (.inl l0)] [] σ Q else WP m12 7 [.inr (.inl l0)] [] σ Q) := w_ifle d12_4 (by decide)
theorem d12_7 : adec m12 7 = some (.aload_n 0, 1) := by decide +kernel
theorem s12_7 {l0 : Nat} : WP m12 7 [.inr (.inl l0)] [] σ Q = WP m12 8 [.inr (.inl l0)] [.inr (.inl l0)] σ Q := w_ld d12_7 rfl
theorem d12_8 : adec m12 8 = some (.getfield 23, 3) := by decide +kernel
theorem s12_8 {l0 : Nat} : WP m12 8 [.inr (.inl l0)] [.inr (.inl 30)] σ Q = WP m12 11 [.inr (.inl l0)] [.inl (σ 30 2)] σ Q := (w_getI (c := 1) (n := 2) d12_8 (by decide +kernel) (by decide +kernel)).trans (g_and (isO_dec (by decide +kernel)))
theorem d12_11 : adec m12 11 = some (.bipush (10), 2) := by decide +kernel
theorem s12_11 {l0 : Nat} {x0 : Int} : WP m12 11 [.inr (.inl l0)] [.inl x0] σ Q = WP m12 13 [.inr (.inl l0)] [.inl (10), .inl x0] σ Q := w_bipush d12_11 (by decide)
theorem d12_13 : adec m12 13 = some (.if_icmp .gt (17), 3) := by decide +kernel
theorem s12_13 {l0 : Nat} {x0 : Int} {x1 : Int} : WP m12 13 [.inr (.inl l0)] [.inl x1, .inl x0] σ Q = (if x1 < x0 then WP m12 30 [.inr (.inl l0)] [] σ Q else WP m12 16 [.inr (.inl l0)] [] σ Q) := w_icgt d12_13 (by decide)
theorem d12_16 : adec m12 16 = some (.aload_n 0, 1) := by decide +kernel
theorem s12_16 {l0 : Nat} : WP m12 16 [.inr (.inl l0)] [] σ Q = WP m12 17 [.inr (.inl l0)] [.inr (.inl l0)] σ Q := w_ld d12_16 rfl
theorem d12_17 : adec m12 17 = some (.getfield 19, 3) := by decide +kernel
theorem s12_17 {l0 : Nat} : WP m12 17 [.inr (.inl l0)] [.inr (.inl 30)] σ Q = WP m12 20 [.inr (.inl l0)] [.inr (.inl 52)] σ Q := (w_getR (c := 1) (n := 1) d12_17 (by decide +kernel) (by decide +kernel)).trans (g_and ⟨isO_dec (by decide +kernel), by decide +kernel⟩)
theorem d12_20 : adec m12 20 = some (.aload_n 0, 1) := by decide +kernel
theorem s12_20 {l0 : Nat} {x0 : Nat} : WP m12 20 [.inr (.inl l0)] [.inr (.inl x0)] σ Q = WP m12 21 [.inr (.inl l0)] [.inr (.inl l0), .inr (.inl x0)] σ Q := w_ld d12_20 rfl
theorem d12_21 : adec m12 21 = some (.getfield 23, 3) := by decide +kernel
theorem s12_21 {l0 : Nat} {x0 : Nat} : WP m12 21 [.inr (.inl l0)] [.inr (.inl 30), .inr (.inl x0)] σ Q = WP m12 24 [.inr (.inl l0)] [.inl (σ 30 2), .inr (.inl x0)] σ Q := (w_getI (c := 1) (n := 2) d12_21 (by decide +kernel) (by decide +kernel)).trans (g_and (isO_dec (by decide +kernel)))
theorem d12_24 : adec m12 24 = some (.iconst (1), 1) := by decide +kernel
theorem s12_24 {l0 : Nat} {x0 : Nat} {x1 : Int} : WP m12 24 [.inr (.inl l0)] [.inl x1, .inr (.inl x0)] σ Q = WP m12 25 [.inr (.inl l0)] [.inl (1), .inl x1, .inr (.inl x0)] σ Q := w_iconst d12_24 (by decide)
theorem d12_25 : adec m12 25 = some (.isub, 1) := by decide +kernel
theorem s12_25 {l0 : Nat} {x0 : Nat} {x1 : Int} {x2 : Int} : WP m12 25 [.inr (.inl l0)] [.inl x2, .inl x1, .inr (.inl x0)] σ Q = (inI (x1 - x2) ∧ WP m12 26 [.inr (.inl l0)] [.inl (x1 - x2), .inr (.inl x0)] σ Q) := w_isub d12_25
theorem d12_26 : adec m12 26 = some (.iaload, 1) := by decide +kernel
theorem s12_26 {l0 : Nat} {x0 : Nat} {x1 : Int} : WP m12 26 [.inr (.inl l0)] [.inl x1, .inr (.inl x0)] σ Q = ((kdS x0 = 20 ∧ 0 ≤ x1 ∧ x1 < ln x0) ∧ WP m12 27 [.inr (.inl l0)] [.inl (σ x0 x1.toNat)] σ Q) := w_iald d12_26
theorem d12_27 : adec m12 27 = some (.goto (4), 3) := by decide +kernel
theorem s12_27 {l0 : Nat} {x0 : Int} : WP m12 27 [.inr (.inl l0)] [.inl x0] σ Q = WP m12 31 [.inr (.inl l0)] [.inl x0] σ Q := w_goto d12_27 (by decide)
theorem d12_30 : adec m12 30 = some (.iconst (-1), 1) := by decide +kernel
theorem s12_30 {l0 : Nat} : WP m12 30 [.inr (.inl l0)] [] σ Q = WP m12 31 [.inr (.inl l0)] [.inl (-1)] σ Q := w_iconst d12_30 (by decide)
theorem d12_31 : adec m12 31 = some (.ireturn, 1) := by decide +kernel
theorem s12_31 {l0 : Nat} {x0 : Int} : WP m12 31 [.inr (.inl l0)] [.inl x0] σ Q = Q [.inl x0] σ := w_ri d12_31 rfl
theorem e12 {p0 : Nat} : CA m12 [.inr (.inl p0)] σ Q = WP m12 0 [.inr (.inl p0)] [] σ Q := rfl
-- BinderPress$Past.giveBack(LBinderPress$Row;)V
theorem d13_0 : adec m13 0 = some (.aload_n 0, 1) := by decide +kernel
theorem s13_0 {l0 : Nat} {l1 : Nat} : WP m13 0 [.inr (.inl l0), .inr (.inl l1)] [] σ Q = WP m13 1 [.inr (.inl l0), .inr (.inl l1)] [.inr (.inl l0)] σ Q := w_ld d13_0 rfl
theorem d13_1 : adec m13 1 = some (.getfield 23, 3) := by decide +kernel
theorem s13_1 {l0 : Nat} {l1 : Nat} : WP m13 1 [.inr (.inl l0), .inr (.inl l1)] [.inr (.inl 30)] σ Q = WP m13 4 [.inr (.inl l0), .inr (.inl l1)] [.inl (σ 30 2)] σ Q := (w_getI (c := 1) (n := 2) d13_1 (by decide +kernel) (by decide +kernel)).trans (g_and (isO_dec (by decide +kernel)))
theorem d13_4 : adec m13 4 = some (.ifCond .le (35), 3) := by decide +kernel
theorem s13_4 {l0 : Nat} {l1 : Nat} {x0 : Int} : WP m13 4 [.inr (.inl l0), .inr (.inl l1)] [.inl x0] σ Q = (if x0 ≤ 0 then WP m13 39 [.inr (.inl l0), .inr (.inl l1)] [] σ Q else WP m13 7 [.inr (.inl l0), .inr (.inl l1)] [] σ Q) := w_ifle d13_4 (by decide)
theorem d13_7 : adec m13 7 = some (.aload_n 0, 1) := by decide +kernel
theorem s13_7 {l0 : Nat} {l1 : Nat} : WP m13 7 [.inr (.inl l0), .inr (.inl l1)] [] σ Q = WP m13 8 [.inr (.inl l0), .inr (.inl l1)] [.inr (.inl l0)] σ Q := w_ld d13_7 rfl
theorem d13_8 : adec m13 8 = some (.getfield 23, 3) := by decide +kernel
theorem s13_8 {l0 : Nat} {l1 : Nat} : WP m13 8 [.inr (.inl l0), .inr (.inl l1)] [.inr (.inl 30)] σ Q = WP m13 11 [.inr (.inl l0), .inr (.inl l1)] [.inl (σ 30 2)] σ Q := (w_getI (c := 1) (n := 2) d13_8 (by decide +kernel) (by decide +kernel)).trans (g_and (isO_dec (by decide +kernel)))
theorem d13_11 : adec m13 11 = some (.bipush (10), 2) := by decide +kernel
theorem s13_11 {l0 : Nat} {l1 : Nat} {x0 : Int} : WP m13 11 [.inr (.inl l0), .inr (.inl l1)] [.inl x0] σ Q = WP m13 13 [.inr (.inl l0), .inr (.inl l1)] [.inl (10), .inl x0] σ Q := w_bipush d13_11 (by decide)
theorem d13_13 : adec m13 13 = some (.if_icmp .gt (26), 3) := by decide +kernel
theorem s13_13 {l0 : Nat} {l1 : Nat} {x0 : Int} {x1 : Int} : WP m13 13 [.inr (.inl l0), .inr (.inl l1)] [.inl x1, .inl x0] σ Q = (if x1 < x0 then WP m13 39 [.inr (.inl l0), .inr (.inl l1)] [] σ Q else WP m13 16 [.inr (.inl l0), .inr (.inl l1)] [] σ Q) := w_icgt d13_13 (by decide)
theorem d13_16 : adec m13 16 = some (.aload_n 0, 1) := by decide +kernel
theorem s13_16 {l0 : Nat} {l1 : Nat} : WP m13 16 [.inr (.inl l0), .inr (.inl l1)] [] σ Q = WP m13 17 [.inr (.inl l0), .inr (.inl l1)] [.inr (.inl l0)] σ Q := w_ld d13_16 rfl
theorem d13_17 : adec m13 17 = some (.dup, 1) := by decide +kernel
theorem s13_17 {l0 : Nat} {l1 : Nat} {x0 : Nat} : WP m13 17 [.inr (.inl l0), .inr (.inl l1)] [.inr (.inl x0)] σ Q = WP m13 18 [.inr (.inl l0), .inr (.inl l1)] [.inr (.inl x0), .inr (.inl x0)] σ Q := w_ld d13_17 rfl
theorem d13_18 : adec m13 18 = some (.getfield 23, 3) := by decide +kernel
theorem s13_18 {l0 : Nat} {l1 : Nat} {x0 : Nat} : WP m13 18 [.inr (.inl l0), .inr (.inl l1)] [.inr (.inl 30), .inr (.inl x0)] σ Q = WP m13 21 [.inr (.inl l0), .inr (.inl l1)] [.inl (σ 30 2), .inr (.inl x0)] σ Q := (w_getI (c := 1) (n := 2) d13_18 (by decide +kernel) (by decide +kernel)).trans (g_and (isO_dec (by decide +kernel)))
theorem d13_21 : adec m13 21 = some (.iconst (1), 1) := by decide +kernel
theorem s13_21 {l0 : Nat} {l1 : Nat} {x0 : Nat} {x1 : Int} : WP m13 21 [.inr (.inl l0), .inr (.inl l1)] [.inl x1, .inr (.inl x0)] σ Q = WP m13 22 [.inr (.inl l0), .inr (.inl l1)] [.inl (1), .inl x1, .inr (.inl x0)] σ Q := w_iconst d13_21 (by decide)
theorem d13_22 : adec m13 22 = some (.isub, 1) := by decide +kernel
theorem s13_22 {l0 : Nat} {l1 : Nat} {x0 : Nat} {x1 : Int} {x2 : Int} : WP m13 22 [.inr (.inl l0), .inr (.inl l1)] [.inl x2, .inl x1, .inr (.inl x0)] σ Q = (inI (x1 - x2) ∧ WP m13 23 [.inr (.inl l0), .inr (.inl l1)] [.inl (x1 - x2), .inr (.inl x0)] σ Q) := w_isub d13_22
theorem d13_23 : adec m13 23 = some (.putfield 23, 3) := by decide +kernel
theorem s13_23 {l0 : Nat} {l1 : Nat} {x1 : Int} : WP m13 23 [.inr (.inl l0), .inr (.inl l1)] [.inl x1, .inr (.inl 30)] σ Q = WP m13 26 [.inr (.inl l0), .inr (.inl l1)] [] (aup σ 30 2 x1) Q := (w_putI (c := 1) (n := 2) d13_23 (by decide +kernel) (by decide +kernel) (by decide +kernel)).trans (g_and (isO_dec (by decide +kernel)))
theorem d13_26 : adec m13 26 = some (.aload_n 1, 1) := by decide +kernel
theorem s13_26 {l0 : Nat} {l1 : Nat} : WP m13 26 [.inr (.inl l0), .inr (.inl l1)] [] σ Q = WP m13 27 [.inr (.inl l0), .inr (.inl l1)] [.inr (.inl l1)] σ Q := w_ld d13_26 rfl
theorem d13_27 : adec m13 27 = some (.aload_n 0, 1) := by decide +kernel
theorem s13_27 {l0 : Nat} {l1 : Nat} {x0 : Nat} : WP m13 27 [.inr (.inl l0), .inr (.inl l1)] [.inr (.inl x0)] σ Q = WP m13 28 [.inr (.inl l0), .inr (.inl l1)] [.inr (.inl l0), .inr (.inl x0)] σ Q := w_ld d13_27 rfl
theorem d13_28 : adec m13 28 = some (.getfield 13, 3) := by decide +kernel
theorem s13_28 {l0 : Nat} {l1 : Nat} {x0 : Nat} : WP m13 28 [.inr (.inl l0), .inr (.inl l1)] [.inr (.inl 30), .inr (.inl x0)] σ Q = WP m13 31 [.inr (.inl l0), .inr (.inl l1)] [.inr (.inl 31), .inr (.inl x0)] σ Q := (w_getR (c := 1) (n := 0) d13_28 (by decide +kernel) (by decide +kernel)).trans (g_and ⟨isO_dec (by decide +kernel), by decide +kernel⟩)
theorem d13_31 : adec m13 31 = some (.aload_n 0, 1) := by decide +kernel
theorem s13_31 {l0 : Nat} {l1 : Nat} {x0 : Nat} {x1 : Nat} : WP m13 31 [.inr (.inl l0), .inr (.inl l1)] [.inr (.inl x1), .inr (.inl x0)] σ Q = WP m13 32 [.inr (.inl l0), .inr (.inl l1)] [.inr (.inl l0), .inr (.inl x1), .inr (.inl x0)] σ Q := w_ld d13_31 rfl
theorem d13_32 : adec m13 32 = some (.getfield 23, 3) := by decide +kernel
theorem s13_32 {l0 : Nat} {l1 : Nat} {x0 : Nat} {x1 : Nat} : WP m13 32 [.inr (.inl l0), .inr (.inl l1)] [.inr (.inl 30), .inr (.inl x1), .inr (.inl x0)] σ Q = WP m13 35 [.inr (.inl l0), .inr (.inl l1)] [.inl (σ 30 2), .inr (.inl x1), .inr (.inl x0)] σ Q := (w_getI (c := 1) (n := 2) d13_32 (by decide +kernel) (by decide +kernel)).trans (g_and (isO_dec (by decide +kernel)))
theorem d13_35 : adec m13 35 = some (.aaload, 1) := by decide +kernel
theorem s13_35 {l0 : Nat} {l1 : Nat} {x0 : Nat} {x2 : Int} : WP m13 35 [.inr (.inl l0), .inr (.inl l1)] [.inl x2, .inr (.inl 31), .inr (.inl x0)] σ Q = ((0 ≤ x2 ∧ x2 < 10 ∧ 0 ≤ σ 31 x2.toNat) ∧ WP m13 36 [.inr (.inl l0), .inr (.inl l1)] [.inr (.inl (σ 31 x2.toNat).toNat), .inr (.inl x0)] σ Q) := w_aaldD d13_35
theorem d13_36 : adec m13 36 = some (.invokevirtual 30, 3) := by decide +kernel
theorem s13_36 {l0 : Nat} {l1 : Nat} {x0 : Nat} {x1 : Nat} : WP m13 36 [.inr (.inl l0), .inr (.inl l1)] [.inr (.inl x1), .inr (.inl x0)] σ Q = (isO x0 3 ∧ CA m40 [.inr (.inl x0), .inr (.inl x1)] σ (fun v σ2 => WP m13 39 [.inr (.inl l0), .inr (.inl l1)] (v ++ []) σ2 Q)) := w_cV (k := 40) d13_36 (by decide +kernel) m40_at rfl rfl ⟨Nat.le_of_ble_eq_true rfl, Nat.le_of_ble_eq_true rfl, Nat.le_of_ble_eq_true rfl⟩ (by decide)
theorem d13_39 : adec m13 39 = some (.return_, 1) := by decide +kernel
theorem s13_39 {l0 : Nat} {l1 : Nat} : WP m13 39 [.inr (.inl l0), .inr (.inl l1)] [] σ Q = Q [] σ := w_rv d13_39 rfl
theorem e13 {p0 : Nat} {p1 : Nat} : CA m13 [.inr (.inl p0), .inr (.inl p1)] σ Q = WP m13 0 [.inr (.inl p0), .inr (.inl p1)] [] σ Q := rfl
-- BinderPress$Past.loseOldest()V
theorem d14_0 : adec m14 0 = some (.aload_n 0, 1) := by decide +kernel
theorem s14_0 {l0 : Nat} {l1 : AV} {l2 : AV} : WP m14 0 [.inr (.inl l0), l1, l2] [] σ Q = WP m14 1 [.inr (.inl l0), l1, l2] [.inr (.inl l0)] σ Q := w_ld d14_0 rfl
theorem d14_1 : adec m14 1 = some (.getfield 13, 3) := by decide +kernel
theorem s14_1 {l0 : Nat} {l1 : AV} {l2 : AV} : WP m14 1 [.inr (.inl l0), l1, l2] [.inr (.inl 30)] σ Q = WP m14 4 [.inr (.inl l0), l1, l2] [.inr (.inl 31)] σ Q := (w_getR (c := 1) (n := 0) d14_1 (by decide +kernel) (by decide +kernel)).trans (g_and ⟨isO_dec (by decide +kernel), by decide +kernel⟩)
theorem d14_4 : adec m14 4 = some (.iconst (0), 1) := by decide +kernel
theorem s14_4 {l0 : Nat} {l1 : AV} {l2 : AV} {x0 : Nat} : WP m14 4 [.inr (.inl l0), l1, l2] [.inr (.inl x0)] σ Q = WP m14 5 [.inr (.inl l0), l1, l2] [.inl (0), .inr (.inl x0)] σ Q := w_iconst d14_4 (by decide)
theorem d14_5 : adec m14 5 = some (.aaload, 1) := by decide +kernel
theorem s14_5 {l0 : Nat} {l1 : AV} {l2 : AV} {x1 : Int} : WP m14 5 [.inr (.inl l0), l1, l2] [.inl x1, .inr (.inl 31)] σ Q = ((0 ≤ x1 ∧ x1 < 10 ∧ 0 ≤ σ 31 x1.toNat) ∧ WP m14 6 [.inr (.inl l0), l1, l2] [.inr (.inl (σ 31 x1.toNat).toNat)] σ Q) := w_aaldD d14_5
theorem d14_6 : adec m14 6 = some (.astore_n 1, 1) := by decide +kernel
theorem s14_6 {l0 : Nat} {l1 : AV} {l2 : AV} {x0 : Nat} : WP m14 6 [.inr (.inl l0), l1, l2] [.inr (.inl x0)] σ Q = WP m14 7 [.inr (.inl l0), .inr (.inl x0), l2] [] σ Q := w_stR (j := 1) d14_6 rfl (Nat.le_of_ble_eq_true rfl) rfl
theorem d14_7 : adec m14 7 = some (.iconst (1), 1) := by decide +kernel
theorem s14_7 {l0 : Nat} {l1 : Nat} {l2 : AV} : WP m14 7 [.inr (.inl l0), .inr (.inl l1), l2] [] σ Q = WP m14 8 [.inr (.inl l0), .inr (.inl l1), l2] [.inl (1)] σ Q := w_iconst d14_7 (by decide)
theorem d14_8 : adec m14 8 = some (.istore_n 2, 1) := by decide +kernel
theorem s14_8 {l0 : Nat} {l1 : Nat} {l2 : AV} {x0 : Int} : WP m14 8 [.inr (.inl l0), .inr (.inl l1), l2] [.inl x0] σ Q = WP m14 9 [.inr (.inl l0), .inr (.inl l1), .inl x0] [] σ Q := w_st1 (j := 2) d14_8 rfl (Nat.le_of_ble_eq_true rfl) rfl
theorem d14_9 : adec m14 9 = some (.iload_n 2, 1) := by decide +kernel
theorem s14_9 {l0 : Nat} {l1 : Nat} {l2 : Int} : WP m14 9 [.inr (.inl l0), .inr (.inl l1), .inl l2] [] σ Q = WP m14 10 [.inr (.inl l0), .inr (.inl l1), .inl l2] [.inl l2] σ Q := w_ld d14_9 rfl
theorem d14_10 : adec m14 10 = some (.bipush (10), 2) := by decide +kernel
theorem s14_10 {l0 : Nat} {l1 : Nat} {l2 : Int} {x0 : Int} : WP m14 10 [.inr (.inl l0), .inr (.inl l1), .inl l2] [.inl x0] σ Q = WP m14 12 [.inr (.inl l0), .inr (.inl l1), .inl l2] [.inl (10), .inl x0] σ Q := w_bipush d14_10 (by decide)
theorem d14_12 : adec m14 12 = some (.if_icmp .ge (37), 3) := by decide +kernel
theorem s14_12 {l0 : Nat} {l1 : Nat} {l2 : Int} {x0 : Int} {x1 : Int} : WP m14 12 [.inr (.inl l0), .inr (.inl l1), .inl l2] [.inl x1, .inl x0] σ Q = (if x1 ≤ x0 then WP m14 49 [.inr (.inl l0), .inr (.inl l1), .inl l2] [] σ Q else WP m14 15 [.inr (.inl l0), .inr (.inl l1), .inl l2] [] σ Q) := w_icge d14_12 (by decide)
theorem d14_15 : adec m14 15 = some (.aload_n 0, 1) := by decide +kernel
theorem s14_15 {l0 : Nat} {l1 : Nat} {l2 : Int} : WP m14 15 [.inr (.inl l0), .inr (.inl l1), .inl l2] [] σ Q = WP m14 16 [.inr (.inl l0), .inr (.inl l1), .inl l2] [.inr (.inl l0)] σ Q := w_ld d14_15 rfl
theorem d14_16 : adec m14 16 = some (.getfield 13, 3) := by decide +kernel
theorem s14_16 {l0 : Nat} {l1 : Nat} {l2 : Int} : WP m14 16 [.inr (.inl l0), .inr (.inl l1), .inl l2] [.inr (.inl 30)] σ Q = WP m14 19 [.inr (.inl l0), .inr (.inl l1), .inl l2] [.inr (.inl 31)] σ Q := (w_getR (c := 1) (n := 0) d14_16 (by decide +kernel) (by decide +kernel)).trans (g_and ⟨isO_dec (by decide +kernel), by decide +kernel⟩)
theorem d14_19 : adec m14 19 = some (.iload_n 2, 1) := by decide +kernel
theorem s14_19 {l0 : Nat} {l1 : Nat} {l2 : Int} {x0 : Nat} : WP m14 19 [.inr (.inl l0), .inr (.inl l1), .inl l2] [.inr (.inl x0)] σ Q = WP m14 20 [.inr (.inl l0), .inr (.inl l1), .inl l2] [.inl l2, .inr (.inl x0)] σ Q := w_ld d14_19 rfl
theorem d14_20 : adec m14 20 = some (.iconst (1), 1) := by decide +kernel
theorem s14_20 {l0 : Nat} {l1 : Nat} {l2 : Int} {x0 : Nat} {x1 : Int} : WP m14 20 [.inr (.inl l0), .inr (.inl l1), .inl l2] [.inl x1, .inr (.inl x0)] σ Q = WP m14 21 [.inr (.inl l0), .inr (.inl l1), .inl l2] [.inl (1), .inl x1, .inr (.inl x0)] σ Q := w_iconst d14_20 (by decide)
theorem d14_21 : adec m14 21 = some (.isub, 1) := by decide +kernel
theorem s14_21 {l0 : Nat} {l1 : Nat} {l2 : Int} {x0 : Nat} {x1 : Int} {x2 : Int} : WP m14 21 [.inr (.inl l0), .inr (.inl l1), .inl l2] [.inl x2, .inl x1, .inr (.inl x0)] σ Q = (inI (x1 - x2) ∧ WP m14 22 [.inr (.inl l0), .inr (.inl l1), .inl l2] [.inl (x1 - x2), .inr (.inl x0)] σ Q) := w_isub d14_21
theorem d14_22 : adec m14 22 = some (.aload_n 0, 1) := by decide +kernel
theorem s14_22 {l0 : Nat} {l1 : Nat} {l2 : Int} {x0 : Nat} {x1 : Int} : WP m14 22 [.inr (.inl l0), .inr (.inl l1), .inl l2] [.inl x1, .inr (.inl x0)] σ Q = WP m14 23 [.inr (.inl l0), .inr (.inl l1), .inl l2] [.inr (.inl l0), .inl x1, .inr (.inl x0)] σ Q := w_ld d14_22 rfl
theorem d14_23 : adec m14 23 = some (.getfield 13, 3) := by decide +kernel
theorem s14_23 {l0 : Nat} {l1 : Nat} {l2 : Int} {x0 : Nat} {x1 : Int} : WP m14 23 [.inr (.inl l0), .inr (.inl l1), .inl l2] [.inr (.inl 30), .inl x1, .inr (.inl x0)] σ Q = WP m14 26 [.inr (.inl l0), .inr (.inl l1), .inl l2] [.inr (.inl 31), .inl x1, .inr (.inl x0)] σ Q := (w_getR (c := 1) (n := 0) d14_23 (by decide +kernel) (by decide +kernel)).trans (g_and ⟨isO_dec (by decide +kernel), by decide +kernel⟩)
theorem d14_26 : adec m14 26 = some (.iload_n 2, 1) := by decide +kernel
theorem s14_26 {l0 : Nat} {l1 : Nat} {l2 : Int} {x0 : Nat} {x1 : Int} {x2 : Nat} : WP m14 26 [.inr (.inl l0), .inr (.inl l1), .inl l2] [.inr (.inl x2), .inl x1, .inr (.inl x0)] σ Q = WP m14 27 [.inr (.inl l0), .inr (.inl l1), .inl l2] [.inl l2, .inr (.inl x2), .inl x1, .inr (.inl x0)] σ Q := w_ld d14_26 rfl
theorem d14_27 : adec m14 27 = some (.aaload, 1) := by decide +kernel
theorem s14_27 {l0 : Nat} {l1 : Nat} {l2 : Int} {x0 : Nat} {x1 : Int} {x3 : Int} : WP m14 27 [.inr (.inl l0), .inr (.inl l1), .inl l2] [.inl x3, .inr (.inl 31), .inl x1, .inr (.inl x0)] σ Q = ((0 ≤ x3 ∧ x3 < 10 ∧ 0 ≤ σ 31 x3.toNat) ∧ WP m14 28 [.inr (.inl l0), .inr (.inl l1), .inl l2] [.inr (.inl (σ 31 x3.toNat).toNat), .inl x1, .inr (.inl x0)] σ Q) := w_aaldD d14_27
theorem d14_28 : adec m14 28 = some (.aastore, 1) := by decide +kernel
theorem s14_28 {l0 : Nat} {l1 : Nat} {l2 : Int} {x1 : Int} {x2 : Nat} : WP m14 28 [.inr (.inl l0), .inr (.inl l1), .inl l2] [.inr (.inl x2), .inl x1, .inr (.inl 31)] σ Q = ((kdS x2 = 3 ∧ 0 ≤ x1 ∧ x1 < 10) ∧ WP m14 29 [.inr (.inl l0), .inr (.inl l1), .inl l2] [] (aup σ 31 x1.toNat (x2 : Int)) Q) := w_aastD d14_28
theorem d14_29 : adec m14 29 = some (.aload_n 0, 1) := by decide +kernel
theorem s14_29 {l0 : Nat} {l1 : Nat} {l2 : Int} : WP m14 29 [.inr (.inl l0), .inr (.inl l1), .inl l2] [] σ Q = WP m14 30 [.inr (.inl l0), .inr (.inl l1), .inl l2] [.inr (.inl l0)] σ Q := w_ld d14_29 rfl
theorem d14_30 : adec m14 30 = some (.getfield 19, 3) := by decide +kernel
theorem s14_30 {l0 : Nat} {l1 : Nat} {l2 : Int} : WP m14 30 [.inr (.inl l0), .inr (.inl l1), .inl l2] [.inr (.inl 30)] σ Q = WP m14 33 [.inr (.inl l0), .inr (.inl l1), .inl l2] [.inr (.inl 52)] σ Q := (w_getR (c := 1) (n := 1) d14_30 (by decide +kernel) (by decide +kernel)).trans (g_and ⟨isO_dec (by decide +kernel), by decide +kernel⟩)
theorem d14_33 : adec m14 33 = some (.iload_n 2, 1) := by decide +kernel
theorem s14_33 {l0 : Nat} {l1 : Nat} {l2 : Int} {x0 : Nat} : WP m14 33 [.inr (.inl l0), .inr (.inl l1), .inl l2] [.inr (.inl x0)] σ Q = WP m14 34 [.inr (.inl l0), .inr (.inl l1), .inl l2] [.inl l2, .inr (.inl x0)] σ Q := w_ld d14_33 rfl
theorem d14_34 : adec m14 34 = some (.iconst (1), 1) := by decide +kernel
theorem s14_34 {l0 : Nat} {l1 : Nat} {l2 : Int} {x0 : Nat} {x1 : Int} : WP m14 34 [.inr (.inl l0), .inr (.inl l1), .inl l2] [.inl x1, .inr (.inl x0)] σ Q = WP m14 35 [.inr (.inl l0), .inr (.inl l1), .inl l2] [.inl (1), .inl x1, .inr (.inl x0)] σ Q := w_iconst d14_34 (by decide)
theorem d14_35 : adec m14 35 = some (.isub, 1) := by decide +kernel
theorem s14_35 {l0 : Nat} {l1 : Nat} {l2 : Int} {x0 : Nat} {x1 : Int} {x2 : Int} : WP m14 35 [.inr (.inl l0), .inr (.inl l1), .inl l2] [.inl x2, .inl x1, .inr (.inl x0)] σ Q = (inI (x1 - x2) ∧ WP m14 36 [.inr (.inl l0), .inr (.inl l1), .inl l2] [.inl (x1 - x2), .inr (.inl x0)] σ Q) := w_isub d14_35
theorem d14_36 : adec m14 36 = some (.aload_n 0, 1) := by decide +kernel
theorem s14_36 {l0 : Nat} {l1 : Nat} {l2 : Int} {x0 : Nat} {x1 : Int} : WP m14 36 [.inr (.inl l0), .inr (.inl l1), .inl l2] [.inl x1, .inr (.inl x0)] σ Q = WP m14 37 [.inr (.inl l0), .inr (.inl l1), .inl l2] [.inr (.inl l0), .inl x1, .inr (.inl x0)] σ Q := w_ld d14_36 rfl
theorem d14_37 : adec m14 37 = some (.getfield 19, 3) := by decide +kernel
theorem s14_37 {l0 : Nat} {l1 : Nat} {l2 : Int} {x0 : Nat} {x1 : Int} : WP m14 37 [.inr (.inl l0), .inr (.inl l1), .inl l2] [.inr (.inl 30), .inl x1, .inr (.inl x0)] σ Q = WP m14 40 [.inr (.inl l0), .inr (.inl l1), .inl l2] [.inr (.inl 52), .inl x1, .inr (.inl x0)] σ Q := (w_getR (c := 1) (n := 1) d14_37 (by decide +kernel) (by decide +kernel)).trans (g_and ⟨isO_dec (by decide +kernel), by decide +kernel⟩)
theorem d14_40 : adec m14 40 = some (.iload_n 2, 1) := by decide +kernel
theorem s14_40 {l0 : Nat} {l1 : Nat} {l2 : Int} {x0 : Nat} {x1 : Int} {x2 : Nat} : WP m14 40 [.inr (.inl l0), .inr (.inl l1), .inl l2] [.inr (.inl x2), .inl x1, .inr (.inl x0)] σ Q = WP m14 41 [.inr (.inl l0), .inr (.inl l1), .inl l2] [.inl l2, .inr (.inl x2), .inl x1, .inr (.inl x0)] σ Q := w_ld d14_40 rfl
theorem d14_41 : adec m14 41 = some (.iaload, 1) := by decide +kernel
theorem s14_41 {l0 : Nat} {l1 : Nat} {l2 : Int} {x0 : Nat} {x1 : Int} {x2 : Nat} {x3 : Int} : WP m14 41 [.inr (.inl l0), .inr (.inl l1), .inl l2] [.inl x3, .inr (.inl x2), .inl x1, .inr (.inl x0)] σ Q = ((kdS x2 = 20 ∧ 0 ≤ x3 ∧ x3 < ln x2) ∧ WP m14 42 [.inr (.inl l0), .inr (.inl l1), .inl l2] [.inl (σ x2 x3.toNat), .inl x1, .inr (.inl x0)] σ Q) := w_iald d14_41
theorem d14_42 : adec m14 42 = some (.iastore, 1) := by decide +kernel
theorem s14_42 {l0 : Nat} {l1 : Nat} {l2 : Int} {x0 : Nat} {x1 : Int} {x2 : Int} : WP m14 42 [.inr (.inl l0), .inr (.inl l1), .inl l2] [.inl x2, .inl x1, .inr (.inl x0)] σ Q = ((kdS x0 = 20 ∧ 0 ≤ x1 ∧ x1 < ln x0) ∧ WP m14 43 [.inr (.inl l0), .inr (.inl l1), .inl l2] [] (aup σ x0 x1.toNat x2) Q) := w_iast d14_42
theorem d14_43 : adec m14 43 = some (.iinc 2 (1), 3) := by decide +kernel
theorem s14_43 {l0 : Nat} {l1 : Nat} {l2 : Int} : WP m14 43 [.inr (.inl l0), .inr (.inl l1), .inl l2] [] σ Q = (inI (l2 + (1)) ∧ WP m14 46 [.inr (.inl l0), .inr (.inl l1), .inl (l2 + (1))] [] σ Q) := w_iinc d14_43 rfl rfl
theorem d14_46 : adec m14 46 = some (.goto (-37), 3) := by decide +kernel
theorem s14_46 {l0 : Nat} {l1 : Nat} {l2 : Int} : WP m14 46 [.inr (.inl l0), .inr (.inl l1), .inl l2] [] σ Q = WP m14 9 [.inr (.inl l0), .inr (.inl l1), .inl l2] [] σ Q := w_goto d14_46 (by decide)
theorem d14_49 : adec m14 49 = some (.aload_n 0, 1) := by decide +kernel
theorem s14_49 {l0 : Nat} {l1 : Nat} {l2 : Int} : WP m14 49 [.inr (.inl l0), .inr (.inl l1), .inl l2] [] σ Q = WP m14 50 [.inr (.inl l0), .inr (.inl l1), .inl l2] [.inr (.inl l0)] σ Q := w_ld d14_49 rfl
theorem d14_50 : adec m14 50 = some (.getfield 13, 3) := by decide +kernel
theorem s14_50 {l0 : Nat} {l1 : Nat} {l2 : Int} : WP m14 50 [.inr (.inl l0), .inr (.inl l1), .inl l2] [.inr (.inl 30)] σ Q = WP m14 53 [.inr (.inl l0), .inr (.inl l1), .inl l2] [.inr (.inl 31)] σ Q := (w_getR (c := 1) (n := 0) d14_50 (by decide +kernel) (by decide +kernel)).trans (g_and ⟨isO_dec (by decide +kernel), by decide +kernel⟩)
theorem d14_53 : adec m14 53 = some (.bipush (9), 2) := by decide +kernel
theorem s14_53 {l0 : Nat} {l1 : Nat} {l2 : Int} {x0 : Nat} : WP m14 53 [.inr (.inl l0), .inr (.inl l1), .inl l2] [.inr (.inl x0)] σ Q = WP m14 55 [.inr (.inl l0), .inr (.inl l1), .inl l2] [.inl (9), .inr (.inl x0)] σ Q := w_bipush d14_53 (by decide)
theorem d14_55 : adec m14 55 = some (.aload_n 1, 1) := by decide +kernel
theorem s14_55 {l0 : Nat} {l1 : Nat} {l2 : Int} {x0 : Nat} {x1 : Int} : WP m14 55 [.inr (.inl l0), .inr (.inl l1), .inl l2] [.inl x1, .inr (.inl x0)] σ Q = WP m14 56 [.inr (.inl l0), .inr (.inl l1), .inl l2] [.inr (.inl l1), .inl x1, .inr (.inl x0)] σ Q := w_ld d14_55 rfl
theorem d14_56 : adec m14 56 = some (.aastore, 1) := by decide +kernel
theorem s14_56 {l0 : Nat} {l1 : Nat} {l2 : Int} {x1 : Int} {x2 : Nat} : WP m14 56 [.inr (.inl l0), .inr (.inl l1), .inl l2] [.inr (.inl x2), .inl x1, .inr (.inl 31)] σ Q = ((kdS x2 = 3 ∧ 0 ≤ x1 ∧ x1 < 10) ∧ WP m14 57 [.inr (.inl l0), .inr (.inl l1), .inl l2] [] (aup σ 31 x1.toNat (x2 : Int)) Q) := w_aastD d14_56
theorem d14_57 : adec m14 57 = some (.aload_n 0, 1) := by decide +kernel
theorem s14_57 {l0 : Nat} {l1 : Nat} {l2 : Int} : WP m14 57 [.inr (.inl l0), .inr (.inl l1), .inl l2] [] σ Q = WP m14 58 [.inr (.inl l0), .inr (.inl l1), .inl l2] [.inr (.inl l0)] σ Q := w_ld d14_57 rfl
theorem d14_58 : adec m14 58 = some (.bipush (9), 2) := by decide +kernel
theorem s14_58 {l0 : Nat} {l1 : Nat} {l2 : Int} {x0 : Nat} : WP m14 58 [.inr (.inl l0), .inr (.inl l1), .inl l2] [.inr (.inl x0)] σ Q = WP m14 60 [.inr (.inl l0), .inr (.inl l1), .inl l2] [.inl (9), .inr (.inl x0)] σ Q := w_bipush d14_58 (by decide)
theorem d14_60 : adec m14 60 = some (.putfield 23, 3) := by decide +kernel
theorem s14_60 {l0 : Nat} {l1 : Nat} {l2 : Int} {x1 : Int} : WP m14 60 [.inr (.inl l0), .inr (.inl l1), .inl l2] [.inl x1, .inr (.inl 30)] σ Q = WP m14 63 [.inr (.inl l0), .inr (.inl l1), .inl l2] [] (aup σ 30 2 x1) Q := (w_putI (c := 1) (n := 2) d14_60 (by decide +kernel) (by decide +kernel) (by decide +kernel)).trans (g_and (isO_dec (by decide +kernel)))
theorem d14_63 : adec m14 63 = some (.return_, 1) := by decide +kernel
theorem s14_63 {l0 : Nat} {l1 : Nat} {l2 : Int} : WP m14 63 [.inr (.inl l0), .inr (.inl l1), .inl l2] [] σ Q = Q [] σ := w_rv d14_63 rfl
theorem e14 {p0 : Nat} : CA m14 [.inr (.inl p0)] σ Q = WP m14 0 [.inr (.inl p0), vU, vU] [] σ Q := rfl
-- BinderPress$Reader.place()I
theorem d16_0 : adec m16 0 = some (.aload_n 0, 1) := by decide +kernel
theorem s16_0 {l0 : Nat} : WP m16 0 [.inr (.inl l0)] [] σ Q = WP m16 1 [.inr (.inl l0)] [.inr (.inl l0)] σ Q := w_ld d16_0 rfl
theorem d16_1 : adec m16 1 = some (.getfield 23, 3) := by decide +kernel
theorem s16_1 {l0 : Nat} : WP m16 1 [.inr (.inl l0)] [.inr (.inl 55)] σ Q = WP m16 4 [.inr (.inl l0)] [.inl (σ 55 4)] σ Q := (w_getI (c := 2) (n := 4) d16_1 (by decide +kernel) (by decide +kernel)).trans (g_and (isO_dec (by decide +kernel)))
theorem d16_4 : adec m16 4 = some (.ireturn, 1) := by decide +kernel
theorem s16_4 {l0 : Nat} {x0 : Int} : WP m16 4 [.inr (.inl l0)] [.inl x0] σ Q = Q [.inl x0] σ := w_ri d16_4 rfl
theorem e16 {p0 : Nat} : CA m16 [.inr (.inl p0)] σ Q = WP m16 0 [.inr (.inl p0)] [] σ Q := rfl
-- BinderPress$Reader.read(LBinderPress$Row;LBinderPress$Row;)I
theorem d17_0 : adec m17 0 = some (.aload_n 2, 1) := by decide +kernel
theorem s17_0 {l0 : Nat} {l1 : Nat} {l2 : Nat} {l3 : AV} {l4 : AV} : WP m17 0 [.inr (.inl l0), .inr (.inl l1), .inr (.inl l2), l3, l4] [] σ Q = WP m17 1 [.inr (.inl l0), .inr (.inl l1), .inr (.inl l2), l3, l4] [.inr (.inl l2)] σ Q := w_ld d17_0 rfl
theorem d17_1 : adec m17 1 = some (.invokevirtual 27, 3) := by decide +kernel
theorem s17_1 {l0 : Nat} {l1 : Nat} {l2 : Nat} {l3 : AV} {l4 : AV} {x0 : Nat} : WP m17 1 [.inr (.inl l0), .inr (.inl l1), .inr (.inl l2), l3, l4] [.inr (.inl x0)] σ Q = (isO x0 3 ∧ CA m29 [.inr (.inl x0)] σ (fun v σ2 => WP m17 4 [.inr (.inl l0), .inr (.inl l1), .inr (.inl l2), l3, l4] (v ++ []) σ2 Q)) := w_cV (k := 29) d17_1 (by decide +kernel) m29_at rfl rfl ⟨Nat.le_of_ble_eq_true rfl, Nat.le_of_ble_eq_true rfl, Nat.le_of_ble_eq_true rfl⟩ (by decide)
theorem d17_4 : adec m17 4 = some (.aload_n 0, 1) := by decide +kernel
theorem s17_4 {l0 : Nat} {l1 : Nat} {l2 : Nat} {l3 : AV} {l4 : AV} : WP m17 4 [.inr (.inl l0), .inr (.inl l1), .inr (.inl l2), l3, l4] [] σ Q = WP m17 5 [.inr (.inl l0), .inr (.inl l1), .inr (.inl l2), l3, l4] [.inr (.inl l0)] σ Q := w_ld d17_4 rfl
theorem d17_5 : adec m17 5 = some (.getfield 14, 3) := by decide +kernel
theorem s17_5 {l0 : Nat} {l1 : Nat} {l2 : Nat} {l3 : AV} {l4 : AV} : WP m17 5 [.inr (.inl l0), .inr (.inl l1), .inr (.inl l2), l3, l4] [.inr (.inl 55)] σ Q = WP m17 8 [.inr (.inl l0), .inr (.inl l1), .inr (.inl l2), l3, l4] [.inr (.inl 56)] σ Q := (w_getR (c := 2) (n := 0) d17_5 (by decide +kernel) (by decide +kernel)).trans (g_and ⟨isO_dec (by decide +kernel), by decide +kernel⟩)
theorem d17_8 : adec m17 8 = some (.invokevirtual 27, 3) := by decide +kernel
theorem s17_8 {l0 : Nat} {l1 : Nat} {l2 : Nat} {l3 : AV} {l4 : AV} {x0 : Nat} : WP m17 8 [.inr (.inl l0), .inr (.inl l1), .inr (.inl l2), l3, l4] [.inr (.inl x0)] σ Q = (isO x0 3 ∧ CA m29 [.inr (.inl x0)] σ (fun v σ2 => WP m17 11 [.inr (.inl l0), .inr (.inl l1), .inr (.inl l2), l3, l4] (v ++ []) σ2 Q)) := w_cV (k := 29) d17_8 (by decide +kernel) m29_at rfl rfl ⟨Nat.le_of_ble_eq_true rfl, Nat.le_of_ble_eq_true rfl, Nat.le_of_ble_eq_true rfl⟩ (by decide)
theorem d17_11 : adec m17 11 = some (.aload_n 0, 1) := by decide +kernel
theorem s17_11 {l0 : Nat} {l1 : Nat} {l2 : Nat} {l3 : AV} {l4 : AV} : WP m17 11 [.inr (.inl l0), .inr (.inl l1), .inr (.inl l2), l3, l4] [] σ Q = WP m17 12 [.inr (.inl l0), .inr (.inl l1), .inr (.inl l2), l3, l4] [.inr (.inl l0)] σ Q := w_ld d17_11 rfl
theorem d17_12 : adec m17 12 = some (.getfield 20, 3) := by decide +kernel
theorem s17_12 {l0 : Nat} {l1 : Nat} {l2 : Nat} {l3 : AV} {l4 : AV} : WP m17 12 [.inr (.inl l0), .inr (.inl l1), .inr (.inl l2), l3, l4] [.inr (.inl 55)] σ Q = WP m17 15 [.inr (.inl l0), .inr (.inl l1), .inr (.inl l2), l3, l4] [.inr (.inl 58)] σ Q := (w_getR (c := 2) (n := 1) d17_12 (by decide +kernel) (by decide +kernel)).trans (g_and ⟨isO_dec (by decide +kernel), by decide +kernel⟩)
theorem d17_15 : adec m17 15 = some (.invokevirtual 27, 3) := by decide +kernel
theorem s17_15 {l0 : Nat} {l1 : Nat} {l2 : Nat} {l3 : AV} {l4 : AV} {x0 : Nat} : WP m17 15 [.inr (.inl l0), .inr (.inl l1), .inr (.inl l2), l3, l4] [.inr (.inl x0)] σ Q = (isO x0 3 ∧ CA m29 [.inr (.inl x0)] σ (fun v σ2 => WP m17 18 [.inr (.inl l0), .inr (.inl l1), .inr (.inl l2), l3, l4] (v ++ []) σ2 Q)) := w_cV (k := 29) d17_15 (by decide +kernel) m29_at rfl rfl ⟨Nat.le_of_ble_eq_true rfl, Nat.le_of_ble_eq_true rfl, Nat.le_of_ble_eq_true rfl⟩ (by decide)
theorem d17_18 : adec m17 18 = some (.aload_n 0, 1) := by decide +kernel
theorem s17_18 {l0 : Nat} {l1 : Nat} {l2 : Nat} {l3 : AV} {l4 : AV} : WP m17 18 [.inr (.inl l0), .inr (.inl l1), .inr (.inl l2), l3, l4] [] σ Q = WP m17 19 [.inr (.inl l0), .inr (.inl l1), .inr (.inl l2), l3, l4] [.inr (.inl l0)] σ Q := w_ld d17_18 rfl
theorem d17_19 : adec m17 19 = some (.iconst (0), 1) := by decide +kernel
theorem s17_19 {l0 : Nat} {l1 : Nat} {l2 : Nat} {l3 : AV} {l4 : AV} {x0 : Nat} : WP m17 19 [.inr (.inl l0), .inr (.inl l1), .inr (.inl l2), l3, l4] [.inr (.inl x0)] σ Q = WP m17 20 [.inr (.inl l0), .inr (.inl l1), .inr (.inl l2), l3, l4] [.inl (0), .inr (.inl x0)] σ Q := w_iconst d17_19 (by decide)
theorem d17_20 : adec m17 20 = some (.putfield 30, 3) := by decide +kernel
theorem s17_20 {l0 : Nat} {l1 : Nat} {l2 : Nat} {l3 : AV} {l4 : AV} {x1 : Int} : WP m17 20 [.inr (.inl l0), .inr (.inl l1), .inr (.inl l2), l3, l4] [.inl x1, .inr (.inl 55)] σ Q = WP m17 23 [.inr (.inl l0), .inr (.inl l1), .inr (.inl l2), l3, l4] [] (aup σ 55 2 x1) Q := (w_putI (c := 2) (n := 2) d17_20 (by decide +kernel) (by decide +kernel) (by decide +kernel)).trans (g_and (isO_dec (by decide +kernel)))
theorem d17_23 : adec m17 23 = some (.aload_n 0, 1) := by decide +kernel
theorem s17_23 {l0 : Nat} {l1 : Nat} {l2 : Nat} {l3 : AV} {l4 : AV} : WP m17 23 [.inr (.inl l0), .inr (.inl l1), .inr (.inl l2), l3, l4] [] σ Q = WP m17 24 [.inr (.inl l0), .inr (.inl l1), .inr (.inl l2), l3, l4] [.inr (.inl l0)] σ Q := w_ld d17_23 rfl
theorem d17_24 : adec m17 24 = some (.iconst (0), 1) := by decide +kernel
theorem s17_24 {l0 : Nat} {l1 : Nat} {l2 : Nat} {l3 : AV} {l4 : AV} {x0 : Nat} : WP m17 24 [.inr (.inl l0), .inr (.inl l1), .inr (.inl l2), l3, l4] [.inr (.inl x0)] σ Q = WP m17 25 [.inr (.inl l0), .inr (.inl l1), .inr (.inl l2), l3, l4] [.inl (0), .inr (.inl x0)] σ Q := w_iconst d17_24 (by decide)
theorem d17_25 : adec m17 25 = some (.putfield 33, 3) := by decide +kernel
theorem s17_25 {l0 : Nat} {l1 : Nat} {l2 : Nat} {l3 : AV} {l4 : AV} {x1 : Int} : WP m17 25 [.inr (.inl l0), .inr (.inl l1), .inr (.inl l2), l3, l4] [.inl x1, .inr (.inl 55)] σ Q = WP m17 28 [.inr (.inl l0), .inr (.inl l1), .inr (.inl l2), l3, l4] [] (aup σ 55 3 x1) Q := (w_putI (c := 2) (n := 3) d17_25 (by decide +kernel) (by decide +kernel) (by decide +kernel)).trans (g_and (isO_dec (by decide +kernel)))
theorem d17_28 : adec m17 28 = some (.aload_n 0, 1) := by decide +kernel
theorem s17_28 {l0 : Nat} {l1 : Nat} {l2 : Nat} {l3 : AV} {l4 : AV} : WP m17 28 [.inr (.inl l0), .inr (.inl l1), .inr (.inl l2), l3, l4] [] σ Q = WP m17 29 [.inr (.inl l0), .inr (.inl l1), .inr (.inl l2), l3, l4] [.inr (.inl l0)] σ Q := w_ld d17_28 rfl
theorem d17_29 : adec m17 29 = some (.iconst (0), 1) := by decide +kernel
theorem s17_29 {l0 : Nat} {l1 : Nat} {l2 : Nat} {l3 : AV} {l4 : AV} {x0 : Nat} : WP m17 29 [.inr (.inl l0), .inr (.inl l1), .inr (.inl l2), l3, l4] [.inr (.inl x0)] σ Q = WP m17 30 [.inr (.inl l0), .inr (.inl l1), .inr (.inl l2), l3, l4] [.inl (0), .inr (.inl x0)] σ Q := w_iconst d17_29 (by decide)
theorem d17_30 : adec m17 30 = some (.iconst (0), 1) := by decide +kernel
theorem s17_30 {l0 : Nat} {l1 : Nat} {l2 : Nat} {l3 : AV} {l4 : AV} {x0 : Nat} {x1 : Int} : WP m17 30 [.inr (.inl l0), .inr (.inl l1), .inr (.inl l2), l3, l4] [.inl x1, .inr (.inl x0)] σ Q = WP m17 31 [.inr (.inl l0), .inr (.inl l1), .inr (.inl l2), l3, l4] [.inl (0), .inl x1, .inr (.inl x0)] σ Q := w_iconst d17_30 (by decide)
theorem d17_31 : adec m17 31 = some (.invokevirtual 36, 3) := by decide +kernel
theorem s17_31 {l0 : Nat} {l1 : Nat} {l2 : Nat} {l3 : AV} {l4 : AV} {x1 : Int} {x2 : Int} : WP m17 31 [.inr (.inl l0), .inr (.inl l1), .inr (.inl l2), l3, l4] [.inl x2, .inl x1, .inr (.inl 55)] σ Q = CA m26 [.inr (.inl 55), .inl x1, .inl x2] σ (fun v σ2 => WP m17 34 [.inr (.inl l0), .inr (.inl l1), .inr (.inl l2), l3, l4] (v ++ []) σ2 Q) := (w_cV (k := 26) d17_31 (by decide +kernel) m26_at rfl rfl ⟨Nat.le_of_ble_eq_true rfl, Nat.le_of_ble_eq_true rfl, Nat.le_of_ble_eq_true rfl⟩ (by decide)).trans (g_and (isO_dec (by decide +kernel)))
theorem d17_34 : adec m17 34 = some (.iconst (0), 1) := by decide +kernel
theorem s17_34 {l0 : Nat} {l1 : Nat} {l2 : Nat} {l3 : AV} {l4 : AV} : WP m17 34 [.inr (.inl l0), .inr (.inl l1), .inr (.inl l2), l3, l4] [] σ Q = WP m17 35 [.inr (.inl l0), .inr (.inl l1), .inr (.inl l2), l3, l4] [.inl (0)] σ Q := w_iconst d17_34 (by decide)
theorem d17_35 : adec m17 35 = some (.istore_n 3, 1) := by decide +kernel
theorem s17_35 {l0 : Nat} {l1 : Nat} {l2 : Nat} {l3 : AV} {l4 : AV} {x0 : Int} : WP m17 35 [.inr (.inl l0), .inr (.inl l1), .inr (.inl l2), l3, l4] [.inl x0] σ Q = WP m17 36 [.inr (.inl l0), .inr (.inl l1), .inr (.inl l2), .inl x0, l4] [] σ Q := w_st1 (j := 3) d17_35 rfl (Nat.le_of_ble_eq_true rfl) rfl
theorem d17_36 : adec m17 36 = some (.iload_n 3, 1) := by decide +kernel
theorem s17_36 {l0 : Nat} {l1 : Nat} {l2 : Nat} {l3 : Int} {l4 : AV} : WP m17 36 [.inr (.inl l0), .inr (.inl l1), .inr (.inl l2), .inl l3, l4] [] σ Q = WP m17 37 [.inr (.inl l0), .inr (.inl l1), .inr (.inl l2), .inl l3, l4] [.inl l3] σ Q := w_ld d17_36 rfl
theorem d17_37 : adec m17 37 = some (.aload_n 1, 1) := by decide +kernel
theorem s17_37 {l0 : Nat} {l1 : Nat} {l2 : Nat} {l3 : Int} {l4 : AV} {x0 : Int} : WP m17 37 [.inr (.inl l0), .inr (.inl l1), .inr (.inl l2), .inl l3, l4] [.inl x0] σ Q = WP m17 38 [.inr (.inl l0), .inr (.inl l1), .inr (.inl l2), .inl l3, l4] [.inr (.inl l1), .inl x0] σ Q := w_ld d17_37 rfl
theorem d17_38 : adec m17 38 = some (.invokevirtual 40, 3) := by decide +kernel
theorem s17_38 {l0 : Nat} {l1 : Nat} {l2 : Nat} {l3 : Int} {l4 : AV} {x0 : Int} {x1 : Nat} : WP m17 38 [.inr (.inl l0), .inr (.inl l1), .inr (.inl l2), .inl l3, l4] [.inr (.inl x1), .inl x0] σ Q = (isO x1 3 ∧ CA m28 [.inr (.inl x1)] σ (fun v σ2 => WP m17 41 [.inr (.inl l0), .inr (.inl l1), .inr (.inl l2), .inl l3, l4] (v ++ [.inl x0]) σ2 Q)) := w_cV (k := 28) d17_38 (by decide +kernel) m28_at rfl rfl ⟨Nat.le_of_ble_eq_true rfl, Nat.le_of_ble_eq_true rfl, Nat.le_of_ble_eq_true rfl⟩ (by decide)
theorem d17_41 : adec m17 41 = some (.if_icmp .ge (34), 3) := by decide +kernel
theorem s17_41 {l0 : Nat} {l1 : Nat} {l2 : Nat} {l3 : Int} {l4 : AV} {x0 : Int} {x1 : Int} : WP m17 41 [.inr (.inl l0), .inr (.inl l1), .inr (.inl l2), .inl l3, l4] [.inl x1, .inl x0] σ Q = (if x1 ≤ x0 then WP m17 75 [.inr (.inl l0), .inr (.inl l1), .inr (.inl l2), .inl l3, l4] [] σ Q else WP m17 44 [.inr (.inl l0), .inr (.inl l1), .inr (.inl l2), .inl l3, l4] [] σ Q) := w_icge d17_41 (by decide)
theorem d17_44 : adec m17 44 = some (.aload_n 0, 1) := by decide +kernel
theorem s17_44 {l0 : Nat} {l1 : Nat} {l2 : Nat} {l3 : Int} {l4 : AV} : WP m17 44 [.inr (.inl l0), .inr (.inl l1), .inr (.inl l2), .inl l3, l4] [] σ Q = WP m17 45 [.inr (.inl l0), .inr (.inl l1), .inr (.inl l2), .inl l3, l4] [.inr (.inl l0)] σ Q := w_ld d17_44 rfl
theorem d17_45 : adec m17 45 = some (.iload_n 3, 1) := by decide +kernel
theorem s17_45 {l0 : Nat} {l1 : Nat} {l2 : Nat} {l3 : Int} {l4 : AV} {x0 : Nat} : WP m17 45 [.inr (.inl l0), .inr (.inl l1), .inr (.inl l2), .inl l3, l4] [.inr (.inl x0)] σ Q = WP m17 46 [.inr (.inl l0), .inr (.inl l1), .inr (.inl l2), .inl l3, l4] [.inl l3, .inr (.inl x0)] σ Q := w_ld d17_45 rfl
theorem d17_46 : adec m17 46 = some (.putfield 23, 3) := by decide +kernel
theorem s17_46 {l0 : Nat} {l1 : Nat} {l2 : Nat} {l3 : Int} {l4 : AV} {x1 : Int} : WP m17 46 [.inr (.inl l0), .inr (.inl l1), .inr (.inl l2), .inl l3, l4] [.inl x1, .inr (.inl 55)] σ Q = WP m17 49 [.inr (.inl l0), .inr (.inl l1), .inr (.inl l2), .inl l3, l4] [] (aup σ 55 4 x1) Q := (w_putI (c := 2) (n := 4) d17_46 (by decide +kernel) (by decide +kernel) (by decide +kernel)).trans (g_and (isO_dec (by decide +kernel)))
theorem d17_49 : adec m17 49 = some (.aload_n 0, 1) := by decide +kernel
theorem s17_49 {l0 : Nat} {l1 : Nat} {l2 : Nat} {l3 : Int} {l4 : AV} : WP m17 49 [.inr (.inl l0), .inr (.inl l1), .inr (.inl l2), .inl l3, l4] [] σ Q = WP m17 50 [.inr (.inl l0), .inr (.inl l1), .inr (.inl l2), .inl l3, l4] [.inr (.inl l0)] σ Q := w_ld d17_49 rfl
theorem d17_50 : adec m17 50 = some (.aload_n 1, 1) := by decide +kernel
theorem s17_50 {l0 : Nat} {l1 : Nat} {l2 : Nat} {l3 : Int} {l4 : AV} {x0 : Nat} : WP m17 50 [.inr (.inl l0), .inr (.inl l1), .inr (.inl l2), .inl l3, l4] [.inr (.inl x0)] σ Q = WP m17 51 [.inr (.inl l0), .inr (.inl l1), .inr (.inl l2), .inl l3, l4] [.inr (.inl l1), .inr (.inl x0)] σ Q := w_ld d17_50 rfl
theorem d17_51 : adec m17 51 = some (.iload_n 3, 1) := by decide +kernel
theorem s17_51 {l0 : Nat} {l1 : Nat} {l2 : Nat} {l3 : Int} {l4 : AV} {x0 : Nat} {x1 : Nat} : WP m17 51 [.inr (.inl l0), .inr (.inl l1), .inr (.inl l2), .inl l3, l4] [.inr (.inl x1), .inr (.inl x0)] σ Q = WP m17 52 [.inr (.inl l0), .inr (.inl l1), .inr (.inl l2), .inl l3, l4] [.inl l3, .inr (.inl x1), .inr (.inl x0)] σ Q := w_ld d17_51 rfl
theorem d17_52 : adec m17 52 = some (.invokevirtual 44, 3) := by decide +kernel
theorem s17_52 {l0 : Nat} {l1 : Nat} {l2 : Nat} {l3 : Int} {l4 : AV} {x0 : Nat} {x1 : Nat} {x2 : Int} : WP m17 52 [.inr (.inl l0), .inr (.inl l1), .inr (.inl l2), .inl l3, l4] [.inl x2, .inr (.inl x1), .inr (.inl x0)] σ Q = (isO x1 3 ∧ CA m30 [.inr (.inl x1), .inl x2] σ (fun v σ2 => WP m17 55 [.inr (.inl l0), .inr (.inl l1), .inr (.inl l2), .inl l3, l4] (v ++ [.inr (.inl x0)]) σ2 Q)) := w_cV (k := 30) d17_52 (by decide +kernel) m30_at rfl rfl ⟨Nat.le_of_ble_eq_true rfl, Nat.le_of_ble_eq_true rfl, Nat.le_of_ble_eq_true rfl⟩ (by decide)
theorem d17_55 : adec m17 55 = some (.aload_n 2, 1) := by decide +kernel
theorem s17_55 {l0 : Nat} {l1 : Nat} {l2 : Nat} {l3 : Int} {l4 : AV} {x0 : Nat} {x1 : Int} : WP m17 55 [.inr (.inl l0), .inr (.inl l1), .inr (.inl l2), .inl l3, l4] [.inl x1, .inr (.inl x0)] σ Q = WP m17 56 [.inr (.inl l0), .inr (.inl l1), .inr (.inl l2), .inl l3, l4] [.inr (.inl l2), .inl x1, .inr (.inl x0)] σ Q := w_ld d17_55 rfl
theorem d17_56 : adec m17 56 = some (.invokevirtual 48, 3) := by decide +kernel
theorem s17_56 {l0 : Nat} {l1 : Nat} {l2 : Nat} {l3 : Int} {l4 : AV} {x1 : Int} {x2 : Nat} : WP m17 56 [.inr (.inl l0), .inr (.inl l1), .inr (.inl l2), .inl l3, l4] [.inr (.inl x2), .inl x1, .inr (.inl 55)] σ Q = CA m18 [.inr (.inl 55), .inl x1, .inr (.inl x2)] σ (fun v σ2 => WP m17 59 [.inr (.inl l0), .inr (.inl l1), .inr (.inl l2), .inl l3, l4] (v ++ []) σ2 Q) := (w_cV (k := 18) d17_56 (by decide +kernel) m18_at rfl rfl ⟨Nat.le_of_ble_eq_true rfl, Nat.le_of_ble_eq_true rfl, Nat.le_of_ble_eq_true rfl⟩ (by decide)).trans (g_and (isO_dec (by decide +kernel)))
theorem d17_59 : adec m17 59 = some (.istore 4, 2) := by decide +kernel
theorem s17_59 {l0 : Nat} {l1 : Nat} {l2 : Nat} {l3 : Int} {l4 : AV} {x0 : Int} : WP m17 59 [.inr (.inl l0), .inr (.inl l1), .inr (.inl l2), .inl l3, l4] [.inl x0] σ Q = WP m17 61 [.inr (.inl l0), .inr (.inl l1), .inr (.inl l2), .inl l3, .inl x0] [] σ Q := w_st1 (j := 4) d17_59 rfl (Nat.le_of_ble_eq_true rfl) rfl
theorem d17_61 : adec m17 61 = some (.iload 4, 2) := by decide +kernel
theorem s17_61 {l0 : Nat} {l1 : Nat} {l2 : Nat} {l3 : Int} {l4 : Int} : WP m17 61 [.inr (.inl l0), .inr (.inl l1), .inr (.inl l2), .inl l3, .inl l4] [] σ Q = WP m17 63 [.inr (.inl l0), .inr (.inl l1), .inr (.inl l2), .inl l3, .inl l4] [.inl l4] σ Q := w_ld d17_61 rfl
theorem d17_63 : adec m17 63 = some (.ifCond .eq (6), 3) := by decide +kernel
theorem s17_63 {l0 : Nat} {l1 : Nat} {l2 : Nat} {l3 : Int} {l4 : Int} {x0 : Int} : WP m17 63 [.inr (.inl l0), .inr (.inl l1), .inr (.inl l2), .inl l3, .inl l4] [.inl x0] σ Q = (if x0 = 0 then WP m17 69 [.inr (.inl l0), .inr (.inl l1), .inr (.inl l2), .inl l3, .inl l4] [] σ Q else WP m17 66 [.inr (.inl l0), .inr (.inl l1), .inr (.inl l2), .inl l3, .inl l4] [] σ Q) := w_ifeq d17_63 (by decide)
theorem d17_66 : adec m17 66 = some (.iload 4, 2) := by decide +kernel
theorem s17_66 {l0 : Nat} {l1 : Nat} {l2 : Nat} {l3 : Int} {l4 : Int} : WP m17 66 [.inr (.inl l0), .inr (.inl l1), .inr (.inl l2), .inl l3, .inl l4] [] σ Q = WP m17 68 [.inr (.inl l0), .inr (.inl l1), .inr (.inl l2), .inl l3, .inl l4] [.inl l4] σ Q := w_ld d17_66 rfl
theorem d17_68 : adec m17 68 = some (.ireturn, 1) := by decide +kernel
theorem s17_68 {l0 : Nat} {l1 : Nat} {l2 : Nat} {l3 : Int} {l4 : Int} {x0 : Int} : WP m17 68 [.inr (.inl l0), .inr (.inl l1), .inr (.inl l2), .inl l3, .inl l4] [.inl x0] σ Q = Q [.inl x0] σ := w_ri d17_68 rfl
theorem d17_69 : adec m17 69 = some (.iinc 3 (1), 3) := by decide +kernel
theorem s17_69 {l0 : Nat} {l1 : Nat} {l2 : Nat} {l3 : Int} {l4 : Int} : WP m17 69 [.inr (.inl l0), .inr (.inl l1), .inr (.inl l2), .inl l3, .inl l4] [] σ Q = (inI (l3 + (1)) ∧ WP m17 72 [.inr (.inl l0), .inr (.inl l1), .inr (.inl l2), .inl (l3 + (1)), .inl l4] [] σ Q) := w_iinc d17_69 rfl rfl
theorem d17_72 : adec m17 72 = some (.goto (-36), 3) := by decide +kernel
theorem s17_72 {l0 : Nat} {l1 : Nat} {l2 : Nat} {l3 : Int} {l4 : Int} : WP m17 72 [.inr (.inl l0), .inr (.inl l1), .inr (.inl l2), .inl l3, .inl l4] [] σ Q = WP m17 36 [.inr (.inl l0), .inr (.inl l1), .inr (.inl l2), .inl l3, .inl l4] [] σ Q := w_goto d17_72 (by decide)
theorem d17_75 : adec m17 75 = some (.aload_n 0, 1) := by decide +kernel
theorem s17_75 {l0 : Nat} {l1 : Nat} {l2 : Nat} {l3 : Int} {l4 : AV} : WP m17 75 [.inr (.inl l0), .inr (.inl l1), .inr (.inl l2), .inl l3, l4] [] σ Q = WP m17 76 [.inr (.inl l0), .inr (.inl l1), .inr (.inl l2), .inl l3, l4] [.inr (.inl l0)] σ Q := w_ld d17_75 rfl
theorem d17_76 : adec m17 76 = some (.aload_n 1, 1) := by decide +kernel
theorem s17_76 {l0 : Nat} {l1 : Nat} {l2 : Nat} {l3 : Int} {l4 : AV} {x0 : Nat} : WP m17 76 [.inr (.inl l0), .inr (.inl l1), .inr (.inl l2), .inl l3, l4] [.inr (.inl x0)] σ Q = WP m17 77 [.inr (.inl l0), .inr (.inl l1), .inr (.inl l2), .inl l3, l4] [.inr (.inl l1), .inr (.inl x0)] σ Q := w_ld d17_76 rfl
theorem d17_77 : adec m17 77 = some (.invokevirtual 40, 3) := by decide +kernel
theorem s17_77 {l0 : Nat} {l1 : Nat} {l2 : Nat} {l3 : Int} {l4 : AV} {x0 : Nat} {x1 : Nat} : WP m17 77 [.inr (.inl l0), .inr (.inl l1), .inr (.inl l2), .inl l3, l4] [.inr (.inl x1), .inr (.inl x0)] σ Q = (isO x1 3 ∧ CA m28 [.inr (.inl x1)] σ (fun v σ2 => WP m17 80 [.inr (.inl l0), .inr (.inl l1), .inr (.inl l2), .inl l3, l4] (v ++ [.inr (.inl x0)]) σ2 Q)) := w_cV (k := 28) d17_77 (by decide +kernel) m28_at rfl rfl ⟨Nat.le_of_ble_eq_true rfl, Nat.le_of_ble_eq_true rfl, Nat.le_of_ble_eq_true rfl⟩ (by decide)
theorem d17_80 : adec m17 80 = some (.putfield 23, 3) := by decide +kernel
theorem s17_80 {l0 : Nat} {l1 : Nat} {l2 : Nat} {l3 : Int} {l4 : AV} {x1 : Int} : WP m17 80 [.inr (.inl l0), .inr (.inl l1), .inr (.inl l2), .inl l3, l4] [.inl x1, .inr (.inl 55)] σ Q = WP m17 83 [.inr (.inl l0), .inr (.inl l1), .inr (.inl l2), .inl l3, l4] [] (aup σ 55 4 x1) Q := (w_putI (c := 2) (n := 4) d17_80 (by decide +kernel) (by decide +kernel) (by decide +kernel)).trans (g_and (isO_dec (by decide +kernel)))
theorem d17_83 : adec m17 83 = some (.aload_n 0, 1) := by decide +kernel
theorem s17_83 {l0 : Nat} {l1 : Nat} {l2 : Nat} {l3 : Int} {l4 : AV} : WP m17 83 [.inr (.inl l0), .inr (.inl l1), .inr (.inl l2), .inl l3, l4] [] σ Q = WP m17 84 [.inr (.inl l0), .inr (.inl l1), .inr (.inl l2), .inl l3, l4] [.inr (.inl l0)] σ Q := w_ld d17_83 rfl
theorem d17_84 : adec m17 84 = some (.getfield 33, 3) := by decide +kernel
theorem s17_84 {l0 : Nat} {l1 : Nat} {l2 : Nat} {l3 : Int} {l4 : AV} : WP m17 84 [.inr (.inl l0), .inr (.inl l1), .inr (.inl l2), .inl l3, l4] [.inr (.inl 55)] σ Q = WP m17 87 [.inr (.inl l0), .inr (.inl l1), .inr (.inl l2), .inl l3, l4] [.inl (σ 55 3)] σ Q := (w_getI (c := 2) (n := 3) d17_84 (by decide +kernel) (by decide +kernel)).trans (g_and (isO_dec (by decide +kernel)))
theorem d17_87 : adec m17 87 = some (.ifCond .ne (22), 3) := by decide +kernel
theorem s17_87 {l0 : Nat} {l1 : Nat} {l2 : Nat} {l3 : Int} {l4 : AV} {x0 : Int} : WP m17 87 [.inr (.inl l0), .inr (.inl l1), .inr (.inl l2), .inl l3, l4] [.inl x0] σ Q = (if x0 = 0 then WP m17 90 [.inr (.inl l0), .inr (.inl l1), .inr (.inl l2), .inl l3, l4] [] σ Q else WP m17 109 [.inr (.inl l0), .inr (.inl l1), .inr (.inl l2), .inl l3, l4] [] σ Q) := w_ifne d17_87 (by decide)
theorem d17_90 : adec m17 90 = some (.aload_n 0, 1) := by decide +kernel
theorem s17_90 {l0 : Nat} {l1 : Nat} {l2 : Nat} {l3 : Int} {l4 : AV} : WP m17 90 [.inr (.inl l0), .inr (.inl l1), .inr (.inl l2), .inl l3, l4] [] σ Q = WP m17 91 [.inr (.inl l0), .inr (.inl l1), .inr (.inl l2), .inl l3, l4] [.inr (.inl l0)] σ Q := w_ld d17_90 rfl
theorem d17_91 : adec m17 91 = some (.getfield 30, 3) := by decide +kernel
theorem s17_91 {l0 : Nat} {l1 : Nat} {l2 : Nat} {l3 : Int} {l4 : AV} : WP m17 91 [.inr (.inl l0), .inr (.inl l1), .inr (.inl l2), .inl l3, l4] [.inr (.inl 55)] σ Q = WP m17 94 [.inr (.inl l0), .inr (.inl l1), .inr (.inl l2), .inl l3, l4] [.inl (σ 55 2)] σ Q := (w_getI (c := 2) (n := 2) d17_91 (by decide +kernel) (by decide +kernel)).trans (g_and (isO_dec (by decide +kernel)))
theorem d17_94 : adec m17 94 = some (.ifCond .ne (15), 3) := by decide +kernel
theorem s17_94 {l0 : Nat} {l1 : Nat} {l2 : Nat} {l3 : Int} {l4 : AV} {x0 : Int} : WP m17 94 [.inr (.inl l0), .inr (.inl l1), .inr (.inl l2), .inl l3, l4] [.inl x0] σ Q = (if x0 = 0 then WP m17 97 [.inr (.inl l0), .inr (.inl l1), .inr (.inl l2), .inl l3, l4] [] σ Q else WP m17 109 [.inr (.inl l0), .inr (.inl l1), .inr (.inl l2), .inl l3, l4] [] σ Q) := w_ifne d17_94 (by decide)
theorem d17_97 : adec m17 97 = some (.aload_n 0, 1) := by decide +kernel
theorem s17_97 {l0 : Nat} {l1 : Nat} {l2 : Nat} {l3 : Int} {l4 : AV} : WP m17 97 [.inr (.inl l0), .inr (.inl l1), .inr (.inl l2), .inl l3, l4] [] σ Q = WP m17 98 [.inr (.inl l0), .inr (.inl l1), .inr (.inl l2), .inl l3, l4] [.inr (.inl l0)] σ Q := w_ld d17_97 rfl
theorem d17_98 : adec m17 98 = some (.aload_n 2, 1) := by decide +kernel
theorem s17_98 {l0 : Nat} {l1 : Nat} {l2 : Nat} {l3 : Int} {l4 : AV} {x0 : Nat} : WP m17 98 [.inr (.inl l0), .inr (.inl l1), .inr (.inl l2), .inl l3, l4] [.inr (.inl x0)] σ Q = WP m17 99 [.inr (.inl l0), .inr (.inl l1), .inr (.inl l2), .inl l3, l4] [.inr (.inl l2), .inr (.inl x0)] σ Q := w_ld d17_98 rfl
theorem d17_99 : adec m17 99 = some (.invokevirtual 52, 3) := by decide +kernel
theorem s17_99 {l0 : Nat} {l1 : Nat} {l2 : Nat} {l3 : Int} {l4 : AV} {x1 : Nat} : WP m17 99 [.inr (.inl l0), .inr (.inl l1), .inr (.inl l2), .inl l3, l4] [.inr (.inl x1), .inr (.inl 55)] σ Q = CA m25 [.inr (.inl 55), .inr (.inl x1)] σ (fun v σ2 => WP m17 102 [.inr (.inl l0), .inr (.inl l1), .inr (.inl l2), .inl l3, l4] (v ++ []) σ2 Q) := (w_cV (k := 25) d17_99 (by decide +kernel) m25_at rfl rfl ⟨Nat.le_of_ble_eq_true rfl, Nat.le_of_ble_eq_true rfl, Nat.le_of_ble_eq_true rfl⟩ (by decide)).trans (g_and (isO_dec (by decide +kernel)))
theorem d17_102 : adec m17 102 = some (.ifCond .eq (7), 3) := by decide +kernel
theorem s17_102 {l0 : Nat} {l1 : Nat} {l2 : Nat} {l3 : Int} {l4 : AV} {x0 : Int} : WP m17 102 [.inr (.inl l0), .inr (.inl l1), .inr (.inl l2), .inl l3, l4] [.inl x0] σ Q = (if x0 = 0 then WP m17 109 [.inr (.inl l0), .inr (.inl l1), .inr (.inl l2), .inl l3, l4] [] σ Q else WP m17 105 [.inr (.inl l0), .inr (.inl l1), .inr (.inl l2), .inl l3, l4] [] σ Q) := w_ifeq d17_102 (by decide)
theorem d17_105 : adec m17 105 = some (.iconst (1), 1) := by decide +kernel
theorem s17_105 {l0 : Nat} {l1 : Nat} {l2 : Nat} {l3 : Int} {l4 : AV} : WP m17 105 [.inr (.inl l0), .inr (.inl l1), .inr (.inl l2), .inl l3, l4] [] σ Q = WP m17 106 [.inr (.inl l0), .inr (.inl l1), .inr (.inl l2), .inl l3, l4] [.inl (1)] σ Q := w_iconst d17_105 (by decide)
theorem d17_106 : adec m17 106 = some (.goto (4), 3) := by decide +kernel
theorem s17_106 {l0 : Nat} {l1 : Nat} {l2 : Nat} {l3 : Int} {l4 : AV} {x0 : Int} : WP m17 106 [.inr (.inl l0), .inr (.inl l1), .inr (.inl l2), .inl l3, l4] [.inl x0] σ Q = WP m17 110 [.inr (.inl l0), .inr (.inl l1), .inr (.inl l2), .inl l3, l4] [.inl x0] σ Q := w_goto d17_106 (by decide)
theorem d17_109 : adec m17 109 = some (.iconst (0), 1) := by decide +kernel
theorem s17_109 {l0 : Nat} {l1 : Nat} {l2 : Nat} {l3 : Int} {l4 : AV} : WP m17 109 [.inr (.inl l0), .inr (.inl l1), .inr (.inl l2), .inl l3, l4] [] σ Q = WP m17 110 [.inr (.inl l0), .inr (.inl l1), .inr (.inl l2), .inl l3, l4] [.inl (0)] σ Q := w_iconst d17_109 (by decide)
theorem d17_110 : adec m17 110 = some (.istore_n 3, 1) := by decide +kernel
theorem s17_110 {l0 : Nat} {l1 : Nat} {l2 : Nat} {l3 : Int} {l4 : AV} {x0 : Int} : WP m17 110 [.inr (.inl l0), .inr (.inl l1), .inr (.inl l2), .inl l3, l4] [.inl x0] σ Q = WP m17 111 [.inr (.inl l0), .inr (.inl l1), .inr (.inl l2), .inl x0, l4] [] σ Q := w_st1 (j := 3) d17_110 rfl (Nat.le_of_ble_eq_true rfl) rfl
theorem d17_111 : adec m17 111 = some (.iload_n 3, 1) := by decide +kernel
theorem s17_111 {l0 : Nat} {l1 : Nat} {l2 : Nat} {l3 : Int} {l4 : AV} : WP m17 111 [.inr (.inl l0), .inr (.inl l1), .inr (.inl l2), .inl l3, l4] [] σ Q = WP m17 112 [.inr (.inl l0), .inr (.inl l1), .inr (.inl l2), .inl l3, l4] [.inl l3] σ Q := w_ld d17_111 rfl
theorem d17_112 : adec m17 112 = some (.ifCond .eq (7), 3) := by decide +kernel
theorem s17_112 {l0 : Nat} {l1 : Nat} {l2 : Nat} {l3 : Int} {l4 : AV} {x0 : Int} : WP m17 112 [.inr (.inl l0), .inr (.inl l1), .inr (.inl l2), .inl l3, l4] [.inl x0] σ Q = (if x0 = 0 then WP m17 119 [.inr (.inl l0), .inr (.inl l1), .inr (.inl l2), .inl l3, l4] [] σ Q else WP m17 115 [.inr (.inl l0), .inr (.inl l1), .inr (.inl l2), .inl l3, l4] [] σ Q) := w_ifeq d17_112 (by decide)
theorem d17_115 : adec m17 115 = some (.iconst (0), 1) := by decide +kernel
theorem s17_115 {l0 : Nat} {l1 : Nat} {l2 : Nat} {l3 : Int} {l4 : AV} : WP m17 115 [.inr (.inl l0), .inr (.inl l1), .inr (.inl l2), .inl l3, l4] [] σ Q = WP m17 116 [.inr (.inl l0), .inr (.inl l1), .inr (.inl l2), .inl l3, l4] [.inl (0)] σ Q := w_iconst d17_115 (by decide)
theorem d17_116 : adec m17 116 = some (.goto (4), 3) := by decide +kernel
theorem s17_116 {l0 : Nat} {l1 : Nat} {l2 : Nat} {l3 : Int} {l4 : AV} {x0 : Int} : WP m17 116 [.inr (.inl l0), .inr (.inl l1), .inr (.inl l2), .inl l3, l4] [.inl x0] σ Q = WP m17 120 [.inr (.inl l0), .inr (.inl l1), .inr (.inl l2), .inl l3, l4] [.inl x0] σ Q := w_goto d17_116 (by decide)
theorem d17_119 : adec m17 119 = some (.iconst (1), 1) := by decide +kernel
theorem s17_119 {l0 : Nat} {l1 : Nat} {l2 : Nat} {l3 : Int} {l4 : AV} : WP m17 119 [.inr (.inl l0), .inr (.inl l1), .inr (.inl l2), .inl l3, l4] [] σ Q = WP m17 120 [.inr (.inl l0), .inr (.inl l1), .inr (.inl l2), .inl l3, l4] [.inl (1)] σ Q := w_iconst d17_119 (by decide)
theorem d17_120 : adec m17 120 = some (.ireturn, 1) := by decide +kernel
theorem s17_120 {l0 : Nat} {l1 : Nat} {l2 : Nat} {l3 : Int} {l4 : AV} {x0 : Int} : WP m17 120 [.inr (.inl l0), .inr (.inl l1), .inr (.inl l2), .inl l3, l4] [.inl x0] σ Q = Q [.inl x0] σ := w_ri d17_120 rfl
theorem e17 {p0 : Nat} {p1 : Nat} {p2 : Nat} : CA m17 [.inr (.inl p0), .inr (.inl p1), .inr (.inl p2)] σ Q = WP m17 0 [.inr (.inl p0), .inr (.inl p1), .inr (.inl p2), vU, vU] [] σ Q := rfl
-- BinderPress$Reader.readLetter(ILBinderPress$Row;)I
theorem d18_0 : adec m18 0 = some (.iload_n 1, 1) := by decide +kernel
theorem s18_0 {l0 : Nat} {l1 : Int} {l2 : Nat} {l3 : AV} : WP m18 0 [.inr (.inl l0), .inl l1, .inr (.inl l2), l3] [] σ Q = WP m18 1 [.inr (.inl l0), .inl l1, .inr (.inl l2), l3] [.inl l1] σ Q := w_ld d18_0 rfl
theorem d18_1 : adec m18 1 = some (.bipush (32), 2) := by decide +kernel
theorem s18_1 {l0 : Nat} {l1 : Int} {l2 : Nat} {l3 : AV} {x0 : Int} : WP m18 1 [.inr (.inl l0), .inl l1, .inr (.inl l2), l3] [.inl x0] σ Q = WP m18 3 [.inr (.inl l0), .inl l1, .inr (.inl l2), l3] [.inl (32), .inl x0] σ Q := w_bipush d18_1 (by decide)
theorem d18_3 : adec m18 3 = some (.if_icmp .ne (5), 3) := by decide +kernel
theorem s18_3 {l0 : Nat} {l1 : Int} {l2 : Nat} {l3 : AV} {x0 : Int} {x1 : Int} : WP m18 3 [.inr (.inl l0), .inl l1, .inr (.inl l2), l3] [.inl x1, .inl x0] σ Q = (if x0 = x1 then WP m18 6 [.inr (.inl l0), .inl l1, .inr (.inl l2), l3] [] σ Q else WP m18 8 [.inr (.inl l0), .inl l1, .inr (.inl l2), l3] [] σ Q) := w_icne d18_3 (by decide)
theorem d18_6 : adec m18 6 = some (.iconst (0), 1) := by decide +kernel
theorem s18_6 {l0 : Nat} {l1 : Int} {l2 : Nat} {l3 : AV} : WP m18 6 [.inr (.inl l0), .inl l1, .inr (.inl l2), l3] [] σ Q = WP m18 7 [.inr (.inl l0), .inl l1, .inr (.inl l2), l3] [.inl (0)] σ Q := w_iconst d18_6 (by decide)
theorem d18_7 : adec m18 7 = some (.ireturn, 1) := by decide +kernel
theorem s18_7 {l0 : Nat} {l1 : Int} {l2 : Nat} {l3 : AV} {x0 : Int} : WP m18 7 [.inr (.inl l0), .inl l1, .inr (.inl l2), l3] [.inl x0] σ Q = Q [.inl x0] σ := w_ri d18_7 rfl
theorem d18_8 : adec m18 8 = some (.aload_n 0, 1) := by decide +kernel
theorem s18_8 {l0 : Nat} {l1 : Int} {l2 : Nat} {l3 : AV} : WP m18 8 [.inr (.inl l0), .inl l1, .inr (.inl l2), l3] [] σ Q = WP m18 9 [.inr (.inl l0), .inl l1, .inr (.inl l2), l3] [.inr (.inl l0)] σ Q := w_ld d18_8 rfl
theorem d18_9 : adec m18 9 = some (.getfield 33, 3) := by decide +kernel
theorem s18_9 {l0 : Nat} {l1 : Int} {l2 : Nat} {l3 : AV} : WP m18 9 [.inr (.inl l0), .inl l1, .inr (.inl l2), l3] [.inr (.inl 55)] σ Q = WP m18 12 [.inr (.inl l0), .inl l1, .inr (.inl l2), l3] [.inl (σ 55 3)] σ Q := (w_getI (c := 2) (n := 3) d18_9 (by decide +kernel) (by decide +kernel)).trans (g_and (isO_dec (by decide +kernel)))
theorem d18_12 : adec m18 12 = some (.iconst (1), 1) := by decide +kernel
theorem s18_12 {l0 : Nat} {l1 : Int} {l2 : Nat} {l3 : AV} {x0 : Int} : WP m18 12 [.inr (.inl l0), .inl l1, .inr (.inl l2), l3] [.inl x0] σ Q = WP m18 13 [.inr (.inl l0), .inl l1, .inr (.inl l2), l3] [.inl (1), .inl x0] σ Q := w_iconst d18_12 (by decide)
theorem d18_13 : adec m18 13 = some (.if_icmp .ne (10), 3) := by decide +kernel
theorem s18_13 {l0 : Nat} {l1 : Int} {l2 : Nat} {l3 : AV} {x0 : Int} {x1 : Int} : WP m18 13 [.inr (.inl l0), .inl l1, .inr (.inl l2), l3] [.inl x1, .inl x0] σ Q = (if x0 = x1 then WP m18 16 [.inr (.inl l0), .inl l1, .inr (.inl l2), l3] [] σ Q else WP m18 23 [.inr (.inl l0), .inl l1, .inr (.inl l2), l3] [] σ Q) := w_icne d18_13 (by decide)
theorem d18_16 : adec m18 16 = some (.aload_n 0, 1) := by decide +kernel
theorem s18_16 {l0 : Nat} {l1 : Int} {l2 : Nat} {l3 : AV} : WP m18 16 [.inr (.inl l0), .inl l1, .inr (.inl l2), l3] [] σ Q = WP m18 17 [.inr (.inl l0), .inl l1, .inr (.inl l2), l3] [.inr (.inl l0)] σ Q := w_ld d18_16 rfl
theorem d18_17 : adec m18 17 = some (.iload_n 1, 1) := by decide +kernel
theorem s18_17 {l0 : Nat} {l1 : Int} {l2 : Nat} {l3 : AV} {x0 : Nat} : WP m18 17 [.inr (.inl l0), .inl l1, .inr (.inl l2), l3] [.inr (.inl x0)] σ Q = WP m18 18 [.inr (.inl l0), .inl l1, .inr (.inl l2), l3] [.inl l1, .inr (.inl x0)] σ Q := w_ld d18_17 rfl
theorem d18_18 : adec m18 18 = some (.aload_n 2, 1) := by decide +kernel
theorem s18_18 {l0 : Nat} {l1 : Int} {l2 : Nat} {l3 : AV} {x0 : Nat} {x1 : Int} : WP m18 18 [.inr (.inl l0), .inl l1, .inr (.inl l2), l3] [.inl x1, .inr (.inl x0)] σ Q = WP m18 19 [.inr (.inl l0), .inl l1, .inr (.inl l2), l3] [.inr (.inl l2), .inl x1, .inr (.inl x0)] σ Q := w_ld d18_18 rfl
theorem d18_19 : adec m18 19 = some (.invokevirtual 56, 3) := by decide +kernel
theorem s18_19 {l0 : Nat} {l1 : Int} {l2 : Nat} {l3 : AV} {x1 : Int} {x2 : Nat} : WP m18 19 [.inr (.inl l0), .inl l1, .inr (.inl l2), l3] [.inr (.inl x2), .inl x1, .inr (.inl 55)] σ Q = CA m19 [.inr (.inl 55), .inl x1, .inr (.inl x2)] σ (fun v σ2 => WP m18 22 [.inr (.inl l0), .inl l1, .inr (.inl l2), l3] (v ++ []) σ2 Q) := (w_cV (k := 19) d18_19 (by decide +kernel) m19_at rfl rfl ⟨Nat.le_of_ble_eq_true rfl, Nat.le_of_ble_eq_true rfl, Nat.le_of_ble_eq_true rfl⟩ (by decide)).trans (g_and (isO_dec (by decide +kernel)))
theorem d18_22 : adec m18 22 = some (.ireturn, 1) := by decide +kernel
theorem s18_22 {l0 : Nat} {l1 : Int} {l2 : Nat} {l3 : AV} {x0 : Int} : WP m18 22 [.inr (.inl l0), .inl l1, .inr (.inl l2), l3] [.inl x0] σ Q = Q [.inl x0] σ := w_ri d18_22 rfl
theorem d18_23 : adec m18 23 = some (.aload_n 0, 1) := by decide +kernel
theorem s18_23 {l0 : Nat} {l1 : Int} {l2 : Nat} {l3 : AV} : WP m18 23 [.inr (.inl l0), .inl l1, .inr (.inl l2), l3] [] σ Q = WP m18 24 [.inr (.inl l0), .inl l1, .inr (.inl l2), l3] [.inr (.inl l0)] σ Q := w_ld d18_23 rfl
theorem d18_24 : adec m18 24 = some (.getfield 33, 3) := by decide +kernel
theorem s18_24 {l0 : Nat} {l1 : Int} {l2 : Nat} {l3 : AV} : WP m18 24 [.inr (.inl l0), .inl l1, .inr (.inl l2), l3] [.inr (.inl 55)] σ Q = WP m18 27 [.inr (.inl l0), .inl l1, .inr (.inl l2), l3] [.inl (σ 55 3)] σ Q := (w_getI (c := 2) (n := 3) d18_24 (by decide +kernel) (by decide +kernel)).trans (g_and (isO_dec (by decide +kernel)))
theorem d18_27 : adec m18 27 = some (.iconst (2), 1) := by decide +kernel
theorem s18_27 {l0 : Nat} {l1 : Int} {l2 : Nat} {l3 : AV} {x0 : Int} : WP m18 27 [.inr (.inl l0), .inl l1, .inr (.inl l2), l3] [.inl x0] σ Q = WP m18 28 [.inr (.inl l0), .inl l1, .inr (.inl l2), l3] [.inl (2), .inl x0] σ Q := w_iconst d18_27 (by decide)
theorem d18_28 : adec m18 28 = some (.if_icmp .ne (10), 3) := by decide +kernel
theorem s18_28 {l0 : Nat} {l1 : Int} {l2 : Nat} {l3 : AV} {x0 : Int} {x1 : Int} : WP m18 28 [.inr (.inl l0), .inl l1, .inr (.inl l2), l3] [.inl x1, .inl x0] σ Q = (if x0 = x1 then WP m18 31 [.inr (.inl l0), .inl l1, .inr (.inl l2), l3] [] σ Q else WP m18 38 [.inr (.inl l0), .inl l1, .inr (.inl l2), l3] [] σ Q) := w_icne d18_28 (by decide)
theorem d18_31 : adec m18 31 = some (.aload_n 0, 1) := by decide +kernel
theorem s18_31 {l0 : Nat} {l1 : Int} {l2 : Nat} {l3 : AV} : WP m18 31 [.inr (.inl l0), .inl l1, .inr (.inl l2), l3] [] σ Q = WP m18 32 [.inr (.inl l0), .inl l1, .inr (.inl l2), l3] [.inr (.inl l0)] σ Q := w_ld d18_31 rfl
theorem d18_32 : adec m18 32 = some (.iload_n 1, 1) := by decide +kernel
theorem s18_32 {l0 : Nat} {l1 : Int} {l2 : Nat} {l3 : AV} {x0 : Nat} : WP m18 32 [.inr (.inl l0), .inl l1, .inr (.inl l2), l3] [.inr (.inl x0)] σ Q = WP m18 33 [.inr (.inl l0), .inl l1, .inr (.inl l2), l3] [.inl l1, .inr (.inl x0)] σ Q := w_ld d18_32 rfl
theorem d18_33 : adec m18 33 = some (.aload_n 2, 1) := by decide +kernel
theorem s18_33 {l0 : Nat} {l1 : Int} {l2 : Nat} {l3 : AV} {x0 : Nat} {x1 : Int} : WP m18 33 [.inr (.inl l0), .inl l1, .inr (.inl l2), l3] [.inl x1, .inr (.inl x0)] σ Q = WP m18 34 [.inr (.inl l0), .inl l1, .inr (.inl l2), l3] [.inr (.inl l2), .inl x1, .inr (.inl x0)] σ Q := w_ld d18_33 rfl
theorem d18_34 : adec m18 34 = some (.invokevirtual 59, 3) := by decide +kernel
theorem s18_34 {l0 : Nat} {l1 : Int} {l2 : Nat} {l3 : AV} {x1 : Int} {x2 : Nat} : WP m18 34 [.inr (.inl l0), .inl l1, .inr (.inl l2), l3] [.inr (.inl x2), .inl x1, .inr (.inl 55)] σ Q = CA m20 [.inr (.inl 55), .inl x1, .inr (.inl x2)] σ (fun v σ2 => WP m18 37 [.inr (.inl l0), .inl l1, .inr (.inl l2), l3] (v ++ []) σ2 Q) := (w_cV (k := 20) d18_34 (by decide +kernel) m20_at rfl rfl ⟨Nat.le_of_ble_eq_true rfl, Nat.le_of_ble_eq_true rfl, Nat.le_of_ble_eq_true rfl⟩ (by decide)).trans (g_and (isO_dec (by decide +kernel)))
theorem d18_37 : adec m18 37 = some (.ireturn, 1) := by decide +kernel
theorem s18_37 {l0 : Nat} {l1 : Int} {l2 : Nat} {l3 : AV} {x0 : Int} : WP m18 37 [.inr (.inl l0), .inl l1, .inr (.inl l2), l3] [.inl x0] σ Q = Q [.inl x0] σ := w_ri d18_37 rfl
theorem d18_38 : adec m18 38 = some (.iload_n 1, 1) := by decide +kernel
theorem s18_38 {l0 : Nat} {l1 : Int} {l2 : Nat} {l3 : AV} : WP m18 38 [.inr (.inl l0), .inl l1, .inr (.inl l2), l3] [] σ Q = WP m18 39 [.inr (.inl l0), .inl l1, .inr (.inl l2), l3] [.inl l1] σ Q := w_ld d18_38 rfl
theorem d18_39 : adec m18 39 = some (.bipush (41), 2) := by decide +kernel
theorem s18_39 {l0 : Nat} {l1 : Int} {l2 : Nat} {l3 : AV} {x0 : Int} : WP m18 39 [.inr (.inl l0), .inl l1, .inr (.inl l2), l3] [.inl x0] σ Q = WP m18 41 [.inr (.inl l0), .inl l1, .inr (.inl l2), l3] [.inl (41), .inl x0] σ Q := w_bipush d18_39 (by decide)
theorem d18_41 : adec m18 41 = some (.if_icmp .ne (9), 3) := by decide +kernel
theorem s18_41 {l0 : Nat} {l1 : Int} {l2 : Nat} {l3 : AV} {x0 : Int} {x1 : Int} : WP m18 41 [.inr (.inl l0), .inl l1, .inr (.inl l2), l3] [.inl x1, .inl x0] σ Q = (if x0 = x1 then WP m18 44 [.inr (.inl l0), .inl l1, .inr (.inl l2), l3] [] σ Q else WP m18 50 [.inr (.inl l0), .inl l1, .inr (.inl l2), l3] [] σ Q) := w_icne d18_41 (by decide)
theorem d18_44 : adec m18 44 = some (.aload_n 0, 1) := by decide +kernel
theorem s18_44 {l0 : Nat} {l1 : Int} {l2 : Nat} {l3 : AV} : WP m18 44 [.inr (.inl l0), .inl l1, .inr (.inl l2), l3] [] σ Q = WP m18 45 [.inr (.inl l0), .inl l1, .inr (.inl l2), l3] [.inr (.inl l0)] σ Q := w_ld d18_44 rfl
theorem d18_45 : adec m18 45 = some (.aload_n 2, 1) := by decide +kernel
theorem s18_45 {l0 : Nat} {l1 : Int} {l2 : Nat} {l3 : AV} {x0 : Nat} : WP m18 45 [.inr (.inl l0), .inl l1, .inr (.inl l2), l3] [.inr (.inl x0)] σ Q = WP m18 46 [.inr (.inl l0), .inl l1, .inr (.inl l2), l3] [.inr (.inl l2), .inr (.inl x0)] σ Q := w_ld d18_45 rfl
theorem d18_46 : adec m18 46 = some (.invokevirtual 62, 3) := by decide +kernel
theorem s18_46 {l0 : Nat} {l1 : Int} {l2 : Nat} {l3 : AV} {x1 : Nat} : WP m18 46 [.inr (.inl l0), .inl l1, .inr (.inl l2), l3] [.inr (.inl x1), .inr (.inl 55)] σ Q = CA m22 [.inr (.inl 55), .inr (.inl x1)] σ (fun v σ2 => WP m18 49 [.inr (.inl l0), .inl l1, .inr (.inl l2), l3] (v ++ []) σ2 Q) := (w_cV (k := 22) d18_46 (by decide +kernel) m22_at rfl rfl ⟨Nat.le_of_ble_eq_true rfl, Nat.le_of_ble_eq_true rfl, Nat.le_of_ble_eq_true rfl⟩ (by decide)).trans (g_and (isO_dec (by decide +kernel)))
theorem d18_49 : adec m18 49 = some (.ireturn, 1) := by decide +kernel
theorem s18_49 {l0 : Nat} {l1 : Int} {l2 : Nat} {l3 : AV} {x0 : Int} : WP m18 49 [.inr (.inl l0), .inl l1, .inr (.inl l2), l3] [.inl x0] σ Q = Q [.inl x0] σ := w_ri d18_49 rfl
theorem d18_50 : adec m18 50 = some (.iload_n 1, 1) := by decide +kernel
theorem s18_50 {l0 : Nat} {l1 : Int} {l2 : Nat} {l3 : AV} : WP m18 50 [.inr (.inl l0), .inl l1, .inr (.inl l2), l3] [] σ Q = WP m18 51 [.inr (.inl l0), .inl l1, .inr (.inl l2), l3] [.inl l1] σ Q := w_ld d18_50 rfl
theorem d18_51 : adec m18 51 = some (.bipush (40), 2) := by decide +kernel
theorem s18_51 {l0 : Nat} {l1 : Int} {l2 : Nat} {l3 : AV} {x0 : Int} : WP m18 51 [.inr (.inl l0), .inl l1, .inr (.inl l2), l3] [.inl x0] σ Q = WP m18 53 [.inr (.inl l0), .inl l1, .inr (.inl l2), l3] [.inl (40), .inl x0] σ Q := w_bipush d18_51 (by decide)
theorem d18_53 : adec m18 53 = some (.if_icmp .ne (9), 3) := by decide +kernel
theorem s18_53 {l0 : Nat} {l1 : Int} {l2 : Nat} {l3 : AV} {x0 : Int} {x1 : Int} : WP m18 53 [.inr (.inl l0), .inl l1, .inr (.inl l2), l3] [.inl x1, .inl x0] σ Q = (if x0 = x1 then WP m18 56 [.inr (.inl l0), .inl l1, .inr (.inl l2), l3] [] σ Q else WP m18 62 [.inr (.inl l0), .inl l1, .inr (.inl l2), l3] [] σ Q) := w_icne d18_53 (by decide)
theorem d18_56 : adec m18 56 = some (.aload_n 0, 1) := by decide +kernel
theorem s18_56 {l0 : Nat} {l1 : Int} {l2 : Nat} {l3 : AV} : WP m18 56 [.inr (.inl l0), .inl l1, .inr (.inl l2), l3] [] σ Q = WP m18 57 [.inr (.inl l0), .inl l1, .inr (.inl l2), l3] [.inr (.inl l0)] σ Q := w_ld d18_56 rfl
theorem d18_57 : adec m18 57 = some (.aload_n 2, 1) := by decide +kernel
theorem s18_57 {l0 : Nat} {l1 : Int} {l2 : Nat} {l3 : AV} {x0 : Nat} : WP m18 57 [.inr (.inl l0), .inl l1, .inr (.inl l2), l3] [.inr (.inl x0)] σ Q = WP m18 58 [.inr (.inl l0), .inl l1, .inr (.inl l2), l3] [.inr (.inl l2), .inr (.inl x0)] σ Q := w_ld d18_57 rfl
theorem d18_58 : adec m18 58 = some (.invokevirtual 66, 3) := by decide +kernel
theorem s18_58 {l0 : Nat} {l1 : Int} {l2 : Nat} {l3 : AV} {x1 : Nat} : WP m18 58 [.inr (.inl l0), .inl l1, .inr (.inl l2), l3] [.inr (.inl x1), .inr (.inl 55)] σ Q = CA m21 [.inr (.inl 55), .inr (.inl x1)] σ (fun v σ2 => WP m18 61 [.inr (.inl l0), .inl l1, .inr (.inl l2), l3] (v ++ []) σ2 Q) := (w_cV (k := 21) d18_58 (by decide +kernel) m21_at rfl rfl ⟨Nat.le_of_ble_eq_true rfl, Nat.le_of_ble_eq_true rfl, Nat.le_of_ble_eq_true rfl⟩ (by decide)).trans (g_and (isO_dec (by decide +kernel)))
theorem d18_61 : adec m18 61 = some (.ireturn, 1) := by decide +kernel
theorem s18_61 {l0 : Nat} {l1 : Int} {l2 : Nat} {l3 : AV} {x0 : Int} : WP m18 61 [.inr (.inl l0), .inl l1, .inr (.inl l2), l3] [.inl x0] σ Q = Q [.inl x0] σ := w_ri d18_61 rfl
theorem d18_62 : adec m18 62 = some (.iload_n 1, 1) := by decide +kernel
theorem s18_62 {l0 : Nat} {l1 : Int} {l2 : Nat} {l3 : AV} : WP m18 62 [.inr (.inl l0), .inl l1, .inr (.inl l2), l3] [] σ Q = WP m18 63 [.inr (.inl l0), .inl l1, .inr (.inl l2), l3] [.inl l1] σ Q := w_ld d18_62 rfl
theorem d18_63 : adec m18 63 = some (.bipush (94), 2) := by decide +kernel
theorem s18_63 {l0 : Nat} {l1 : Int} {l2 : Nat} {l3 : AV} {x0 : Int} : WP m18 63 [.inr (.inl l0), .inl l1, .inr (.inl l2), l3] [.inl x0] σ Q = WP m18 65 [.inr (.inl l0), .inl l1, .inr (.inl l2), l3] [.inl (94), .inl x0] σ Q := w_bipush d18_63 (by decide)
theorem d18_65 : adec m18 65 = some (.if_icmp .ne (17), 3) := by decide +kernel
theorem s18_65 {l0 : Nat} {l1 : Int} {l2 : Nat} {l3 : AV} {x0 : Int} {x1 : Int} : WP m18 65 [.inr (.inl l0), .inl l1, .inr (.inl l2), l3] [.inl x1, .inl x0] σ Q = (if x0 = x1 then WP m18 68 [.inr (.inl l0), .inl l1, .inr (.inl l2), l3] [] σ Q else WP m18 82 [.inr (.inl l0), .inl l1, .inr (.inl l2), l3] [] σ Q) := w_icne d18_65 (by decide)
theorem d18_68 : adec m18 68 = some (.aload_n 0, 1) := by decide +kernel
theorem s18_68 {l0 : Nat} {l1 : Int} {l2 : Nat} {l3 : AV} : WP m18 68 [.inr (.inl l0), .inl l1, .inr (.inl l2), l3] [] σ Q = WP m18 69 [.inr (.inl l0), .inl l1, .inr (.inl l2), l3] [.inr (.inl l0)] σ Q := w_ld d18_68 rfl
theorem d18_69 : adec m18 69 = some (.iconst (1), 1) := by decide +kernel
theorem s18_69 {l0 : Nat} {l1 : Int} {l2 : Nat} {l3 : AV} {x0 : Nat} : WP m18 69 [.inr (.inl l0), .inl l1, .inr (.inl l2), l3] [.inr (.inl x0)] σ Q = WP m18 70 [.inr (.inl l0), .inl l1, .inr (.inl l2), l3] [.inl (1), .inr (.inl x0)] σ Q := w_iconst d18_69 (by decide)
theorem d18_70 : adec m18 70 = some (.putfield 33, 3) := by decide +kernel
theorem s18_70 {l0 : Nat} {l1 : Int} {l2 : Nat} {l3 : AV} {x1 : Int} : WP m18 70 [.inr (.inl l0), .inl l1, .inr (.inl l2), l3] [.inl x1, .inr (.inl 55)] σ Q = WP m18 73 [.inr (.inl l0), .inl l1, .inr (.inl l2), l3] [] (aup σ 55 3 x1) Q := (w_putI (c := 2) (n := 3) d18_70 (by decide +kernel) (by decide +kernel) (by decide +kernel)).trans (g_and (isO_dec (by decide +kernel)))
theorem d18_73 : adec m18 73 = some (.aload_n 0, 1) := by decide +kernel
theorem s18_73 {l0 : Nat} {l1 : Int} {l2 : Nat} {l3 : AV} : WP m18 73 [.inr (.inl l0), .inl l1, .inr (.inl l2), l3] [] σ Q = WP m18 74 [.inr (.inl l0), .inl l1, .inr (.inl l2), l3] [.inr (.inl l0)] σ Q := w_ld d18_73 rfl
theorem d18_74 : adec m18 74 = some (.sipush (1000), 3) := by decide +kernel
theorem s18_74 {l0 : Nat} {l1 : Int} {l2 : Nat} {l3 : AV} {x0 : Nat} : WP m18 74 [.inr (.inl l0), .inl l1, .inr (.inl l2), l3] [.inr (.inl x0)] σ Q = WP m18 77 [.inr (.inl l0), .inl l1, .inr (.inl l2), l3] [.inl (1000), .inr (.inl x0)] σ Q := w_sipush d18_74 (by decide)
theorem d18_77 : adec m18 77 = some (.aload_n 2, 1) := by decide +kernel
theorem s18_77 {l0 : Nat} {l1 : Int} {l2 : Nat} {l3 : AV} {x0 : Nat} {x1 : Int} : WP m18 77 [.inr (.inl l0), .inl l1, .inr (.inl l2), l3] [.inl x1, .inr (.inl x0)] σ Q = WP m18 78 [.inr (.inl l0), .inl l1, .inr (.inl l2), l3] [.inr (.inl l2), .inl x1, .inr (.inl x0)] σ Q := w_ld d18_77 rfl
theorem d18_78 : adec m18 78 = some (.invokevirtual 69, 3) := by decide +kernel
theorem s18_78 {l0 : Nat} {l1 : Int} {l2 : Nat} {l3 : AV} {x1 : Int} {x2 : Nat} : WP m18 78 [.inr (.inl l0), .inl l1, .inr (.inl l2), l3] [.inr (.inl x2), .inl x1, .inr (.inl 55)] σ Q = CA m23 [.inr (.inl 55), .inl x1, .inr (.inl x2)] σ (fun v σ2 => WP m18 81 [.inr (.inl l0), .inl l1, .inr (.inl l2), l3] (v ++ []) σ2 Q) := (w_cV (k := 23) d18_78 (by decide +kernel) m23_at rfl rfl ⟨Nat.le_of_ble_eq_true rfl, Nat.le_of_ble_eq_true rfl, Nat.le_of_ble_eq_true rfl⟩ (by decide)).trans (g_and (isO_dec (by decide +kernel)))
theorem d18_81 : adec m18 81 = some (.ireturn, 1) := by decide +kernel
theorem s18_81 {l0 : Nat} {l1 : Int} {l2 : Nat} {l3 : AV} {x0 : Int} : WP m18 81 [.inr (.inl l0), .inl l1, .inr (.inl l2), l3] [.inl x0] σ Q = Q [.inl x0] σ := w_ri d18_81 rfl
theorem d18_82 : adec m18 82 = some (.iload_n 1, 1) := by decide +kernel
theorem s18_82 {l0 : Nat} {l1 : Int} {l2 : Nat} {l3 : AV} : WP m18 82 [.inr (.inl l0), .inl l1, .inr (.inl l2), l3] [] σ Q = WP m18 83 [.inr (.inl l0), .inl l1, .inr (.inl l2), l3] [.inl l1] σ Q := w_ld d18_82 rfl
theorem d18_83 : adec m18 83 = some (.invokestatic 72, 3) := by decide +kernel
theorem s18_83 {l0 : Nat} {l1 : Int} {l2 : Nat} {l3 : AV} {x0 : Int} : WP m18 83 [.inr (.inl l0), .inl l1, .inr (.inl l2), l3] [.inl x0] σ Q = CA m116 [.inl x0] σ (fun v σ2 => WP m18 86 [.inr (.inl l0), .inl l1, .inr (.inl l2), l3] (v ++ []) σ2 Q) := w_cS (k := 116) d18_83 (by decide +kernel) (md := 2) (by decide +kernel) m116_at rfl rfl ⟨Nat.le_of_ble_eq_true rfl, Nat.le_of_ble_eq_true rfl, Nat.le_of_ble_eq_true rfl⟩ (by decide)
theorem d18_86 : adec m18 86 = some (.ifCond .ne (10), 3) := by decide +kernel
theorem s18_86 {l0 : Nat} {l1 : Int} {l2 : Nat} {l3 : AV} {x0 : Int} : WP m18 86 [.inr (.inl l0), .inl l1, .inr (.inl l2), l3] [.inl x0] σ Q = (if x0 = 0 then WP m18 89 [.inr (.inl l0), .inl l1, .inr (.inl l2), l3] [] σ Q else WP m18 96 [.inr (.inl l0), .inl l1, .inr (.inl l2), l3] [] σ Q) := w_ifne d18_86 (by decide)
theorem d18_89 : adec m18 89 = some (.iload_n 1, 1) := by decide +kernel
theorem s18_89 {l0 : Nat} {l1 : Int} {l2 : Nat} {l3 : AV} : WP m18 89 [.inr (.inl l0), .inl l1, .inr (.inl l2), l3] [] σ Q = WP m18 90 [.inr (.inl l0), .inl l1, .inr (.inl l2), l3] [.inl l1] σ Q := w_ld d18_89 rfl
theorem d18_90 : adec m18 90 = some (.invokestatic 76, 3) := by decide +kernel
theorem s18_90 {l0 : Nat} {l1 : Int} {l2 : Nat} {l3 : AV} {x0 : Int} : WP m18 90 [.inr (.inl l0), .inl l1, .inr (.inl l2), l3] [.inl x0] σ Q = CA m119 [.inl x0] σ (fun v σ2 => WP m18 93 [.inr (.inl l0), .inl l1, .inr (.inl l2), l3] (v ++ []) σ2 Q) := w_cS (k := 119) d18_90 (by decide +kernel) (md := 2) (by decide +kernel) m119_at rfl rfl ⟨Nat.le_of_ble_eq_true rfl, Nat.le_of_ble_eq_true rfl, Nat.le_of_ble_eq_true rfl⟩ (by decide)
theorem d18_93 : adec m18 93 = some (.ifCond .le (7), 3) := by decide +kernel
theorem s18_93 {l0 : Nat} {l1 : Int} {l2 : Nat} {l3 : AV} {x0 : Int} : WP m18 93 [.inr (.inl l0), .inl l1, .inr (.inl l2), l3] [.inl x0] σ Q = (if x0 ≤ 0 then WP m18 100 [.inr (.inl l0), .inl l1, .inr (.inl l2), l3] [] σ Q else WP m18 96 [.inr (.inl l0), .inl l1, .inr (.inl l2), l3] [] σ Q) := w_ifle d18_93 (by decide)
theorem d18_96 : adec m18 96 = some (.iconst (1), 1) := by decide +kernel
theorem s18_96 {l0 : Nat} {l1 : Int} {l2 : Nat} {l3 : AV} : WP m18 96 [.inr (.inl l0), .inl l1, .inr (.inl l2), l3] [] σ Q = WP m18 97 [.inr (.inl l0), .inl l1, .inr (.inl l2), l3] [.inl (1)] σ Q := w_iconst d18_96 (by decide)
theorem d18_97 : adec m18 97 = some (.goto (4), 3) := by decide +kernel
theorem s18_97 {l0 : Nat} {l1 : Int} {l2 : Nat} {l3 : AV} {x0 : Int} : WP m18 97 [.inr (.inl l0), .inl l1, .inr (.inl l2), l3] [.inl x0] σ Q = WP m18 101 [.inr (.inl l0), .inl l1, .inr (.inl l2), l3] [.inl x0] σ Q := w_goto d18_97 (by decide)
theorem d18_100 : adec m18 100 = some (.iconst (0), 1) := by decide +kernel
theorem s18_100 {l0 : Nat} {l1 : Int} {l2 : Nat} {l3 : AV} : WP m18 100 [.inr (.inl l0), .inl l1, .inr (.inl l2), l3] [] σ Q = WP m18 101 [.inr (.inl l0), .inl l1, .inr (.inl l2), l3] [.inl (0)] σ Q := w_iconst d18_100 (by decide)
theorem d18_101 : adec m18 101 = some (.istore_n 3, 1) := by decide +kernel
theorem s18_101 {l0 : Nat} {l1 : Int} {l2 : Nat} {l3 : AV} {x0 : Int} : WP m18 101 [.inr (.inl l0), .inl l1, .inr (.inl l2), l3] [.inl x0] σ Q = WP m18 102 [.inr (.inl l0), .inl l1, .inr (.inl l2), .inl x0] [] σ Q := w_st1 (j := 3) d18_101 rfl (Nat.le_of_ble_eq_true rfl) rfl
theorem d18_102 : adec m18 102 = some (.iload_n 3, 1) := by decide +kernel
theorem s18_102 {l0 : Nat} {l1 : Int} {l2 : Nat} {l3 : Int} : WP m18 102 [.inr (.inl l0), .inl l1, .inr (.inl l2), .inl l3] [] σ Q = WP m18 103 [.inr (.inl l0), .inl l1, .inr (.inl l2), .inl l3] [.inl l3] σ Q := w_ld d18_102 rfl
theorem d18_103 : adec m18 103 = some (.ifCond .eq (12), 3) := by decide +kernel
theorem s18_103 {l0 : Nat} {l1 : Int} {l2 : Nat} {l3 : Int} {x0 : Int} : WP m18 103 [.inr (.inl l0), .inl l1, .inr (.inl l2), .inl l3] [.inl x0] σ Q = (if x0 = 0 then WP m18 115 [.inr (.inl l0), .inl l1, .inr (.inl l2), .inl l3] [] σ Q else WP m18 106 [.inr (.inl l0), .inl l1, .inr (.inl l2), .inl l3] [] σ Q) := w_ifeq d18_103 (by decide)
theorem d18_106 : adec m18 106 = some (.aload_n 0, 1) := by decide +kernel
theorem s18_106 {l0 : Nat} {l1 : Int} {l2 : Nat} {l3 : Int} : WP m18 106 [.inr (.inl l0), .inl l1, .inr (.inl l2), .inl l3] [] σ Q = WP m18 107 [.inr (.inl l0), .inl l1, .inr (.inl l2), .inl l3] [.inr (.inl l0)] σ Q := w_ld d18_106 rfl
theorem d18_107 : adec m18 107 = some (.iload_n 1, 1) := by decide +kernel
theorem s18_107 {l0 : Nat} {l1 : Int} {l2 : Nat} {l3 : Int} {x0 : Nat} : WP m18 107 [.inr (.inl l0), .inl l1, .inr (.inl l2), .inl l3] [.inr (.inl x0)] σ Q = WP m18 108 [.inr (.inl l0), .inl l1, .inr (.inl l2), .inl l3] [.inl l1, .inr (.inl x0)] σ Q := w_ld d18_107 rfl
theorem d18_108 : adec m18 108 = some (.aload_n 2, 1) := by decide +kernel
theorem s18_108 {l0 : Nat} {l1 : Int} {l2 : Nat} {l3 : Int} {x0 : Nat} {x1 : Int} : WP m18 108 [.inr (.inl l0), .inl l1, .inr (.inl l2), .inl l3] [.inl x1, .inr (.inl x0)] σ Q = WP m18 109 [.inr (.inl l0), .inl l1, .inr (.inl l2), .inl l3] [.inr (.inl l2), .inl x1, .inr (.inl x0)] σ Q := w_ld d18_108 rfl
theorem d18_109 : adec m18 109 = some (.invokevirtual 69, 3) := by decide +kernel
theorem s18_109 {l0 : Nat} {l1 : Int} {l2 : Nat} {l3 : Int} {x1 : Int} {x2 : Nat} : WP m18 109 [.inr (.inl l0), .inl l1, .inr (.inl l2), .inl l3] [.inr (.inl x2), .inl x1, .inr (.inl 55)] σ Q = CA m23 [.inr (.inl 55), .inl x1, .inr (.inl x2)] σ (fun v σ2 => WP m18 112 [.inr (.inl l0), .inl l1, .inr (.inl l2), .inl l3] (v ++ []) σ2 Q) := (w_cV (k := 23) d18_109 (by decide +kernel) m23_at rfl rfl ⟨Nat.le_of_ble_eq_true rfl, Nat.le_of_ble_eq_true rfl, Nat.le_of_ble_eq_true rfl⟩ (by decide)).trans (g_and (isO_dec (by decide +kernel)))
theorem d18_112 : adec m18 112 = some (.goto (4), 3) := by decide +kernel
theorem s18_112 {l0 : Nat} {l1 : Int} {l2 : Nat} {l3 : Int} {x0 : Int} : WP m18 112 [.inr (.inl l0), .inl l1, .inr (.inl l2), .inl l3] [.inl x0] σ Q = WP m18 116 [.inr (.inl l0), .inl l1, .inr (.inl l2), .inl l3] [.inl x0] σ Q := w_goto d18_112 (by decide)
theorem d18_115 : adec m18 115 = some (.iconst (1), 1) := by decide +kernel
theorem s18_115 {l0 : Nat} {l1 : Int} {l2 : Nat} {l3 : Int} : WP m18 115 [.inr (.inl l0), .inl l1, .inr (.inl l2), .inl l3] [] σ Q = WP m18 116 [.inr (.inl l0), .inl l1, .inr (.inl l2), .inl l3] [.inl (1)] σ Q := w_iconst d18_115 (by decide)
theorem d18_116 : adec m18 116 = some (.ireturn, 1) := by decide +kernel
theorem s18_116 {l0 : Nat} {l1 : Int} {l2 : Nat} {l3 : Int} {x0 : Int} : WP m18 116 [.inr (.inl l0), .inl l1, .inr (.inl l2), .inl l3] [.inl x0] σ Q = Q [.inl x0] σ := w_ri d18_116 rfl
theorem e18 {p0 : Nat} {p1 : Int} {p2 : Nat} : CA m18 [.inr (.inl p0), .inl p1, .inr (.inl p2)] σ Q = WP m18 0 [.inr (.inl p0), .inl p1, .inr (.inl p2), vU] [] σ Q := rfl
-- BinderPress$Reader.readBoundName(ILBinderPress$Row;)I
theorem d19_0 : adec m19 0 = some (.iload_n 1, 1) := by decide +kernel
theorem s19_0 {l0 : Nat} {l1 : Int} {l2 : Nat} : WP m19 0 [.inr (.inl l0), .inl l1, .inr (.inl l2)] [] σ Q = WP m19 1 [.inr (.inl l0), .inl l1, .inr (.inl l2)] [.inl l1] σ Q := w_ld d19_0 rfl
theorem d19_1 : adec m19 1 = some (.invokestatic 72, 3) := by decide +kernel
theorem s19_1 {l0 : Nat} {l1 : Int} {l2 : Nat} {x0 : Int} : WP m19 1 [.inr (.inl l0), .inl l1, .inr (.inl l2)] [.inl x0] σ Q = CA m116 [.inl x0] σ (fun v σ2 => WP m19 4 [.inr (.inl l0), .inl l1, .inr (.inl l2)] (v ++ []) σ2 Q) := w_cS (k := 116) d19_1 (by decide +kernel) (md := 2) (by decide +kernel) m116_at rfl rfl ⟨Nat.le_of_ble_eq_true rfl, Nat.le_of_ble_eq_true rfl, Nat.le_of_ble_eq_true rfl⟩ (by decide)
theorem d19_4 : adec m19 4 = some (.ifCond .ne (5), 3) := by decide +kernel
theorem s19_4 {l0 : Nat} {l1 : Int} {l2 : Nat} {x0 : Int} : WP m19 4 [.inr (.inl l0), .inl l1, .inr (.inl l2)] [.inl x0] σ Q = (if x0 = 0 then WP m19 7 [.inr (.inl l0), .inl l1, .inr (.inl l2)] [] σ Q else WP m19 9 [.inr (.inl l0), .inl l1, .inr (.inl l2)] [] σ Q) := w_ifne d19_4 (by decide)
theorem d19_7 : adec m19 7 = some (.iconst (1), 1) := by decide +kernel
theorem s19_7 {l0 : Nat} {l1 : Int} {l2 : Nat} : WP m19 7 [.inr (.inl l0), .inl l1, .inr (.inl l2)] [] σ Q = WP m19 8 [.inr (.inl l0), .inl l1, .inr (.inl l2)] [.inl (1)] σ Q := w_iconst d19_7 (by decide)
theorem d19_8 : adec m19 8 = some (.ireturn, 1) := by decide +kernel
theorem s19_8 {l0 : Nat} {l1 : Int} {l2 : Nat} {x0 : Int} : WP m19 8 [.inr (.inl l0), .inl l1, .inr (.inl l2)] [.inl x0] σ Q = Q [.inl x0] σ := w_ri d19_8 rfl
theorem d19_9 : adec m19 9 = some (.aload_n 2, 1) := by decide +kernel
theorem s19_9 {l0 : Nat} {l1 : Int} {l2 : Nat} : WP m19 9 [.inr (.inl l0), .inl l1, .inr (.inl l2)] [] σ Q = WP m19 10 [.inr (.inl l0), .inl l1, .inr (.inl l2)] [.inr (.inl l2)] σ Q := w_ld d19_9 rfl
theorem d19_10 : adec m19 10 = some (.aload_n 2, 1) := by decide +kernel
theorem s19_10 {l0 : Nat} {l1 : Int} {l2 : Nat} {x0 : Nat} : WP m19 10 [.inr (.inl l0), .inl l1, .inr (.inl l2)] [.inr (.inl x0)] σ Q = WP m19 11 [.inr (.inl l0), .inl l1, .inr (.inl l2)] [.inr (.inl l2), .inr (.inl x0)] σ Q := w_ld d19_10 rfl
theorem d19_11 : adec m19 11 = some (.invokevirtual 40, 3) := by decide +kernel
theorem s19_11 {l0 : Nat} {l1 : Int} {l2 : Nat} {x0 : Nat} {x1 : Nat} : WP m19 11 [.inr (.inl l0), .inl l1, .inr (.inl l2)] [.inr (.inl x1), .inr (.inl x0)] σ Q = (isO x1 3 ∧ CA m28 [.inr (.inl x1)] σ (fun v σ2 => WP m19 14 [.inr (.inl l0), .inl l1, .inr (.inl l2)] (v ++ [.inr (.inl x0)]) σ2 Q)) := w_cV (k := 28) d19_11 (by decide +kernel) m28_at rfl rfl ⟨Nat.le_of_ble_eq_true rfl, Nat.le_of_ble_eq_true rfl, Nat.le_of_ble_eq_true rfl⟩ (by decide)
theorem d19_14 : adec m19 14 = some (.iconst (1), 1) := by decide +kernel
theorem s19_14 {l0 : Nat} {l1 : Int} {l2 : Nat} {x0 : Nat} {x1 : Int} : WP m19 14 [.inr (.inl l0), .inl l1, .inr (.inl l2)] [.inl x1, .inr (.inl x0)] σ Q = WP m19 15 [.inr (.inl l0), .inl l1, .inr (.inl l2)] [.inl (1), .inl x1, .inr (.inl x0)] σ Q := w_iconst d19_14 (by decide)
theorem d19_15 : adec m19 15 = some (.isub, 1) := by decide +kernel
theorem s19_15 {l0 : Nat} {l1 : Int} {l2 : Nat} {x0 : Nat} {x1 : Int} {x2 : Int} : WP m19 15 [.inr (.inl l0), .inl l1, .inr (.inl l2)] [.inl x2, .inl x1, .inr (.inl x0)] σ Q = (inI (x1 - x2) ∧ WP m19 16 [.inr (.inl l0), .inl l1, .inr (.inl l2)] [.inl (x1 - x2), .inr (.inl x0)] σ Q) := w_isub d19_15
theorem d19_16 : adec m19 16 = some (.sipush (1000), 3) := by decide +kernel
theorem s19_16 {l0 : Nat} {l1 : Int} {l2 : Nat} {x0 : Nat} {x1 : Int} : WP m19 16 [.inr (.inl l0), .inl l1, .inr (.inl l2)] [.inl x1, .inr (.inl x0)] σ Q = WP m19 19 [.inr (.inl l0), .inl l1, .inr (.inl l2)] [.inl (1000), .inl x1, .inr (.inl x0)] σ Q := w_sipush d19_16 (by decide)
theorem d19_19 : adec m19 19 = some (.iload_n 1, 1) := by decide +kernel
theorem s19_19 {l0 : Nat} {l1 : Int} {l2 : Nat} {x0 : Nat} {x1 : Int} {x2 : Int} : WP m19 19 [.inr (.inl l0), .inl l1, .inr (.inl l2)] [.inl x2, .inl x1, .inr (.inl x0)] σ Q = WP m19 20 [.inr (.inl l0), .inl l1, .inr (.inl l2)] [.inl l1, .inl x2, .inl x1, .inr (.inl x0)] σ Q := w_ld d19_19 rfl
theorem d19_20 : adec m19 20 = some (.iadd, 1) := by decide +kernel
theorem s19_20 {l0 : Nat} {l1 : Int} {l2 : Nat} {x0 : Nat} {x1 : Int} {x2 : Int} {x3 : Int} : WP m19 20 [.inr (.inl l0), .inl l1, .inr (.inl l2)] [.inl x3, .inl x2, .inl x1, .inr (.inl x0)] σ Q = (inI (x2 + x3) ∧ WP m19 21 [.inr (.inl l0), .inl l1, .inr (.inl l2)] [.inl (x2 + x3), .inl x1, .inr (.inl x0)] σ Q) := w_iadd d19_20
theorem d19_21 : adec m19 21 = some (.invokevirtual 79, 3) := by decide +kernel
theorem s19_21 {l0 : Nat} {l1 : Int} {l2 : Nat} {x0 : Nat} {x1 : Int} {x2 : Int} : WP m19 21 [.inr (.inl l0), .inl l1, .inr (.inl l2)] [.inl x2, .inl x1, .inr (.inl x0)] σ Q = (isO x0 3 ∧ CA m33 [.inr (.inl x0), .inl x1, .inl x2] σ (fun v σ2 => WP m19 24 [.inr (.inl l0), .inl l1, .inr (.inl l2)] (v ++ []) σ2 Q)) := w_cV (k := 33) d19_21 (by decide +kernel) m33_at rfl rfl ⟨Nat.le_of_ble_eq_true rfl, Nat.le_of_ble_eq_true rfl, Nat.le_of_ble_eq_true rfl⟩ (by decide)
theorem d19_24 : adec m19 24 = some (.aload_n 0, 1) := by decide +kernel
theorem s19_24 {l0 : Nat} {l1 : Int} {l2 : Nat} : WP m19 24 [.inr (.inl l0), .inl l1, .inr (.inl l2)] [] σ Q = WP m19 25 [.inr (.inl l0), .inl l1, .inr (.inl l2)] [.inr (.inl l0)] σ Q := w_ld d19_24 rfl
theorem d19_25 : adec m19 25 = some (.iconst (2), 1) := by decide +kernel
theorem s19_25 {l0 : Nat} {l1 : Int} {l2 : Nat} {x0 : Nat} : WP m19 25 [.inr (.inl l0), .inl l1, .inr (.inl l2)] [.inr (.inl x0)] σ Q = WP m19 26 [.inr (.inl l0), .inl l1, .inr (.inl l2)] [.inl (2), .inr (.inl x0)] σ Q := w_iconst d19_25 (by decide)
theorem d19_26 : adec m19 26 = some (.putfield 33, 3) := by decide +kernel
theorem s19_26 {l0 : Nat} {l1 : Int} {l2 : Nat} {x1 : Int} : WP m19 26 [.inr (.inl l0), .inl l1, .inr (.inl l2)] [.inl x1, .inr (.inl 55)] σ Q = WP m19 29 [.inr (.inl l0), .inl l1, .inr (.inl l2)] [] (aup σ 55 3 x1) Q := (w_putI (c := 2) (n := 3) d19_26 (by decide +kernel) (by decide +kernel) (by decide +kernel)).trans (g_and (isO_dec (by decide +kernel)))
theorem d19_29 : adec m19 29 = some (.iconst (0), 1) := by decide +kernel
theorem s19_29 {l0 : Nat} {l1 : Int} {l2 : Nat} : WP m19 29 [.inr (.inl l0), .inl l1, .inr (.inl l2)] [] σ Q = WP m19 30 [.inr (.inl l0), .inl l1, .inr (.inl l2)] [.inl (0)] σ Q := w_iconst d19_29 (by decide)
theorem d19_30 : adec m19 30 = some (.ireturn, 1) := by decide +kernel
theorem s19_30 {l0 : Nat} {l1 : Int} {l2 : Nat} {x0 : Int} : WP m19 30 [.inr (.inl l0), .inl l1, .inr (.inl l2)] [.inl x0] σ Q = Q [.inl x0] σ := w_ri d19_30 rfl
theorem e19 {p0 : Nat} {p1 : Int} {p2 : Nat} : CA m19 [.inr (.inl p0), .inl p1, .inr (.inl p2)] σ Q = WP m19 0 [.inr (.inl p0), .inl p1, .inr (.inl p2)] [] σ Q := rfl
-- BinderPress$Reader.readDot(ILBinderPress$Row;)I
theorem d20_0 : adec m20 0 = some (.iload_n 1, 1) := by decide +kernel
theorem s20_0 {l0 : Nat} {l1 : Int} {l2 : Nat} : WP m20 0 [.inr (.inl l0), .inl l1, .inr (.inl l2)] [] σ Q = WP m20 1 [.inr (.inl l0), .inl l1, .inr (.inl l2)] [.inl l1] σ Q := w_ld d20_0 rfl
theorem d20_1 : adec m20 1 = some (.bipush (46), 2) := by decide +kernel
theorem s20_1 {l0 : Nat} {l1 : Int} {l2 : Nat} {x0 : Int} : WP m20 1 [.inr (.inl l0), .inl l1, .inr (.inl l2)] [.inl x0] σ Q = WP m20 3 [.inr (.inl l0), .inl l1, .inr (.inl l2)] [.inl (46), .inl x0] σ Q := w_bipush d20_1 (by decide)
theorem d20_3 : adec m20 3 = some (.if_icmp .eq (5), 3) := by decide +kernel
theorem s20_3 {l0 : Nat} {l1 : Int} {l2 : Nat} {x0 : Int} {x1 : Int} : WP m20 3 [.inr (.inl l0), .inl l1, .inr (.inl l2)] [.inl x1, .inl x0] σ Q = (if x0 = x1 then WP m20 8 [.inr (.inl l0), .inl l1, .inr (.inl l2)] [] σ Q else WP m20 6 [.inr (.inl l0), .inl l1, .inr (.inl l2)] [] σ Q) := w_iceq d20_3 (by decide)
theorem d20_6 : adec m20 6 = some (.iconst (1), 1) := by decide +kernel
theorem s20_6 {l0 : Nat} {l1 : Int} {l2 : Nat} : WP m20 6 [.inr (.inl l0), .inl l1, .inr (.inl l2)] [] σ Q = WP m20 7 [.inr (.inl l0), .inl l1, .inr (.inl l2)] [.inl (1)] σ Q := w_iconst d20_6 (by decide)
theorem d20_7 : adec m20 7 = some (.ireturn, 1) := by decide +kernel
theorem s20_7 {l0 : Nat} {l1 : Int} {l2 : Nat} {x0 : Int} : WP m20 7 [.inr (.inl l0), .inl l1, .inr (.inl l2)] [.inl x0] σ Q = Q [.inl x0] σ := w_ri d20_7 rfl
theorem d20_8 : adec m20 8 = some (.aload_n 0, 1) := by decide +kernel
theorem s20_8 {l0 : Nat} {l1 : Int} {l2 : Nat} : WP m20 8 [.inr (.inl l0), .inl l1, .inr (.inl l2)] [] σ Q = WP m20 9 [.inr (.inl l0), .inl l1, .inr (.inl l2)] [.inr (.inl l0)] σ Q := w_ld d20_8 rfl
theorem d20_9 : adec m20 9 = some (.aload_n 2, 1) := by decide +kernel
theorem s20_9 {l0 : Nat} {l1 : Int} {l2 : Nat} {x0 : Nat} : WP m20 9 [.inr (.inl l0), .inl l1, .inr (.inl l2)] [.inr (.inl x0)] σ Q = WP m20 10 [.inr (.inl l0), .inl l1, .inr (.inl l2)] [.inr (.inl l2), .inr (.inl x0)] σ Q := w_ld d20_9 rfl
theorem d20_10 : adec m20 10 = some (.invokevirtual 40, 3) := by decide +kernel
theorem s20_10 {l0 : Nat} {l1 : Int} {l2 : Nat} {x0 : Nat} {x1 : Nat} : WP m20 10 [.inr (.inl l0), .inl l1, .inr (.inl l2)] [.inr (.inl x1), .inr (.inl x0)] σ Q = (isO x1 3 ∧ CA m28 [.inr (.inl x1)] σ (fun v σ2 => WP m20 13 [.inr (.inl l0), .inl l1, .inr (.inl l2)] (v ++ [.inr (.inl x0)]) σ2 Q)) := w_cV (k := 28) d20_10 (by decide +kernel) m28_at rfl rfl ⟨Nat.le_of_ble_eq_true rfl, Nat.le_of_ble_eq_true rfl, Nat.le_of_ble_eq_true rfl⟩ (by decide)
theorem d20_13 : adec m20 13 = some (.iconst (0), 1) := by decide +kernel
theorem s20_13 {l0 : Nat} {l1 : Int} {l2 : Nat} {x0 : Nat} {x1 : Int} : WP m20 13 [.inr (.inl l0), .inl l1, .inr (.inl l2)] [.inl x1, .inr (.inl x0)] σ Q = WP m20 14 [.inr (.inl l0), .inl l1, .inr (.inl l2)] [.inl (0), .inl x1, .inr (.inl x0)] σ Q := w_iconst d20_13 (by decide)
theorem d20_14 : adec m20 14 = some (.invokevirtual 36, 3) := by decide +kernel
theorem s20_14 {l0 : Nat} {l1 : Int} {l2 : Nat} {x1 : Int} {x2 : Int} : WP m20 14 [.inr (.inl l0), .inl l1, .inr (.inl l2)] [.inl x2, .inl x1, .inr (.inl 55)] σ Q = CA m26 [.inr (.inl 55), .inl x1, .inl x2] σ (fun v σ2 => WP m20 17 [.inr (.inl l0), .inl l1, .inr (.inl l2)] (v ++ []) σ2 Q) := (w_cV (k := 26) d20_14 (by decide +kernel) m26_at rfl rfl ⟨Nat.le_of_ble_eq_true rfl, Nat.le_of_ble_eq_true rfl, Nat.le_of_ble_eq_true rfl⟩ (by decide)).trans (g_and (isO_dec (by decide +kernel)))
theorem d20_17 : adec m20 17 = some (.aload_n 0, 1) := by decide +kernel
theorem s20_17 {l0 : Nat} {l1 : Int} {l2 : Nat} : WP m20 17 [.inr (.inl l0), .inl l1, .inr (.inl l2)] [] σ Q = WP m20 18 [.inr (.inl l0), .inl l1, .inr (.inl l2)] [.inr (.inl l0)] σ Q := w_ld d20_17 rfl
theorem d20_18 : adec m20 18 = some (.iconst (0), 1) := by decide +kernel
theorem s20_18 {l0 : Nat} {l1 : Int} {l2 : Nat} {x0 : Nat} : WP m20 18 [.inr (.inl l0), .inl l1, .inr (.inl l2)] [.inr (.inl x0)] σ Q = WP m20 19 [.inr (.inl l0), .inl l1, .inr (.inl l2)] [.inl (0), .inr (.inl x0)] σ Q := w_iconst d20_18 (by decide)
theorem d20_19 : adec m20 19 = some (.putfield 33, 3) := by decide +kernel
theorem s20_19 {l0 : Nat} {l1 : Int} {l2 : Nat} {x1 : Int} : WP m20 19 [.inr (.inl l0), .inl l1, .inr (.inl l2)] [.inl x1, .inr (.inl 55)] σ Q = WP m20 22 [.inr (.inl l0), .inl l1, .inr (.inl l2)] [] (aup σ 55 3 x1) Q := (w_putI (c := 2) (n := 3) d20_19 (by decide +kernel) (by decide +kernel) (by decide +kernel)).trans (g_and (isO_dec (by decide +kernel)))
theorem d20_22 : adec m20 22 = some (.iconst (0), 1) := by decide +kernel
theorem s20_22 {l0 : Nat} {l1 : Int} {l2 : Nat} : WP m20 22 [.inr (.inl l0), .inl l1, .inr (.inl l2)] [] σ Q = WP m20 23 [.inr (.inl l0), .inl l1, .inr (.inl l2)] [.inl (0)] σ Q := w_iconst d20_22 (by decide)
theorem d20_23 : adec m20 23 = some (.ireturn, 1) := by decide +kernel
theorem s20_23 {l0 : Nat} {l1 : Int} {l2 : Nat} {x0 : Int} : WP m20 23 [.inr (.inl l0), .inl l1, .inr (.inl l2)] [.inl x0] σ Q = Q [.inl x0] σ := w_ri d20_23 rfl
theorem e20 {p0 : Nat} {p1 : Int} {p2 : Nat} : CA m20 [.inr (.inl p0), .inl p1, .inr (.inl p2)] σ Q = WP m20 0 [.inr (.inl p0), .inl p1, .inr (.inl p2)] [] σ Q := rfl
-- BinderPress$Reader.readOpening(LBinderPress$Row;)I
theorem d21_0 : adec m21 0 = some (.aload_n 0, 1) := by decide +kernel
theorem s21_0 {l0 : Nat} {l1 : Nat} : WP m21 0 [.inr (.inl l0), .inr (.inl l1)] [] σ Q = WP m21 1 [.inr (.inl l0), .inr (.inl l1)] [.inr (.inl l0)] σ Q := w_ld d21_0 rfl
theorem d21_1 : adec m21 1 = some (.iconst (0), 1) := by decide +kernel
theorem s21_1 {l0 : Nat} {l1 : Nat} {x0 : Nat} : WP m21 1 [.inr (.inl l0), .inr (.inl l1)] [.inr (.inl x0)] σ Q = WP m21 2 [.inr (.inl l0), .inr (.inl l1)] [.inl (0), .inr (.inl x0)] σ Q := w_iconst d21_1 (by decide)
theorem d21_2 : adec m21 2 = some (.aload_n 1, 1) := by decide +kernel
theorem s21_2 {l0 : Nat} {l1 : Nat} {x0 : Nat} {x1 : Int} : WP m21 2 [.inr (.inl l0), .inr (.inl l1)] [.inl x1, .inr (.inl x0)] σ Q = WP m21 3 [.inr (.inl l0), .inr (.inl l1)] [.inr (.inl l1), .inl x1, .inr (.inl x0)] σ Q := w_ld d21_2 rfl
theorem d21_3 : adec m21 3 = some (.invokevirtual 82, 3) := by decide +kernel
theorem s21_3 {l0 : Nat} {l1 : Nat} {x1 : Int} {x2 : Nat} : WP m21 3 [.inr (.inl l0), .inr (.inl l1)] [.inr (.inl x2), .inl x1, .inr (.inl 55)] σ Q = CA m24 [.inr (.inl 55), .inl x1, .inr (.inl x2)] σ (fun v σ2 => WP m21 6 [.inr (.inl l0), .inr (.inl l1)] (v ++ []) σ2 Q) := (w_cV (k := 24) d21_3 (by decide +kernel) m24_at rfl rfl ⟨Nat.le_of_ble_eq_true rfl, Nat.le_of_ble_eq_true rfl, Nat.le_of_ble_eq_true rfl⟩ (by decide)).trans (g_and (isO_dec (by decide +kernel)))
theorem d21_6 : adec m21 6 = some (.ifCond .ne (5), 3) := by decide +kernel
theorem s21_6 {l0 : Nat} {l1 : Nat} {x0 : Int} : WP m21 6 [.inr (.inl l0), .inr (.inl l1)] [.inl x0] σ Q = (if x0 = 0 then WP m21 9 [.inr (.inl l0), .inr (.inl l1)] [] σ Q else WP m21 11 [.inr (.inl l0), .inr (.inl l1)] [] σ Q) := w_ifne d21_6 (by decide)
theorem d21_9 : adec m21 9 = some (.iconst (2), 1) := by decide +kernel
theorem s21_9 {l0 : Nat} {l1 : Nat} : WP m21 9 [.inr (.inl l0), .inr (.inl l1)] [] σ Q = WP m21 10 [.inr (.inl l0), .inr (.inl l1)] [.inl (2)] σ Q := w_iconst d21_9 (by decide)
theorem d21_10 : adec m21 10 = some (.ireturn, 1) := by decide +kernel
theorem s21_10 {l0 : Nat} {l1 : Nat} {x0 : Int} : WP m21 10 [.inr (.inl l0), .inr (.inl l1)] [.inl x0] σ Q = Q [.inl x0] σ := w_ri d21_10 rfl
theorem d21_11 : adec m21 11 = some (.aload_n 0, 1) := by decide +kernel
theorem s21_11 {l0 : Nat} {l1 : Nat} : WP m21 11 [.inr (.inl l0), .inr (.inl l1)] [] σ Q = WP m21 12 [.inr (.inl l0), .inr (.inl l1)] [.inr (.inl l0)] σ Q := w_ld d21_11 rfl
theorem d21_12 : adec m21 12 = some (.aload_n 1, 1) := by decide +kernel
theorem s21_12 {l0 : Nat} {l1 : Nat} {x0 : Nat} : WP m21 12 [.inr (.inl l0), .inr (.inl l1)] [.inr (.inl x0)] σ Q = WP m21 13 [.inr (.inl l0), .inr (.inl l1)] [.inr (.inl l1), .inr (.inl x0)] σ Q := w_ld d21_12 rfl
theorem d21_13 : adec m21 13 = some (.invokevirtual 40, 3) := by decide +kernel
theorem s21_13 {l0 : Nat} {l1 : Nat} {x0 : Nat} {x1 : Nat} : WP m21 13 [.inr (.inl l0), .inr (.inl l1)] [.inr (.inl x1), .inr (.inl x0)] σ Q = (isO x1 3 ∧ CA m28 [.inr (.inl x1)] σ (fun v σ2 => WP m21 16 [.inr (.inl l0), .inr (.inl l1)] (v ++ [.inr (.inl x0)]) σ2 Q)) := w_cV (k := 28) d21_13 (by decide +kernel) m28_at rfl rfl ⟨Nat.le_of_ble_eq_true rfl, Nat.le_of_ble_eq_true rfl, Nat.le_of_ble_eq_true rfl⟩ (by decide)
theorem d21_16 : adec m21 16 = some (.iconst (1), 1) := by decide +kernel
theorem s21_16 {l0 : Nat} {l1 : Nat} {x0 : Nat} {x1 : Int} : WP m21 16 [.inr (.inl l0), .inr (.inl l1)] [.inl x1, .inr (.inl x0)] σ Q = WP m21 17 [.inr (.inl l0), .inr (.inl l1)] [.inl (1), .inl x1, .inr (.inl x0)] σ Q := w_iconst d21_16 (by decide)
theorem d21_17 : adec m21 17 = some (.invokevirtual 36, 3) := by decide +kernel
theorem s21_17 {l0 : Nat} {l1 : Nat} {x1 : Int} {x2 : Int} : WP m21 17 [.inr (.inl l0), .inr (.inl l1)] [.inl x2, .inl x1, .inr (.inl 55)] σ Q = CA m26 [.inr (.inl 55), .inl x1, .inl x2] σ (fun v σ2 => WP m21 20 [.inr (.inl l0), .inr (.inl l1)] (v ++ []) σ2 Q) := (w_cV (k := 26) d21_17 (by decide +kernel) m26_at rfl rfl ⟨Nat.le_of_ble_eq_true rfl, Nat.le_of_ble_eq_true rfl, Nat.le_of_ble_eq_true rfl⟩ (by decide)).trans (g_and (isO_dec (by decide +kernel)))
theorem d21_20 : adec m21 20 = some (.aload_n 0, 1) := by decide +kernel
theorem s21_20 {l0 : Nat} {l1 : Nat} : WP m21 20 [.inr (.inl l0), .inr (.inl l1)] [] σ Q = WP m21 21 [.inr (.inl l0), .inr (.inl l1)] [.inr (.inl l0)] σ Q := w_ld d21_20 rfl
theorem d21_21 : adec m21 21 = some (.dup, 1) := by decide +kernel
theorem s21_21 {l0 : Nat} {l1 : Nat} {x0 : Nat} : WP m21 21 [.inr (.inl l0), .inr (.inl l1)] [.inr (.inl x0)] σ Q = WP m21 22 [.inr (.inl l0), .inr (.inl l1)] [.inr (.inl x0), .inr (.inl x0)] σ Q := w_ld d21_21 rfl
theorem d21_22 : adec m21 22 = some (.getfield 30, 3) := by decide +kernel
theorem s21_22 {l0 : Nat} {l1 : Nat} {x0 : Nat} : WP m21 22 [.inr (.inl l0), .inr (.inl l1)] [.inr (.inl 55), .inr (.inl x0)] σ Q = WP m21 25 [.inr (.inl l0), .inr (.inl l1)] [.inl (σ 55 2), .inr (.inl x0)] σ Q := (w_getI (c := 2) (n := 2) d21_22 (by decide +kernel) (by decide +kernel)).trans (g_and (isO_dec (by decide +kernel)))
theorem d21_25 : adec m21 25 = some (.iconst (1), 1) := by decide +kernel
theorem s21_25 {l0 : Nat} {l1 : Nat} {x0 : Nat} {x1 : Int} : WP m21 25 [.inr (.inl l0), .inr (.inl l1)] [.inl x1, .inr (.inl x0)] σ Q = WP m21 26 [.inr (.inl l0), .inr (.inl l1)] [.inl (1), .inl x1, .inr (.inl x0)] σ Q := w_iconst d21_25 (by decide)
theorem d21_26 : adec m21 26 = some (.iadd, 1) := by decide +kernel
theorem s21_26 {l0 : Nat} {l1 : Nat} {x0 : Nat} {x1 : Int} {x2 : Int} : WP m21 26 [.inr (.inl l0), .inr (.inl l1)] [.inl x2, .inl x1, .inr (.inl x0)] σ Q = (inI (x1 + x2) ∧ WP m21 27 [.inr (.inl l0), .inr (.inl l1)] [.inl (x1 + x2), .inr (.inl x0)] σ Q) := w_iadd d21_26
theorem d21_27 : adec m21 27 = some (.putfield 30, 3) := by decide +kernel
theorem s21_27 {l0 : Nat} {l1 : Nat} {x1 : Int} : WP m21 27 [.inr (.inl l0), .inr (.inl l1)] [.inl x1, .inr (.inl 55)] σ Q = WP m21 30 [.inr (.inl l0), .inr (.inl l1)] [] (aup σ 55 2 x1) Q := (w_putI (c := 2) (n := 2) d21_27 (by decide +kernel) (by decide +kernel) (by decide +kernel)).trans (g_and (isO_dec (by decide +kernel)))
theorem d21_30 : adec m21 30 = some (.iconst (0), 1) := by decide +kernel
theorem s21_30 {l0 : Nat} {l1 : Nat} : WP m21 30 [.inr (.inl l0), .inr (.inl l1)] [] σ Q = WP m21 31 [.inr (.inl l0), .inr (.inl l1)] [.inl (0)] σ Q := w_iconst d21_30 (by decide)
theorem d21_31 : adec m21 31 = some (.ireturn, 1) := by decide +kernel
theorem s21_31 {l0 : Nat} {l1 : Nat} {x0 : Int} : WP m21 31 [.inr (.inl l0), .inr (.inl l1)] [.inl x0] σ Q = Q [.inl x0] σ := w_ri d21_31 rfl
theorem e21 {p0 : Nat} {p1 : Nat} : CA m21 [.inr (.inl p0), .inr (.inl p1)] σ Q = WP m21 0 [.inr (.inl p0), .inr (.inl p1)] [] σ Q := rfl
-- BinderPress$Reader.readClosing(LBinderPress$Row;)I
theorem d22_0 : adec m22 0 = some (.aload_n 0, 1) := by decide +kernel
theorem s22_0 {l0 : Nat} {l1 : Nat} {l2 : AV} : WP m22 0 [.inr (.inl l0), .inr (.inl l1), l2] [] σ Q = WP m22 1 [.inr (.inl l0), .inr (.inl l1), l2] [.inr (.inl l0)] σ Q := w_ld d22_0 rfl
theorem d22_1 : adec m22 1 = some (.getfield 30, 3) := by decide +kernel
theorem s22_1 {l0 : Nat} {l1 : Nat} {l2 : AV} : WP m22 1 [.inr (.inl l0), .inr (.inl l1), l2] [.inr (.inl 55)] σ Q = WP m22 4 [.inr (.inl l0), .inr (.inl l1), l2] [.inl (σ 55 2)] σ Q := (w_getI (c := 2) (n := 2) d22_1 (by decide +kernel) (by decide +kernel)).trans (g_and (isO_dec (by decide +kernel)))
theorem d22_4 : adec m22 4 = some (.ifCond .eq (11), 3) := by decide +kernel
theorem s22_4 {l0 : Nat} {l1 : Nat} {l2 : AV} {x0 : Int} : WP m22 4 [.inr (.inl l0), .inr (.inl l1), l2] [.inl x0] σ Q = (if x0 = 0 then WP m22 15 [.inr (.inl l0), .inr (.inl l1), l2] [] σ Q else WP m22 7 [.inr (.inl l0), .inr (.inl l1), l2] [] σ Q) := w_ifeq d22_4 (by decide)
theorem d22_7 : adec m22 7 = some (.aload_n 0, 1) := by decide +kernel
theorem s22_7 {l0 : Nat} {l1 : Nat} {l2 : AV} : WP m22 7 [.inr (.inl l0), .inr (.inl l1), l2] [] σ Q = WP m22 8 [.inr (.inl l0), .inr (.inl l1), l2] [.inr (.inl l0)] σ Q := w_ld d22_7 rfl
theorem d22_8 : adec m22 8 = some (.aload_n 1, 1) := by decide +kernel
theorem s22_8 {l0 : Nat} {l1 : Nat} {l2 : AV} {x0 : Nat} : WP m22 8 [.inr (.inl l0), .inr (.inl l1), l2] [.inr (.inl x0)] σ Q = WP m22 9 [.inr (.inl l0), .inr (.inl l1), l2] [.inr (.inl l1), .inr (.inl x0)] σ Q := w_ld d22_8 rfl
theorem d22_9 : adec m22 9 = some (.invokevirtual 52, 3) := by decide +kernel
theorem s22_9 {l0 : Nat} {l1 : Nat} {l2 : AV} {x1 : Nat} : WP m22 9 [.inr (.inl l0), .inr (.inl l1), l2] [.inr (.inl x1), .inr (.inl 55)] σ Q = CA m25 [.inr (.inl 55), .inr (.inl x1)] σ (fun v σ2 => WP m22 12 [.inr (.inl l0), .inr (.inl l1), l2] (v ++ []) σ2 Q) := (w_cV (k := 25) d22_9 (by decide +kernel) m25_at rfl rfl ⟨Nat.le_of_ble_eq_true rfl, Nat.le_of_ble_eq_true rfl, Nat.le_of_ble_eq_true rfl⟩ (by decide)).trans (g_and (isO_dec (by decide +kernel)))
theorem d22_12 : adec m22 12 = some (.ifCond .ne (5), 3) := by decide +kernel
theorem s22_12 {l0 : Nat} {l1 : Nat} {l2 : AV} {x0 : Int} : WP m22 12 [.inr (.inl l0), .inr (.inl l1), l2] [.inl x0] σ Q = (if x0 = 0 then WP m22 15 [.inr (.inl l0), .inr (.inl l1), l2] [] σ Q else WP m22 17 [.inr (.inl l0), .inr (.inl l1), l2] [] σ Q) := w_ifne d22_12 (by decide)
theorem d22_15 : adec m22 15 = some (.iconst (1), 1) := by decide +kernel
theorem s22_15 {l0 : Nat} {l1 : Nat} {l2 : AV} : WP m22 15 [.inr (.inl l0), .inr (.inl l1), l2] [] σ Q = WP m22 16 [.inr (.inl l0), .inr (.inl l1), l2] [.inl (1)] σ Q := w_iconst d22_15 (by decide)
theorem d22_16 : adec m22 16 = some (.ireturn, 1) := by decide +kernel
theorem s22_16 {l0 : Nat} {l1 : Nat} {l2 : AV} {x0 : Int} : WP m22 16 [.inr (.inl l0), .inr (.inl l1), l2] [.inl x0] σ Q = Q [.inl x0] σ := w_ri d22_16 rfl
theorem d22_17 : adec m22 17 = some (.aload_n 0, 1) := by decide +kernel
theorem s22_17 {l0 : Nat} {l1 : Nat} {l2 : AV} : WP m22 17 [.inr (.inl l0), .inr (.inl l1), l2] [] σ Q = WP m22 18 [.inr (.inl l0), .inr (.inl l1), l2] [.inr (.inl l0)] σ Q := w_ld d22_17 rfl
theorem d22_18 : adec m22 18 = some (.dup, 1) := by decide +kernel
theorem s22_18 {l0 : Nat} {l1 : Nat} {l2 : AV} {x0 : Nat} : WP m22 18 [.inr (.inl l0), .inr (.inl l1), l2] [.inr (.inl x0)] σ Q = WP m22 19 [.inr (.inl l0), .inr (.inl l1), l2] [.inr (.inl x0), .inr (.inl x0)] σ Q := w_ld d22_18 rfl
theorem d22_19 : adec m22 19 = some (.getfield 30, 3) := by decide +kernel
theorem s22_19 {l0 : Nat} {l1 : Nat} {l2 : AV} {x0 : Nat} : WP m22 19 [.inr (.inl l0), .inr (.inl l1), l2] [.inr (.inl 55), .inr (.inl x0)] σ Q = WP m22 22 [.inr (.inl l0), .inr (.inl l1), l2] [.inl (σ 55 2), .inr (.inl x0)] σ Q := (w_getI (c := 2) (n := 2) d22_19 (by decide +kernel) (by decide +kernel)).trans (g_and (isO_dec (by decide +kernel)))
theorem d22_22 : adec m22 22 = some (.iconst (1), 1) := by decide +kernel
theorem s22_22 {l0 : Nat} {l1 : Nat} {l2 : AV} {x0 : Nat} {x1 : Int} : WP m22 22 [.inr (.inl l0), .inr (.inl l1), l2] [.inl x1, .inr (.inl x0)] σ Q = WP m22 23 [.inr (.inl l0), .inr (.inl l1), l2] [.inl (1), .inl x1, .inr (.inl x0)] σ Q := w_iconst d22_22 (by decide)
theorem d22_23 : adec m22 23 = some (.isub, 1) := by decide +kernel
theorem s22_23 {l0 : Nat} {l1 : Nat} {l2 : AV} {x0 : Nat} {x1 : Int} {x2 : Int} : WP m22 23 [.inr (.inl l0), .inr (.inl l1), l2] [.inl x2, .inl x1, .inr (.inl x0)] σ Q = (inI (x1 - x2) ∧ WP m22 24 [.inr (.inl l0), .inr (.inl l1), l2] [.inl (x1 - x2), .inr (.inl x0)] σ Q) := w_isub d22_23
theorem d22_24 : adec m22 24 = some (.putfield 30, 3) := by decide +kernel
theorem s22_24 {l0 : Nat} {l1 : Nat} {l2 : AV} {x1 : Int} : WP m22 24 [.inr (.inl l0), .inr (.inl l1), l2] [.inl x1, .inr (.inl 55)] σ Q = WP m22 27 [.inr (.inl l0), .inr (.inl l1), l2] [] (aup σ 55 2 x1) Q := (w_putI (c := 2) (n := 2) d22_24 (by decide +kernel) (by decide +kernel) (by decide +kernel)).trans (g_and (isO_dec (by decide +kernel)))
theorem d22_27 : adec m22 27 = some (.aload_n 0, 1) := by decide +kernel
theorem s22_27 {l0 : Nat} {l1 : Nat} {l2 : AV} : WP m22 27 [.inr (.inl l0), .inr (.inl l1), l2] [] σ Q = WP m22 28 [.inr (.inl l0), .inr (.inl l1), l2] [.inr (.inl l0)] σ Q := w_ld d22_27 rfl
theorem d22_28 : adec m22 28 = some (.getfield 14, 3) := by decide +kernel
theorem s22_28 {l0 : Nat} {l1 : Nat} {l2 : AV} : WP m22 28 [.inr (.inl l0), .inr (.inl l1), l2] [.inr (.inl 55)] σ Q = WP m22 31 [.inr (.inl l0), .inr (.inl l1), l2] [.inr (.inl 56)] σ Q := (w_getR (c := 2) (n := 0) d22_28 (by decide +kernel) (by decide +kernel)).trans (g_and ⟨isO_dec (by decide +kernel), by decide +kernel⟩)
theorem d22_31 : adec m22 31 = some (.invokevirtual 40, 3) := by decide +kernel
theorem s22_31 {l0 : Nat} {l1 : Nat} {l2 : AV} {x0 : Nat} : WP m22 31 [.inr (.inl l0), .inr (.inl l1), l2] [.inr (.inl x0)] σ Q = (isO x0 3 ∧ CA m28 [.inr (.inl x0)] σ (fun v σ2 => WP m22 34 [.inr (.inl l0), .inr (.inl l1), l2] (v ++ []) σ2 Q)) := w_cV (k := 28) d22_31 (by decide +kernel) m28_at rfl rfl ⟨Nat.le_of_ble_eq_true rfl, Nat.le_of_ble_eq_true rfl, Nat.le_of_ble_eq_true rfl⟩ (by decide)
theorem d22_34 : adec m22 34 = some (.istore_n 2, 1) := by decide +kernel
theorem s22_34 {l0 : Nat} {l1 : Nat} {l2 : AV} {x0 : Int} : WP m22 34 [.inr (.inl l0), .inr (.inl l1), l2] [.inl x0] σ Q = WP m22 35 [.inr (.inl l0), .inr (.inl l1), .inl x0] [] σ Q := w_st1 (j := 2) d22_34 rfl (Nat.le_of_ble_eq_true rfl) rfl
theorem d22_35 : adec m22 35 = some (.iload_n 2, 1) := by decide +kernel
theorem s22_35 {l0 : Nat} {l1 : Nat} {l2 : Int} : WP m22 35 [.inr (.inl l0), .inr (.inl l1), .inl l2] [] σ Q = WP m22 36 [.inr (.inl l0), .inr (.inl l1), .inl l2] [.inl l2] σ Q := w_ld d22_35 rfl
theorem d22_36 : adec m22 36 = some (.ifCond .le (30), 3) := by decide +kernel
theorem s22_36 {l0 : Nat} {l1 : Nat} {l2 : Int} {x0 : Int} : WP m22 36 [.inr (.inl l0), .inr (.inl l1), .inl l2] [.inl x0] σ Q = (if x0 ≤ 0 then WP m22 66 [.inr (.inl l0), .inr (.inl l1), .inl l2] [] σ Q else WP m22 39 [.inr (.inl l0), .inr (.inl l1), .inl l2] [] σ Q) := w_ifle d22_36 (by decide)
theorem d22_39 : adec m22 39 = some (.aload_n 0, 1) := by decide +kernel
theorem s22_39 {l0 : Nat} {l1 : Nat} {l2 : Int} : WP m22 39 [.inr (.inl l0), .inr (.inl l1), .inl l2] [] σ Q = WP m22 40 [.inr (.inl l0), .inr (.inl l1), .inl l2] [.inr (.inl l0)] σ Q := w_ld d22_39 rfl
theorem d22_40 : adec m22 40 = some (.getfield 14, 3) := by decide +kernel
theorem s22_40 {l0 : Nat} {l1 : Nat} {l2 : Int} : WP m22 40 [.inr (.inl l0), .inr (.inl l1), .inl l2] [.inr (.inl 55)] σ Q = WP m22 43 [.inr (.inl l0), .inr (.inl l1), .inl l2] [.inr (.inl 56)] σ Q := (w_getR (c := 2) (n := 0) d22_40 (by decide +kernel) (by decide +kernel)).trans (g_and ⟨isO_dec (by decide +kernel), by decide +kernel⟩)
theorem d22_43 : adec m22 43 = some (.invokevirtual 86, 3) := by decide +kernel
theorem s22_43 {l0 : Nat} {l1 : Nat} {l2 : Int} {x0 : Nat} : WP m22 43 [.inr (.inl l0), .inr (.inl l1), .inl l2] [.inr (.inl x0)] σ Q = (isO x0 3 ∧ CA m35 [.inr (.inl x0)] σ (fun v σ2 => WP m22 46 [.inr (.inl l0), .inr (.inl l1), .inl l2] (v ++ []) σ2 Q)) := w_cV (k := 35) d22_43 (by decide +kernel) m35_at rfl rfl ⟨Nat.le_of_ble_eq_true rfl, Nat.le_of_ble_eq_true rfl, Nat.le_of_ble_eq_true rfl⟩ (by decide)
theorem d22_46 : adec m22 46 = some (.pop, 1) := by decide +kernel
theorem s22_46 {l0 : Nat} {l1 : Nat} {l2 : Int} {x0 : Int} : WP m22 46 [.inr (.inl l0), .inr (.inl l1), .inl l2] [.inl x0] σ Q = WP m22 47 [.inr (.inl l0), .inr (.inl l1), .inl l2] [] σ Q := w_ld d22_46 rfl
theorem d22_47 : adec m22 47 = some (.aload_n 0, 1) := by decide +kernel
theorem s22_47 {l0 : Nat} {l1 : Nat} {l2 : Int} : WP m22 47 [.inr (.inl l0), .inr (.inl l1), .inl l2] [] σ Q = WP m22 48 [.inr (.inl l0), .inr (.inl l1), .inl l2] [.inr (.inl l0)] σ Q := w_ld d22_47 rfl
theorem d22_48 : adec m22 48 = some (.getfield 20, 3) := by decide +kernel
theorem s22_48 {l0 : Nat} {l1 : Nat} {l2 : Int} : WP m22 48 [.inr (.inl l0), .inr (.inl l1), .inl l2] [.inr (.inl 55)] σ Q = WP m22 51 [.inr (.inl l0), .inr (.inl l1), .inl l2] [.inr (.inl 58)] σ Q := (w_getR (c := 2) (n := 1) d22_48 (by decide +kernel) (by decide +kernel)).trans (g_and ⟨isO_dec (by decide +kernel), by decide +kernel⟩)
theorem d22_51 : adec m22 51 = some (.invokevirtual 86, 3) := by decide +kernel
theorem s22_51 {l0 : Nat} {l1 : Nat} {l2 : Int} {x0 : Nat} : WP m22 51 [.inr (.inl l0), .inr (.inl l1), .inl l2] [.inr (.inl x0)] σ Q = (isO x0 3 ∧ CA m35 [.inr (.inl x0)] σ (fun v σ2 => WP m22 54 [.inr (.inl l0), .inr (.inl l1), .inl l2] (v ++ []) σ2 Q)) := w_cV (k := 35) d22_51 (by decide +kernel) m35_at rfl rfl ⟨Nat.le_of_ble_eq_true rfl, Nat.le_of_ble_eq_true rfl, Nat.le_of_ble_eq_true rfl⟩ (by decide)
theorem d22_54 : adec m22 54 = some (.iconst (1), 1) := by decide +kernel
theorem s22_54 {l0 : Nat} {l1 : Nat} {l2 : Int} {x0 : Int} : WP m22 54 [.inr (.inl l0), .inr (.inl l1), .inl l2] [.inl x0] σ Q = WP m22 55 [.inr (.inl l0), .inr (.inl l1), .inl l2] [.inl (1), .inl x0] σ Q := w_iconst d22_54 (by decide)
theorem d22_55 : adec m22 55 = some (.if_icmp .ne (5), 3) := by decide +kernel
theorem s22_55 {l0 : Nat} {l1 : Nat} {l2 : Int} {x0 : Int} {x1 : Int} : WP m22 55 [.inr (.inl l0), .inr (.inl l1), .inl l2] [.inl x1, .inl x0] σ Q = (if x0 = x1 then WP m22 58 [.inr (.inl l0), .inr (.inl l1), .inl l2] [] σ Q else WP m22 60 [.inr (.inl l0), .inr (.inl l1), .inl l2] [] σ Q) := w_icne d22_55 (by decide)
theorem d22_58 : adec m22 58 = some (.iconst (0), 1) := by decide +kernel
theorem s22_58 {l0 : Nat} {l1 : Nat} {l2 : Int} : WP m22 58 [.inr (.inl l0), .inr (.inl l1), .inl l2] [] σ Q = WP m22 59 [.inr (.inl l0), .inr (.inl l1), .inl l2] [.inl (0)] σ Q := w_iconst d22_58 (by decide)
theorem d22_59 : adec m22 59 = some (.ireturn, 1) := by decide +kernel
theorem s22_59 {l0 : Nat} {l1 : Nat} {l2 : Int} {x0 : Int} : WP m22 59 [.inr (.inl l0), .inr (.inl l1), .inl l2] [.inl x0] σ Q = Q [.inl x0] σ := w_ri d22_59 rfl
theorem d22_60 : adec m22 60 = some (.iinc 2 (-1), 3) := by decide +kernel
theorem s22_60 {l0 : Nat} {l1 : Nat} {l2 : Int} : WP m22 60 [.inr (.inl l0), .inr (.inl l1), .inl l2] [] σ Q = (inI (l2 + (-1)) ∧ WP m22 63 [.inr (.inl l0), .inr (.inl l1), .inl (l2 + (-1))] [] σ Q) := w_iinc d22_60 rfl rfl
theorem d22_63 : adec m22 63 = some (.goto (-28), 3) := by decide +kernel
theorem s22_63 {l0 : Nat} {l1 : Nat} {l2 : Int} : WP m22 63 [.inr (.inl l0), .inr (.inl l1), .inl l2] [] σ Q = WP m22 35 [.inr (.inl l0), .inr (.inl l1), .inl l2] [] σ Q := w_goto d22_63 (by decide)
theorem d22_66 : adec m22 66 = some (.iconst (1), 1) := by decide +kernel
theorem s22_66 {l0 : Nat} {l1 : Nat} {l2 : Int} : WP m22 66 [.inr (.inl l0), .inr (.inl l1), .inl l2] [] σ Q = WP m22 67 [.inr (.inl l0), .inr (.inl l1), .inl l2] [.inl (1)] σ Q := w_iconst d22_66 (by decide)
theorem d22_67 : adec m22 67 = some (.ireturn, 1) := by decide +kernel
theorem s22_67 {l0 : Nat} {l1 : Nat} {l2 : Int} {x0 : Int} : WP m22 67 [.inr (.inl l0), .inr (.inl l1), .inl l2] [.inl x0] σ Q = Q [.inl x0] σ := w_ri d22_67 rfl
theorem e22 {p0 : Nat} {p1 : Nat} : CA m22 [.inr (.inl p0), .inr (.inl p1)] σ Q = WP m22 0 [.inr (.inl p0), .inr (.inl p1), vU] [] σ Q := rfl
-- BinderPress$Reader.addCell(ILBinderPress$Row;)I
theorem d23_0 : adec m23 0 = some (.aload_n 0, 1) := by decide +kernel
theorem s23_0 {l0 : Nat} {l1 : Int} {l2 : Nat} : WP m23 0 [.inr (.inl l0), .inl l1, .inr (.inl l2)] [] σ Q = WP m23 1 [.inr (.inl l0), .inl l1, .inr (.inl l2)] [.inr (.inl l0)] σ Q := w_ld d23_0 rfl
theorem d23_1 : adec m23 1 = some (.iconst (1), 1) := by decide +kernel
theorem s23_1 {l0 : Nat} {l1 : Int} {l2 : Nat} {x0 : Nat} : WP m23 1 [.inr (.inl l0), .inl l1, .inr (.inl l2)] [.inr (.inl x0)] σ Q = WP m23 2 [.inr (.inl l0), .inl l1, .inr (.inl l2)] [.inl (1), .inr (.inl x0)] σ Q := w_iconst d23_1 (by decide)
theorem d23_2 : adec m23 2 = some (.aload_n 2, 1) := by decide +kernel
theorem s23_2 {l0 : Nat} {l1 : Int} {l2 : Nat} {x0 : Nat} {x1 : Int} : WP m23 2 [.inr (.inl l0), .inl l1, .inr (.inl l2)] [.inl x1, .inr (.inl x0)] σ Q = WP m23 3 [.inr (.inl l0), .inl l1, .inr (.inl l2)] [.inr (.inl l2), .inl x1, .inr (.inl x0)] σ Q := w_ld d23_2 rfl
theorem d23_3 : adec m23 3 = some (.invokevirtual 82, 3) := by decide +kernel
theorem s23_3 {l0 : Nat} {l1 : Int} {l2 : Nat} {x1 : Int} {x2 : Nat} : WP m23 3 [.inr (.inl l0), .inl l1, .inr (.inl l2)] [.inr (.inl x2), .inl x1, .inr (.inl 55)] σ Q = CA m24 [.inr (.inl 55), .inl x1, .inr (.inl x2)] σ (fun v σ2 => WP m23 6 [.inr (.inl l0), .inl l1, .inr (.inl l2)] (v ++ []) σ2 Q) := (w_cV (k := 24) d23_3 (by decide +kernel) m24_at rfl rfl ⟨Nat.le_of_ble_eq_true rfl, Nat.le_of_ble_eq_true rfl, Nat.le_of_ble_eq_true rfl⟩ (by decide)).trans (g_and (isO_dec (by decide +kernel)))
theorem d23_6 : adec m23 6 = some (.ifCond .ne (5), 3) := by decide +kernel
theorem s23_6 {l0 : Nat} {l1 : Int} {l2 : Nat} {x0 : Int} : WP m23 6 [.inr (.inl l0), .inl l1, .inr (.inl l2)] [.inl x0] σ Q = (if x0 = 0 then WP m23 9 [.inr (.inl l0), .inl l1, .inr (.inl l2)] [] σ Q else WP m23 11 [.inr (.inl l0), .inl l1, .inr (.inl l2)] [] σ Q) := w_ifne d23_6 (by decide)
theorem d23_9 : adec m23 9 = some (.iconst (2), 1) := by decide +kernel
theorem s23_9 {l0 : Nat} {l1 : Int} {l2 : Nat} : WP m23 9 [.inr (.inl l0), .inl l1, .inr (.inl l2)] [] σ Q = WP m23 10 [.inr (.inl l0), .inl l1, .inr (.inl l2)] [.inl (2)] σ Q := w_iconst d23_9 (by decide)
theorem d23_10 : adec m23 10 = some (.ireturn, 1) := by decide +kernel
theorem s23_10 {l0 : Nat} {l1 : Int} {l2 : Nat} {x0 : Int} : WP m23 10 [.inr (.inl l0), .inl l1, .inr (.inl l2)] [.inl x0] σ Q = Q [.inl x0] σ := w_ri d23_10 rfl
theorem d23_11 : adec m23 11 = some (.aload_n 2, 1) := by decide +kernel
theorem s23_11 {l0 : Nat} {l1 : Int} {l2 : Nat} : WP m23 11 [.inr (.inl l0), .inl l1, .inr (.inl l2)] [] σ Q = WP m23 12 [.inr (.inl l0), .inl l1, .inr (.inl l2)] [.inr (.inl l2)] σ Q := w_ld d23_11 rfl
theorem d23_12 : adec m23 12 = some (.iload_n 1, 1) := by decide +kernel
theorem s23_12 {l0 : Nat} {l1 : Int} {l2 : Nat} {x0 : Nat} : WP m23 12 [.inr (.inl l0), .inl l1, .inr (.inl l2)] [.inr (.inl x0)] σ Q = WP m23 13 [.inr (.inl l0), .inl l1, .inr (.inl l2)] [.inl l1, .inr (.inl x0)] σ Q := w_ld d23_12 rfl
theorem d23_13 : adec m23 13 = some (.invokevirtual 89, 3) := by decide +kernel
theorem s23_13 {l0 : Nat} {l1 : Int} {l2 : Nat} {x0 : Nat} {x1 : Int} : WP m23 13 [.inr (.inl l0), .inl l1, .inr (.inl l2)] [.inl x1, .inr (.inl x0)] σ Q = (isO x0 3 ∧ CA m34 [.inr (.inl x0), .inl x1] σ (fun v σ2 => WP m23 16 [.inr (.inl l0), .inl l1, .inr (.inl l2)] (v ++ []) σ2 Q)) := w_cV (k := 34) d23_13 (by decide +kernel) m34_at rfl rfl ⟨Nat.le_of_ble_eq_true rfl, Nat.le_of_ble_eq_true rfl, Nat.le_of_ble_eq_true rfl⟩ (by decide)
theorem d23_16 : adec m23 16 = some (.iconst (0), 1) := by decide +kernel
theorem s23_16 {l0 : Nat} {l1 : Int} {l2 : Nat} : WP m23 16 [.inr (.inl l0), .inl l1, .inr (.inl l2)] [] σ Q = WP m23 17 [.inr (.inl l0), .inl l1, .inr (.inl l2)] [.inl (0)] σ Q := w_iconst d23_16 (by decide)
theorem d23_17 : adec m23 17 = some (.ireturn, 1) := by decide +kernel
theorem s23_17 {l0 : Nat} {l1 : Int} {l2 : Nat} {x0 : Int} : WP m23 17 [.inr (.inl l0), .inl l1, .inr (.inl l2)] [.inl x0] σ Q = Q [.inl x0] σ := w_ri d23_17 rfl
theorem e23 {p0 : Nat} {p1 : Int} {p2 : Nat} : CA m23 [.inr (.inl p0), .inl p1, .inr (.inl p2)] σ Q = WP m23 0 [.inr (.inl p0), .inl p1, .inr (.inl p2)] [] σ Q := rfl
-- BinderPress$Reader.joins(ILBinderPress$Row;)Z
theorem d24_0 : adec m24 0 = some (.aload_n 0, 1) := by decide +kernel
theorem s24_0 {l0 : Nat} {l1 : Int} {l2 : Nat} {l3 : AV} {l4 : AV} : WP m24 0 [.inr (.inl l0), .inl l1, .inr (.inl l2), l3, l4] [] σ Q = WP m24 1 [.inr (.inl l0), .inl l1, .inr (.inl l2), l3, l4] [.inr (.inl l0)] σ Q := w_ld d24_0 rfl
theorem d24_1 : adec m24 1 = some (.aload_n 2, 1) := by decide +kernel
theorem s24_1 {l0 : Nat} {l1 : Int} {l2 : Nat} {l3 : AV} {l4 : AV} {x0 : Nat} : WP m24 1 [.inr (.inl l0), .inl l1, .inr (.inl l2), l3, l4] [.inr (.inl x0)] σ Q = WP m24 2 [.inr (.inl l0), .inl l1, .inr (.inl l2), l3, l4] [.inr (.inl l2), .inr (.inl x0)] σ Q := w_ld d24_1 rfl
theorem d24_2 : adec m24 2 = some (.invokevirtual 52, 3) := by decide +kernel
theorem s24_2 {l0 : Nat} {l1 : Int} {l2 : Nat} {l3 : AV} {l4 : AV} {x1 : Nat} : WP m24 2 [.inr (.inl l0), .inl l1, .inr (.inl l2), l3, l4] [.inr (.inl x1), .inr (.inl 55)] σ Q = CA m25 [.inr (.inl 55), .inr (.inl x1)] σ (fun v σ2 => WP m24 5 [.inr (.inl l0), .inl l1, .inr (.inl l2), l3, l4] (v ++ []) σ2 Q) := (w_cV (k := 25) d24_2 (by decide +kernel) m25_at rfl rfl ⟨Nat.le_of_ble_eq_true rfl, Nat.le_of_ble_eq_true rfl, Nat.le_of_ble_eq_true rfl⟩ (by decide)).trans (g_and (isO_dec (by decide +kernel)))
theorem d24_5 : adec m24 5 = some (.istore_n 3, 1) := by decide +kernel
theorem s24_5 {l0 : Nat} {l1 : Int} {l2 : Nat} {l3 : AV} {l4 : AV} {x0 : Int} : WP m24 5 [.inr (.inl l0), .inl l1, .inr (.inl l2), l3, l4] [.inl x0] σ Q = WP m24 6 [.inr (.inl l0), .inl l1, .inr (.inl l2), .inl x0, l4] [] σ Q := w_st1 (j := 3) d24_5 rfl (Nat.le_of_ble_eq_true rfl) rfl
theorem d24_6 : adec m24 6 = some (.aload_n 2, 1) := by decide +kernel
theorem s24_6 {l0 : Nat} {l1 : Int} {l2 : Nat} {l3 : Int} {l4 : AV} : WP m24 6 [.inr (.inl l0), .inl l1, .inr (.inl l2), .inl l3, l4] [] σ Q = WP m24 7 [.inr (.inl l0), .inl l1, .inr (.inl l2), .inl l3, l4] [.inr (.inl l2)] σ Q := w_ld d24_6 rfl
theorem d24_7 : adec m24 7 = some (.invokevirtual 40, 3) := by decide +kernel
theorem s24_7 {l0 : Nat} {l1 : Int} {l2 : Nat} {l3 : Int} {l4 : AV} {x0 : Nat} : WP m24 7 [.inr (.inl l0), .inl l1, .inr (.inl l2), .inl l3, l4] [.inr (.inl x0)] σ Q = (isO x0 3 ∧ CA m28 [.inr (.inl x0)] σ (fun v σ2 => WP m24 10 [.inr (.inl l0), .inl l1, .inr (.inl l2), .inl l3, l4] (v ++ []) σ2 Q)) := w_cV (k := 28) d24_7 (by decide +kernel) m28_at rfl rfl ⟨Nat.le_of_ble_eq_true rfl, Nat.le_of_ble_eq_true rfl, Nat.le_of_ble_eq_true rfl⟩ (by decide)
theorem d24_10 : adec m24 10 = some (.iload_n 1, 1) := by decide +kernel
theorem s24_10 {l0 : Nat} {l1 : Int} {l2 : Nat} {l3 : Int} {l4 : AV} {x0 : Int} : WP m24 10 [.inr (.inl l0), .inl l1, .inr (.inl l2), .inl l3, l4] [.inl x0] σ Q = WP m24 11 [.inr (.inl l0), .inl l1, .inr (.inl l2), .inl l3, l4] [.inl l1, .inl x0] σ Q := w_ld d24_10 rfl
theorem d24_11 : adec m24 11 = some (.iadd, 1) := by decide +kernel
theorem s24_11 {l0 : Nat} {l1 : Int} {l2 : Nat} {l3 : Int} {l4 : AV} {x0 : Int} {x1 : Int} : WP m24 11 [.inr (.inl l0), .inl l1, .inr (.inl l2), .inl l3, l4] [.inl x1, .inl x0] σ Q = (inI (x0 + x1) ∧ WP m24 12 [.inr (.inl l0), .inl l1, .inr (.inl l2), .inl l3, l4] [.inl (x0 + x1)] σ Q) := w_iadd d24_11
theorem d24_12 : adec m24 12 = some (.iload_n 3, 1) := by decide +kernel
theorem s24_12 {l0 : Nat} {l1 : Int} {l2 : Nat} {l3 : Int} {l4 : AV} {x0 : Int} : WP m24 12 [.inr (.inl l0), .inl l1, .inr (.inl l2), .inl l3, l4] [.inl x0] σ Q = WP m24 13 [.inr (.inl l0), .inl l1, .inr (.inl l2), .inl l3, l4] [.inl l3, .inl x0] σ Q := w_ld d24_12 rfl
theorem d24_13 : adec m24 13 = some (.ifCond .eq (7), 3) := by decide +kernel
theorem s24_13 {l0 : Nat} {l1 : Int} {l2 : Nat} {l3 : Int} {l4 : AV} {x0 : Int} {x1 : Int} : WP m24 13 [.inr (.inl l0), .inl l1, .inr (.inl l2), .inl l3, l4] [.inl x1, .inl x0] σ Q = (if x1 = 0 then WP m24 20 [.inr (.inl l0), .inl l1, .inr (.inl l2), .inl l3, l4] [.inl x0] σ Q else WP m24 16 [.inr (.inl l0), .inl l1, .inr (.inl l2), .inl l3, l4] [.inl x0] σ Q) := w_ifeq d24_13 (by decide)
theorem d24_16 : adec m24 16 = some (.iconst (1), 1) := by decide +kernel
theorem s24_16 {l0 : Nat} {l1 : Int} {l2 : Nat} {l3 : Int} {l4 : AV} {x0 : Int} : WP m24 16 [.inr (.inl l0), .inl l1, .inr (.inl l2), .inl l3, l4] [.inl x0] σ Q = WP m24 17 [.inr (.inl l0), .inl l1, .inr (.inl l2), .inl l3, l4] [.inl (1), .inl x0] σ Q := w_iconst d24_16 (by decide)
theorem d24_17 : adec m24 17 = some (.goto (4), 3) := by decide +kernel
theorem s24_17 {l0 : Nat} {l1 : Int} {l2 : Nat} {l3 : Int} {l4 : AV} {x0 : Int} {x1 : Int} : WP m24 17 [.inr (.inl l0), .inl l1, .inr (.inl l2), .inl l3, l4] [.inl x1, .inl x0] σ Q = WP m24 21 [.inr (.inl l0), .inl l1, .inr (.inl l2), .inl l3, l4] [.inl x1, .inl x0] σ Q := w_goto d24_17 (by decide)
theorem d24_20 : adec m24 20 = some (.iconst (0), 1) := by decide +kernel
theorem s24_20 {l0 : Nat} {l1 : Int} {l2 : Nat} {l3 : Int} {l4 : AV} {x0 : Int} : WP m24 20 [.inr (.inl l0), .inl l1, .inr (.inl l2), .inl l3, l4] [.inl x0] σ Q = WP m24 21 [.inr (.inl l0), .inl l1, .inr (.inl l2), .inl l3, l4] [.inl (0), .inl x0] σ Q := w_iconst d24_20 (by decide)
theorem d24_21 : adec m24 21 = some (.iadd, 1) := by decide +kernel
theorem s24_21 {l0 : Nat} {l1 : Int} {l2 : Nat} {l3 : Int} {l4 : AV} {x0 : Int} {x1 : Int} : WP m24 21 [.inr (.inl l0), .inl l1, .inr (.inl l2), .inl l3, l4] [.inl x1, .inl x0] σ Q = (inI (x0 + x1) ∧ WP m24 22 [.inr (.inl l0), .inl l1, .inr (.inl l2), .inl l3, l4] [.inl (x0 + x1)] σ Q) := w_iadd d24_21
theorem d24_22 : adec m24 22 = some (.istore 4, 2) := by decide +kernel
theorem s24_22 {l0 : Nat} {l1 : Int} {l2 : Nat} {l3 : Int} {l4 : AV} {x0 : Int} : WP m24 22 [.inr (.inl l0), .inl l1, .inr (.inl l2), .inl l3, l4] [.inl x0] σ Q = WP m24 24 [.inr (.inl l0), .inl l1, .inr (.inl l2), .inl l3, .inl x0] [] σ Q := w_st1 (j := 4) d24_22 rfl (Nat.le_of_ble_eq_true rfl) rfl
theorem d24_24 : adec m24 24 = some (.iload 4, 2) := by decide +kernel
theorem s24_24 {l0 : Nat} {l1 : Int} {l2 : Nat} {l3 : Int} {l4 : Int} : WP m24 24 [.inr (.inl l0), .inl l1, .inr (.inl l2), .inl l3, .inl l4] [] σ Q = WP m24 26 [.inr (.inl l0), .inl l1, .inr (.inl l2), .inl l3, .inl l4] [.inl l4] σ Q := w_ld d24_24 rfl
theorem d24_26 : adec m24 26 = some (.bipush (120), 2) := by decide +kernel
theorem s24_26 {l0 : Nat} {l1 : Int} {l2 : Nat} {l3 : Int} {l4 : Int} {x0 : Int} : WP m24 26 [.inr (.inl l0), .inl l1, .inr (.inl l2), .inl l3, .inl l4] [.inl x0] σ Q = WP m24 28 [.inr (.inl l0), .inl l1, .inr (.inl l2), .inl l3, .inl l4] [.inl (120), .inl x0] σ Q := w_bipush d24_26 (by decide)
theorem d24_28 : adec m24 28 = some (.if_icmp .le (5), 3) := by decide +kernel
theorem s24_28 {l0 : Nat} {l1 : Int} {l2 : Nat} {l3 : Int} {l4 : Int} {x0 : Int} {x1 : Int} : WP m24 28 [.inr (.inl l0), .inl l1, .inr (.inl l2), .inl l3, .inl l4] [.inl x1, .inl x0] σ Q = (if x0 ≤ x1 then WP m24 33 [.inr (.inl l0), .inl l1, .inr (.inl l2), .inl l3, .inl l4] [] σ Q else WP m24 31 [.inr (.inl l0), .inl l1, .inr (.inl l2), .inl l3, .inl l4] [] σ Q) := w_icle d24_28 (by decide)
theorem d24_31 : adec m24 31 = some (.iconst (0), 1) := by decide +kernel
theorem s24_31 {l0 : Nat} {l1 : Int} {l2 : Nat} {l3 : Int} {l4 : Int} : WP m24 31 [.inr (.inl l0), .inl l1, .inr (.inl l2), .inl l3, .inl l4] [] σ Q = WP m24 32 [.inr (.inl l0), .inl l1, .inr (.inl l2), .inl l3, .inl l4] [.inl (0)] σ Q := w_iconst d24_31 (by decide)
theorem d24_32 : adec m24 32 = some (.ireturn, 1) := by decide +kernel
theorem s24_32 {l0 : Nat} {l1 : Int} {l2 : Nat} {l3 : Int} {l4 : Int} {x0 : Int} : WP m24 32 [.inr (.inl l0), .inl l1, .inr (.inl l2), .inl l3, .inl l4] [.inl x0] σ Q = ((x0 = 0 ∨ x0 = 1) ∧ Q [.inl x0] σ) := w_rz d24_32 rfl
theorem d24_33 : adec m24 33 = some (.iload_n 3, 1) := by decide +kernel
theorem s24_33 {l0 : Nat} {l1 : Int} {l2 : Nat} {l3 : Int} {l4 : Int} : WP m24 33 [.inr (.inl l0), .inl l1, .inr (.inl l2), .inl l3, .inl l4] [] σ Q = WP m24 34 [.inr (.inl l0), .inl l1, .inr (.inl l2), .inl l3, .inl l4] [.inl l3] σ Q := w_ld d24_33 rfl
theorem d24_34 : adec m24 34 = some (.ifCond .eq (15), 3) := by decide +kernel
theorem s24_34 {l0 : Nat} {l1 : Int} {l2 : Nat} {l3 : Int} {l4 : Int} {x0 : Int} : WP m24 34 [.inr (.inl l0), .inl l1, .inr (.inl l2), .inl l3, .inl l4] [.inl x0] σ Q = (if x0 = 0 then WP m24 49 [.inr (.inl l0), .inl l1, .inr (.inl l2), .inl l3, .inl l4] [] σ Q else WP m24 37 [.inr (.inl l0), .inl l1, .inr (.inl l2), .inl l3, .inl l4] [] σ Q) := w_ifeq d24_34 (by decide)
theorem d24_37 : adec m24 37 = some (.aload_n 2, 1) := by decide +kernel
theorem s24_37 {l0 : Nat} {l1 : Int} {l2 : Nat} {l3 : Int} {l4 : Int} : WP m24 37 [.inr (.inl l0), .inl l1, .inr (.inl l2), .inl l3, .inl l4] [] σ Q = WP m24 38 [.inr (.inl l0), .inl l1, .inr (.inl l2), .inl l3, .inl l4] [.inr (.inl l2)] σ Q := w_ld d24_37 rfl
theorem d24_38 : adec m24 38 = some (.aload_n 0, 1) := by decide +kernel
theorem s24_38 {l0 : Nat} {l1 : Int} {l2 : Nat} {l3 : Int} {l4 : Int} {x0 : Nat} : WP m24 38 [.inr (.inl l0), .inl l1, .inr (.inl l2), .inl l3, .inl l4] [.inr (.inl x0)] σ Q = WP m24 39 [.inr (.inl l0), .inl l1, .inr (.inl l2), .inl l3, .inl l4] [.inr (.inl l0), .inr (.inl x0)] σ Q := w_ld d24_38 rfl
theorem d24_39 : adec m24 39 = some (.getfield 14, 3) := by decide +kernel
theorem s24_39 {l0 : Nat} {l1 : Int} {l2 : Nat} {l3 : Int} {l4 : Int} {x0 : Nat} : WP m24 39 [.inr (.inl l0), .inl l1, .inr (.inl l2), .inl l3, .inl l4] [.inr (.inl 55), .inr (.inl x0)] σ Q = WP m24 42 [.inr (.inl l0), .inl l1, .inr (.inl l2), .inl l3, .inl l4] [.inr (.inl 56), .inr (.inl x0)] σ Q := (w_getR (c := 2) (n := 0) d24_39 (by decide +kernel) (by decide +kernel)).trans (g_and ⟨isO_dec (by decide +kernel), by decide +kernel⟩)
theorem d24_42 : adec m24 42 = some (.invokevirtual 92, 3) := by decide +kernel
theorem s24_42 {l0 : Nat} {l1 : Int} {l2 : Nat} {l3 : Int} {l4 : Int} {x0 : Nat} {x1 : Nat} : WP m24 42 [.inr (.inl l0), .inl l1, .inr (.inl l2), .inl l3, .inl l4] [.inr (.inl x1), .inr (.inl x0)] σ Q = (isO x1 3 ∧ CA m32 [.inr (.inl x1)] σ (fun v σ2 => WP m24 45 [.inr (.inl l0), .inl l1, .inr (.inl l2), .inl l3, .inl l4] (v ++ [.inr (.inl x0)]) σ2 Q)) := w_cV (k := 32) d24_42 (by decide +kernel) m32_at rfl rfl ⟨Nat.le_of_ble_eq_true rfl, Nat.le_of_ble_eq_true rfl, Nat.le_of_ble_eq_true rfl⟩ (by decide)
theorem d24_45 : adec m24 45 = some (.iconst (1), 1) := by decide +kernel
theorem s24_45 {l0 : Nat} {l1 : Int} {l2 : Nat} {l3 : Int} {l4 : Int} {x0 : Nat} {x1 : Int} : WP m24 45 [.inr (.inl l0), .inl l1, .inr (.inl l2), .inl l3, .inl l4] [.inl x1, .inr (.inl x0)] σ Q = WP m24 46 [.inr (.inl l0), .inl l1, .inr (.inl l2), .inl l3, .inl l4] [.inl (1), .inl x1, .inr (.inl x0)] σ Q := w_iconst d24_45 (by decide)
theorem d24_46 : adec m24 46 = some (.invokevirtual 95, 3) := by decide +kernel
theorem s24_46 {l0 : Nat} {l1 : Int} {l2 : Nat} {l3 : Int} {l4 : Int} {x0 : Nat} {x1 : Int} {x2 : Int} : WP m24 46 [.inr (.inl l0), .inl l1, .inr (.inl l2), .inl l3, .inl l4] [.inl x2, .inl x1, .inr (.inl x0)] σ Q = (isO x0 3 ∧ CA m36 [.inr (.inl x0), .inl x1, .inl x2] σ (fun v σ2 => WP m24 49 [.inr (.inl l0), .inl l1, .inr (.inl l2), .inl l3, .inl l4] (v ++ []) σ2 Q)) := w_cV (k := 36) d24_46 (by decide +kernel) m36_at rfl rfl ⟨Nat.le_of_ble_eq_true rfl, Nat.le_of_ble_eq_true rfl, Nat.le_of_ble_eq_true rfl⟩ (by decide)
theorem d24_49 : adec m24 49 = some (.iconst (1), 1) := by decide +kernel
theorem s24_49 {l0 : Nat} {l1 : Int} {l2 : Nat} {l3 : Int} {l4 : Int} : WP m24 49 [.inr (.inl l0), .inl l1, .inr (.inl l2), .inl l3, .inl l4] [] σ Q = WP m24 50 [.inr (.inl l0), .inl l1, .inr (.inl l2), .inl l3, .inl l4] [.inl (1)] σ Q := w_iconst d24_49 (by decide)
theorem d24_50 : adec m24 50 = some (.ireturn, 1) := by decide +kernel
theorem s24_50 {l0 : Nat} {l1 : Int} {l2 : Nat} {l3 : Int} {l4 : Int} {x0 : Int} : WP m24 50 [.inr (.inl l0), .inl l1, .inr (.inl l2), .inl l3, .inl l4] [.inl x0] σ Q = ((x0 = 0 ∨ x0 = 1) ∧ Q [.inl x0] σ) := w_rz d24_50 rfl
theorem e24 {p0 : Nat} {p1 : Int} {p2 : Nat} : CA m24 [.inr (.inl p0), .inl p1, .inr (.inl p2)] σ Q = WP m24 0 [.inr (.inl p0), .inl p1, .inr (.inl p2), vU, vU] [] σ Q := rfl
-- BinderPress$Reader.hasSome(LBinderPress$Row;)Z
theorem d25_0 : adec m25 0 = some (.aload_n 1, 1) := by decide +kernel
theorem s25_0 {l0 : Nat} {l1 : Nat} : WP m25 0 [.inr (.inl l0), .inr (.inl l1)] [] σ Q = WP m25 1 [.inr (.inl l0), .inr (.inl l1)] [.inr (.inl l1)] σ Q := w_ld d25_0 rfl
theorem d25_1 : adec m25 1 = some (.invokevirtual 40, 3) := by decide +kernel
theorem s25_1 {l0 : Nat} {l1 : Nat} {x0 : Nat} : WP m25 1 [.inr (.inl l0), .inr (.inl l1)] [.inr (.inl x0)] σ Q = (isO x0 3 ∧ CA m28 [.inr (.inl x0)] σ (fun v σ2 => WP m25 4 [.inr (.inl l0), .inr (.inl l1)] (v ++ []) σ2 Q)) := w_cV (k := 28) d25_1 (by decide +kernel) m28_at rfl rfl ⟨Nat.le_of_ble_eq_true rfl, Nat.le_of_ble_eq_true rfl, Nat.le_of_ble_eq_true rfl⟩ (by decide)
theorem d25_4 : adec m25 4 = some (.aload_n 0, 1) := by decide +kernel
theorem s25_4 {l0 : Nat} {l1 : Nat} {x0 : Int} : WP m25 4 [.inr (.inl l0), .inr (.inl l1)] [.inl x0] σ Q = WP m25 5 [.inr (.inl l0), .inr (.inl l1)] [.inr (.inl l0), .inl x0] σ Q := w_ld d25_4 rfl
theorem d25_5 : adec m25 5 = some (.getfield 14, 3) := by decide +kernel
theorem s25_5 {l0 : Nat} {l1 : Nat} {x0 : Int} : WP m25 5 [.inr (.inl l0), .inr (.inl l1)] [.inr (.inl 55), .inl x0] σ Q = WP m25 8 [.inr (.inl l0), .inr (.inl l1)] [.inr (.inl 56), .inl x0] σ Q := (w_getR (c := 2) (n := 0) d25_5 (by decide +kernel) (by decide +kernel)).trans (g_and ⟨isO_dec (by decide +kernel), by decide +kernel⟩)
theorem d25_8 : adec m25 8 = some (.invokevirtual 92, 3) := by decide +kernel
theorem s25_8 {l0 : Nat} {l1 : Nat} {x0 : Int} {x1 : Nat} : WP m25 8 [.inr (.inl l0), .inr (.inl l1)] [.inr (.inl x1), .inl x0] σ Q = (isO x1 3 ∧ CA m32 [.inr (.inl x1)] σ (fun v σ2 => WP m25 11 [.inr (.inl l0), .inr (.inl l1)] (v ++ [.inl x0]) σ2 Q)) := w_cV (k := 32) d25_8 (by decide +kernel) m32_at rfl rfl ⟨Nat.le_of_ble_eq_true rfl, Nat.le_of_ble_eq_true rfl, Nat.le_of_ble_eq_true rfl⟩ (by decide)
theorem d25_11 : adec m25 11 = some (.if_icmp .le (7), 3) := by decide +kernel
theorem s25_11 {l0 : Nat} {l1 : Nat} {x0 : Int} {x1 : Int} : WP m25 11 [.inr (.inl l0), .inr (.inl l1)] [.inl x1, .inl x0] σ Q = (if x0 ≤ x1 then WP m25 18 [.inr (.inl l0), .inr (.inl l1)] [] σ Q else WP m25 14 [.inr (.inl l0), .inr (.inl l1)] [] σ Q) := w_icle d25_11 (by decide)
theorem d25_14 : adec m25 14 = some (.iconst (1), 1) := by decide +kernel
theorem s25_14 {l0 : Nat} {l1 : Nat} : WP m25 14 [.inr (.inl l0), .inr (.inl l1)] [] σ Q = WP m25 15 [.inr (.inl l0), .inr (.inl l1)] [.inl (1)] σ Q := w_iconst d25_14 (by decide)
theorem d25_15 : adec m25 15 = some (.goto (4), 3) := by decide +kernel
theorem s25_15 {l0 : Nat} {l1 : Nat} {x0 : Int} : WP m25 15 [.inr (.inl l0), .inr (.inl l1)] [.inl x0] σ Q = WP m25 19 [.inr (.inl l0), .inr (.inl l1)] [.inl x0] σ Q := w_goto d25_15 (by decide)
theorem d25_18 : adec m25 18 = some (.iconst (0), 1) := by decide +kernel
theorem s25_18 {l0 : Nat} {l1 : Nat} : WP m25 18 [.inr (.inl l0), .inr (.inl l1)] [] σ Q = WP m25 19 [.inr (.inl l0), .inr (.inl l1)] [.inl (0)] σ Q := w_iconst d25_18 (by decide)
theorem d25_19 : adec m25 19 = some (.ireturn, 1) := by decide +kernel
theorem s25_19 {l0 : Nat} {l1 : Nat} {x0 : Int} : WP m25 19 [.inr (.inl l0), .inr (.inl l1)] [.inl x0] σ Q = ((x0 = 0 ∨ x0 = 1) ∧ Q [.inl x0] σ) := w_rz d25_19 rfl
theorem e25 {p0 : Nat} {p1 : Nat} : CA m25 [.inr (.inl p0), .inr (.inl p1)] σ Q = WP m25 0 [.inr (.inl p0), .inr (.inl p1)] [] σ Q := rfl
-- BinderPress$Reader.open(II)V
theorem d26_0 : adec m26 0 = some (.aload_n 0, 1) := by decide +kernel
theorem s26_0 {l0 : Nat} {l1 : Int} {l2 : Int} : WP m26 0 [.inr (.inl l0), .inl l1, .inl l2] [] σ Q = WP m26 1 [.inr (.inl l0), .inl l1, .inl l2] [.inr (.inl l0)] σ Q := w_ld d26_0 rfl
theorem d26_1 : adec m26 1 = some (.getfield 14, 3) := by decide +kernel
theorem s26_1 {l0 : Nat} {l1 : Int} {l2 : Int} : WP m26 1 [.inr (.inl l0), .inl l1, .inl l2] [.inr (.inl 55)] σ Q = WP m26 4 [.inr (.inl l0), .inl l1, .inl l2] [.inr (.inl 56)] σ Q := (w_getR (c := 2) (n := 0) d26_1 (by decide +kernel) (by decide +kernel)).trans (g_and ⟨isO_dec (by decide +kernel), by decide +kernel⟩)
theorem d26_4 : adec m26 4 = some (.iload_n 1, 1) := by decide +kernel
theorem s26_4 {l0 : Nat} {l1 : Int} {l2 : Int} {x0 : Nat} : WP m26 4 [.inr (.inl l0), .inl l1, .inl l2] [.inr (.inl x0)] σ Q = WP m26 5 [.inr (.inl l0), .inl l1, .inl l2] [.inl l1, .inr (.inl x0)] σ Q := w_ld d26_4 rfl
theorem d26_5 : adec m26 5 = some (.invokevirtual 89, 3) := by decide +kernel
theorem s26_5 {l0 : Nat} {l1 : Int} {l2 : Int} {x0 : Nat} {x1 : Int} : WP m26 5 [.inr (.inl l0), .inl l1, .inl l2] [.inl x1, .inr (.inl x0)] σ Q = (isO x0 3 ∧ CA m34 [.inr (.inl x0), .inl x1] σ (fun v σ2 => WP m26 8 [.inr (.inl l0), .inl l1, .inl l2] (v ++ []) σ2 Q)) := w_cV (k := 34) d26_5 (by decide +kernel) m34_at rfl rfl ⟨Nat.le_of_ble_eq_true rfl, Nat.le_of_ble_eq_true rfl, Nat.le_of_ble_eq_true rfl⟩ (by decide)
theorem d26_8 : adec m26 8 = some (.aload_n 0, 1) := by decide +kernel
theorem s26_8 {l0 : Nat} {l1 : Int} {l2 : Int} : WP m26 8 [.inr (.inl l0), .inl l1, .inl l2] [] σ Q = WP m26 9 [.inr (.inl l0), .inl l1, .inl l2] [.inr (.inl l0)] σ Q := w_ld d26_8 rfl
theorem d26_9 : adec m26 9 = some (.getfield 20, 3) := by decide +kernel
theorem s26_9 {l0 : Nat} {l1 : Int} {l2 : Int} : WP m26 9 [.inr (.inl l0), .inl l1, .inl l2] [.inr (.inl 55)] σ Q = WP m26 12 [.inr (.inl l0), .inl l1, .inl l2] [.inr (.inl 58)] σ Q := (w_getR (c := 2) (n := 1) d26_9 (by decide +kernel) (by decide +kernel)).trans (g_and ⟨isO_dec (by decide +kernel), by decide +kernel⟩)
theorem d26_12 : adec m26 12 = some (.iload_n 2, 1) := by decide +kernel
theorem s26_12 {l0 : Nat} {l1 : Int} {l2 : Int} {x0 : Nat} : WP m26 12 [.inr (.inl l0), .inl l1, .inl l2] [.inr (.inl x0)] σ Q = WP m26 13 [.inr (.inl l0), .inl l1, .inl l2] [.inl l2, .inr (.inl x0)] σ Q := w_ld d26_12 rfl
theorem d26_13 : adec m26 13 = some (.invokevirtual 89, 3) := by decide +kernel
theorem s26_13 {l0 : Nat} {l1 : Int} {l2 : Int} {x0 : Nat} {x1 : Int} : WP m26 13 [.inr (.inl l0), .inl l1, .inl l2] [.inl x1, .inr (.inl x0)] σ Q = (isO x0 3 ∧ CA m34 [.inr (.inl x0), .inl x1] σ (fun v σ2 => WP m26 16 [.inr (.inl l0), .inl l1, .inl l2] (v ++ []) σ2 Q)) := w_cV (k := 34) d26_13 (by decide +kernel) m34_at rfl rfl ⟨Nat.le_of_ble_eq_true rfl, Nat.le_of_ble_eq_true rfl, Nat.le_of_ble_eq_true rfl⟩ (by decide)
theorem d26_16 : adec m26 16 = some (.return_, 1) := by decide +kernel
theorem s26_16 {l0 : Nat} {l1 : Int} {l2 : Int} : WP m26 16 [.inr (.inl l0), .inl l1, .inl l2] [] σ Q = Q [] σ := w_rv d26_16 rfl
theorem e26 {p0 : Nat} {p1 : Int} {p2 : Int} : CA m26 [.inr (.inl p0), .inl p1, .inl p2] σ Q = WP m26 0 [.inr (.inl p0), .inl p1, .inl p2] [] σ Q := rfl
-- BinderPress$Row.count()I
theorem d28_0 : adec m28 0 = some (.aload_n 0, 1) := by decide +kernel
theorem s28_0 {l0 : Nat} : WP m28 0 [.inr (.inl l0)] [] σ Q = WP m28 1 [.inr (.inl l0)] [.inr (.inl l0)] σ Q := w_ld d28_0 rfl
theorem d28_1 : adec m28 1 = some (.getfield 19, 3) := by decide +kernel
theorem s28_1 {l0 : Nat} {x0 : Nat} : WP m28 1 [.inr (.inl l0)] [.inr (.inl x0)] σ Q = (isO x0 3 ∧ WP m28 4 [.inr (.inl l0)] [.inl (σ x0 1)] σ Q) := w_getI (c := 3) (n := 1) d28_1 (by decide +kernel) (by decide +kernel)
theorem d28_4 : adec m28 4 = some (.ireturn, 1) := by decide +kernel
theorem s28_4 {l0 : Nat} {x0 : Int} : WP m28 4 [.inr (.inl l0)] [.inl x0] σ Q = Q [.inl x0] σ := w_ri d28_4 rfl
theorem e28 {p0 : Nat} : CA m28 [.inr (.inl p0)] σ Q = WP m28 0 [.inr (.inl p0)] [] σ Q := rfl
-- BinderPress$Row.clear()V
theorem d29_0 : adec m29 0 = some (.aload_n 0, 1) := by decide +kernel
theorem s29_0 {l0 : Nat} : WP m29 0 [.inr (.inl l0)] [] σ Q = WP m29 1 [.inr (.inl l0)] [.inr (.inl l0)] σ Q := w_ld d29_0 rfl
theorem d29_1 : adec m29 1 = some (.iconst (0), 1) := by decide +kernel
theorem s29_1 {l0 : Nat} {x0 : Nat} : WP m29 1 [.inr (.inl l0)] [.inr (.inl x0)] σ Q = WP m29 2 [.inr (.inl l0)] [.inl (0), .inr (.inl x0)] σ Q := w_iconst d29_1 (by decide)
theorem d29_2 : adec m29 2 = some (.putfield 19, 3) := by decide +kernel
theorem s29_2 {l0 : Nat} {x0 : Nat} {x1 : Int} : WP m29 2 [.inr (.inl l0)] [.inl x1, .inr (.inl x0)] σ Q = (isO x0 3 ∧ WP m29 5 [.inr (.inl l0)] [] (aup σ x0 1 x1) Q) := w_putI (c := 3) (n := 1) d29_2 (by decide +kernel) (by decide +kernel) (by decide +kernel)
theorem d29_5 : adec m29 5 = some (.return_, 1) := by decide +kernel
theorem s29_5 {l0 : Nat} : WP m29 5 [.inr (.inl l0)] [] σ Q = Q [] σ := w_rv d29_5 rfl
theorem e29 {p0 : Nat} : CA m29 [.inr (.inl p0)] σ Q = WP m29 0 [.inr (.inl p0)] [] σ Q := rfl
-- BinderPress$Row.at(I)I
theorem d30_0 : adec m30 0 = some (.iload_n 1, 1) := by decide +kernel
theorem s30_0 {l0 : Nat} {l1 : Int} : WP m30 0 [.inr (.inl l0), .inl l1] [] σ Q = WP m30 1 [.inr (.inl l0), .inl l1] [.inl l1] σ Q := w_ld d30_0 rfl
theorem d30_1 : adec m30 1 = some (.ifCond .lt (20), 3) := by decide +kernel
theorem s30_1 {l0 : Nat} {l1 : Int} {x0 : Int} : WP m30 1 [.inr (.inl l0), .inl l1] [.inl x0] σ Q = (if x0 < 0 then WP m30 21 [.inr (.inl l0), .inl l1] [] σ Q else WP m30 4 [.inr (.inl l0), .inl l1] [] σ Q) := w_iflt d30_1 (by decide)
theorem d30_4 : adec m30 4 = some (.iload_n 1, 1) := by decide +kernel
theorem s30_4 {l0 : Nat} {l1 : Int} : WP m30 4 [.inr (.inl l0), .inl l1] [] σ Q = WP m30 5 [.inr (.inl l0), .inl l1] [.inl l1] σ Q := w_ld d30_4 rfl
theorem d30_5 : adec m30 5 = some (.aload_n 0, 1) := by decide +kernel
theorem s30_5 {l0 : Nat} {l1 : Int} {x0 : Int} : WP m30 5 [.inr (.inl l0), .inl l1] [.inl x0] σ Q = WP m30 6 [.inr (.inl l0), .inl l1] [.inr (.inl l0), .inl x0] σ Q := w_ld d30_5 rfl
theorem d30_6 : adec m30 6 = some (.getfield 19, 3) := by decide +kernel
theorem s30_6 {l0 : Nat} {l1 : Int} {x0 : Int} {x1 : Nat} : WP m30 6 [.inr (.inl l0), .inl l1] [.inr (.inl x1), .inl x0] σ Q = (isO x1 3 ∧ WP m30 9 [.inr (.inl l0), .inl l1] [.inl (σ x1 1), .inl x0] σ Q) := w_getI (c := 3) (n := 1) d30_6 (by decide +kernel) (by decide +kernel)
theorem d30_9 : adec m30 9 = some (.if_icmp .ge (12), 3) := by decide +kernel
theorem s30_9 {l0 : Nat} {l1 : Int} {x0 : Int} {x1 : Int} : WP m30 9 [.inr (.inl l0), .inl l1] [.inl x1, .inl x0] σ Q = (if x1 ≤ x0 then WP m30 21 [.inr (.inl l0), .inl l1] [] σ Q else WP m30 12 [.inr (.inl l0), .inl l1] [] σ Q) := w_icge d30_9 (by decide)
theorem d30_12 : adec m30 12 = some (.aload_n 0, 1) := by decide +kernel
theorem s30_12 {l0 : Nat} {l1 : Int} : WP m30 12 [.inr (.inl l0), .inl l1] [] σ Q = WP m30 13 [.inr (.inl l0), .inl l1] [.inr (.inl l0)] σ Q := w_ld d30_12 rfl
theorem d30_13 : adec m30 13 = some (.getfield 13, 3) := by decide +kernel
theorem s30_13 {l0 : Nat} {l1 : Int} {x0 : Nat} : WP m30 13 [.inr (.inl l0), .inl l1] [.inr (.inl x0)] σ Q = ((isO x0 3 ∧ 0 ≤ PT x0 0) ∧ WP m30 16 [.inr (.inl l0), .inl l1] [.inr (.inl (pt x0 0))] σ Q) := w_getR (c := 3) (n := 0) d30_13 (by decide +kernel) (by decide +kernel)
theorem d30_16 : adec m30 16 = some (.iload_n 1, 1) := by decide +kernel
theorem s30_16 {l0 : Nat} {l1 : Int} {x0 : Nat} : WP m30 16 [.inr (.inl l0), .inl l1] [.inr (.inl x0)] σ Q = WP m30 17 [.inr (.inl l0), .inl l1] [.inl l1, .inr (.inl x0)] σ Q := w_ld d30_16 rfl
theorem d30_17 : adec m30 17 = some (.iaload, 1) := by decide +kernel
theorem s30_17 {l0 : Nat} {l1 : Int} {x0 : Nat} {x1 : Int} : WP m30 17 [.inr (.inl l0), .inl l1] [.inl x1, .inr (.inl x0)] σ Q = ((kdS x0 = 20 ∧ 0 ≤ x1 ∧ x1 < ln x0) ∧ WP m30 18 [.inr (.inl l0), .inl l1] [.inl (σ x0 x1.toNat)] σ Q) := w_iald d30_17
theorem d30_18 : adec m30 18 = some (.goto (4), 3) := by decide +kernel
theorem s30_18 {l0 : Nat} {l1 : Int} {x0 : Int} : WP m30 18 [.inr (.inl l0), .inl l1] [.inl x0] σ Q = WP m30 22 [.inr (.inl l0), .inl l1] [.inl x0] σ Q := w_goto d30_18 (by decide)
theorem d30_21 : adec m30 21 = some (.iconst (0), 1) := by decide +kernel
theorem s30_21 {l0 : Nat} {l1 : Int} : WP m30 21 [.inr (.inl l0), .inl l1] [] σ Q = WP m30 22 [.inr (.inl l0), .inl l1] [.inl (0)] σ Q := w_iconst d30_21 (by decide)
theorem d30_22 : adec m30 22 = some (.ireturn, 1) := by decide +kernel
theorem s30_22 {l0 : Nat} {l1 : Int} {x0 : Int} : WP m30 22 [.inr (.inl l0), .inl l1] [.inl x0] σ Q = Q [.inl x0] σ := w_ri d30_22 rfl
theorem e30 {p0 : Nat} {p1 : Int} : CA m30 [.inr (.inl p0), .inl p1] σ Q = WP m30 0 [.inr (.inl p0), .inl p1] [] σ Q := rfl
-- BinderPress$Row.atOr(II)I
theorem d31_0 : adec m31 0 = some (.iload_n 1, 1) := by decide +kernel
theorem s31_0 {l0 : Nat} {l1 : Int} {l2 : Int} : WP m31 0 [.inr (.inl l0), .inl l1, .inl l2] [] σ Q = WP m31 1 [.inr (.inl l0), .inl l1, .inl l2] [.inl l1] σ Q := w_ld d31_0 rfl
theorem d31_1 : adec m31 1 = some (.ifCond .lt (20), 3) := by decide +kernel
theorem s31_1 {l0 : Nat} {l1 : Int} {l2 : Int} {x0 : Int} : WP m31 1 [.inr (.inl l0), .inl l1, .inl l2] [.inl x0] σ Q = (if x0 < 0 then WP m31 21 [.inr (.inl l0), .inl l1, .inl l2] [] σ Q else WP m31 4 [.inr (.inl l0), .inl l1, .inl l2] [] σ Q) := w_iflt d31_1 (by decide)
theorem d31_4 : adec m31 4 = some (.iload_n 1, 1) := by decide +kernel
theorem s31_4 {l0 : Nat} {l1 : Int} {l2 : Int} : WP m31 4 [.inr (.inl l0), .inl l1, .inl l2] [] σ Q = WP m31 5 [.inr (.inl l0), .inl l1, .inl l2] [.inl l1] σ Q := w_ld d31_4 rfl
theorem d31_5 : adec m31 5 = some (.aload_n 0, 1) := by decide +kernel
theorem s31_5 {l0 : Nat} {l1 : Int} {l2 : Int} {x0 : Int} : WP m31 5 [.inr (.inl l0), .inl l1, .inl l2] [.inl x0] σ Q = WP m31 6 [.inr (.inl l0), .inl l1, .inl l2] [.inr (.inl l0), .inl x0] σ Q := w_ld d31_5 rfl
theorem d31_6 : adec m31 6 = some (.getfield 19, 3) := by decide +kernel
theorem s31_6 {l0 : Nat} {l1 : Int} {l2 : Int} {x0 : Int} {x1 : Nat} : WP m31 6 [.inr (.inl l0), .inl l1, .inl l2] [.inr (.inl x1), .inl x0] σ Q = (isO x1 3 ∧ WP m31 9 [.inr (.inl l0), .inl l1, .inl l2] [.inl (σ x1 1), .inl x0] σ Q) := w_getI (c := 3) (n := 1) d31_6 (by decide +kernel) (by decide +kernel)
theorem d31_9 : adec m31 9 = some (.if_icmp .ge (12), 3) := by decide +kernel
theorem s31_9 {l0 : Nat} {l1 : Int} {l2 : Int} {x0 : Int} {x1 : Int} : WP m31 9 [.inr (.inl l0), .inl l1, .inl l2] [.inl x1, .inl x0] σ Q = (if x1 ≤ x0 then WP m31 21 [.inr (.inl l0), .inl l1, .inl l2] [] σ Q else WP m31 12 [.inr (.inl l0), .inl l1, .inl l2] [] σ Q) := w_icge d31_9 (by decide)
theorem d31_12 : adec m31 12 = some (.aload_n 0, 1) := by decide +kernel
theorem s31_12 {l0 : Nat} {l1 : Int} {l2 : Int} : WP m31 12 [.inr (.inl l0), .inl l1, .inl l2] [] σ Q = WP m31 13 [.inr (.inl l0), .inl l1, .inl l2] [.inr (.inl l0)] σ Q := w_ld d31_12 rfl
theorem d31_13 : adec m31 13 = some (.getfield 13, 3) := by decide +kernel
theorem s31_13 {l0 : Nat} {l1 : Int} {l2 : Int} {x0 : Nat} : WP m31 13 [.inr (.inl l0), .inl l1, .inl l2] [.inr (.inl x0)] σ Q = ((isO x0 3 ∧ 0 ≤ PT x0 0) ∧ WP m31 16 [.inr (.inl l0), .inl l1, .inl l2] [.inr (.inl (pt x0 0))] σ Q) := w_getR (c := 3) (n := 0) d31_13 (by decide +kernel) (by decide +kernel)
theorem d31_16 : adec m31 16 = some (.iload_n 1, 1) := by decide +kernel
theorem s31_16 {l0 : Nat} {l1 : Int} {l2 : Int} {x0 : Nat} : WP m31 16 [.inr (.inl l0), .inl l1, .inl l2] [.inr (.inl x0)] σ Q = WP m31 17 [.inr (.inl l0), .inl l1, .inl l2] [.inl l1, .inr (.inl x0)] σ Q := w_ld d31_16 rfl
theorem d31_17 : adec m31 17 = some (.iaload, 1) := by decide +kernel
theorem s31_17 {l0 : Nat} {l1 : Int} {l2 : Int} {x0 : Nat} {x1 : Int} : WP m31 17 [.inr (.inl l0), .inl l1, .inl l2] [.inl x1, .inr (.inl x0)] σ Q = ((kdS x0 = 20 ∧ 0 ≤ x1 ∧ x1 < ln x0) ∧ WP m31 18 [.inr (.inl l0), .inl l1, .inl l2] [.inl (σ x0 x1.toNat)] σ Q) := w_iald d31_17
theorem d31_18 : adec m31 18 = some (.goto (4), 3) := by decide +kernel
theorem s31_18 {l0 : Nat} {l1 : Int} {l2 : Int} {x0 : Int} : WP m31 18 [.inr (.inl l0), .inl l1, .inl l2] [.inl x0] σ Q = WP m31 22 [.inr (.inl l0), .inl l1, .inl l2] [.inl x0] σ Q := w_goto d31_18 (by decide)
theorem d31_21 : adec m31 21 = some (.iload_n 2, 1) := by decide +kernel
theorem s31_21 {l0 : Nat} {l1 : Int} {l2 : Int} : WP m31 21 [.inr (.inl l0), .inl l1, .inl l2] [] σ Q = WP m31 22 [.inr (.inl l0), .inl l1, .inl l2] [.inl l2] σ Q := w_ld d31_21 rfl
theorem d31_22 : adec m31 22 = some (.ireturn, 1) := by decide +kernel
theorem s31_22 {l0 : Nat} {l1 : Int} {l2 : Int} {x0 : Int} : WP m31 22 [.inr (.inl l0), .inl l1, .inl l2] [.inl x0] σ Q = Q [.inl x0] σ := w_ri d31_22 rfl
theorem e31 {p0 : Nat} {p1 : Int} {p2 : Int} : CA m31 [.inr (.inl p0), .inl p1, .inl p2] σ Q = WP m31 0 [.inr (.inl p0), .inl p1, .inl p2] [] σ Q := rfl
-- BinderPress$Row.last()I
theorem d32_0 : adec m32 0 = some (.aload_n 0, 1) := by decide +kernel
theorem s32_0 {l0 : Nat} : WP m32 0 [.inr (.inl l0)] [] σ Q = WP m32 1 [.inr (.inl l0)] [.inr (.inl l0)] σ Q := w_ld d32_0 rfl
theorem d32_1 : adec m32 1 = some (.getfield 19, 3) := by decide +kernel
theorem s32_1 {l0 : Nat} {x0 : Nat} : WP m32 1 [.inr (.inl l0)] [.inr (.inl x0)] σ Q = (isO x0 3 ∧ WP m32 4 [.inr (.inl l0)] [.inl (σ x0 1)] σ Q) := w_getI (c := 3) (n := 1) d32_1 (by decide +kernel) (by decide +kernel)
theorem d32_4 : adec m32 4 = some (.ifCond .le (17), 3) := by decide +kernel
theorem s32_4 {l0 : Nat} {x0 : Int} : WP m32 4 [.inr (.inl l0)] [.inl x0] σ Q = (if x0 ≤ 0 then WP m32 21 [.inr (.inl l0)] [] σ Q else WP m32 7 [.inr (.inl l0)] [] σ Q) := w_ifle d32_4 (by decide)
theorem d32_7 : adec m32 7 = some (.aload_n 0, 1) := by decide +kernel
theorem s32_7 {l0 : Nat} : WP m32 7 [.inr (.inl l0)] [] σ Q = WP m32 8 [.inr (.inl l0)] [.inr (.inl l0)] σ Q := w_ld d32_7 rfl
theorem d32_8 : adec m32 8 = some (.getfield 13, 3) := by decide +kernel
theorem s32_8 {l0 : Nat} {x0 : Nat} : WP m32 8 [.inr (.inl l0)] [.inr (.inl x0)] σ Q = ((isO x0 3 ∧ 0 ≤ PT x0 0) ∧ WP m32 11 [.inr (.inl l0)] [.inr (.inl (pt x0 0))] σ Q) := w_getR (c := 3) (n := 0) d32_8 (by decide +kernel) (by decide +kernel)
theorem d32_11 : adec m32 11 = some (.aload_n 0, 1) := by decide +kernel
theorem s32_11 {l0 : Nat} {x0 : Nat} : WP m32 11 [.inr (.inl l0)] [.inr (.inl x0)] σ Q = WP m32 12 [.inr (.inl l0)] [.inr (.inl l0), .inr (.inl x0)] σ Q := w_ld d32_11 rfl
theorem d32_12 : adec m32 12 = some (.getfield 19, 3) := by decide +kernel
theorem s32_12 {l0 : Nat} {x0 : Nat} {x1 : Nat} : WP m32 12 [.inr (.inl l0)] [.inr (.inl x1), .inr (.inl x0)] σ Q = (isO x1 3 ∧ WP m32 15 [.inr (.inl l0)] [.inl (σ x1 1), .inr (.inl x0)] σ Q) := w_getI (c := 3) (n := 1) d32_12 (by decide +kernel) (by decide +kernel)
theorem d32_15 : adec m32 15 = some (.iconst (1), 1) := by decide +kernel
theorem s32_15 {l0 : Nat} {x0 : Nat} {x1 : Int} : WP m32 15 [.inr (.inl l0)] [.inl x1, .inr (.inl x0)] σ Q = WP m32 16 [.inr (.inl l0)] [.inl (1), .inl x1, .inr (.inl x0)] σ Q := w_iconst d32_15 (by decide)
theorem d32_16 : adec m32 16 = some (.isub, 1) := by decide +kernel
theorem s32_16 {l0 : Nat} {x0 : Nat} {x1 : Int} {x2 : Int} : WP m32 16 [.inr (.inl l0)] [.inl x2, .inl x1, .inr (.inl x0)] σ Q = (inI (x1 - x2) ∧ WP m32 17 [.inr (.inl l0)] [.inl (x1 - x2), .inr (.inl x0)] σ Q) := w_isub d32_16
theorem d32_17 : adec m32 17 = some (.iaload, 1) := by decide +kernel
theorem s32_17 {l0 : Nat} {x0 : Nat} {x1 : Int} : WP m32 17 [.inr (.inl l0)] [.inl x1, .inr (.inl x0)] σ Q = ((kdS x0 = 20 ∧ 0 ≤ x1 ∧ x1 < ln x0) ∧ WP m32 18 [.inr (.inl l0)] [.inl (σ x0 x1.toNat)] σ Q) := w_iald d32_17
theorem d32_18 : adec m32 18 = some (.goto (4), 3) := by decide +kernel
theorem s32_18 {l0 : Nat} {x0 : Int} : WP m32 18 [.inr (.inl l0)] [.inl x0] σ Q = WP m32 22 [.inr (.inl l0)] [.inl x0] σ Q := w_goto d32_18 (by decide)
theorem d32_21 : adec m32 21 = some (.iconst (0), 1) := by decide +kernel
theorem s32_21 {l0 : Nat} : WP m32 21 [.inr (.inl l0)] [] σ Q = WP m32 22 [.inr (.inl l0)] [.inl (0)] σ Q := w_iconst d32_21 (by decide)
theorem d32_22 : adec m32 22 = some (.ireturn, 1) := by decide +kernel
theorem s32_22 {l0 : Nat} {x0 : Int} : WP m32 22 [.inr (.inl l0)] [.inl x0] σ Q = Q [.inl x0] σ := w_ri d32_22 rfl
theorem e32 {p0 : Nat} : CA m32 [.inr (.inl p0)] σ Q = WP m32 0 [.inr (.inl p0)] [] σ Q := rfl
-- BinderPress$Row.set(II)V
theorem d33_0 : adec m33 0 = some (.iload_n 1, 1) := by decide +kernel
theorem s33_0 {l0 : Nat} {l1 : Int} {l2 : Int} : WP m33 0 [.inr (.inl l0), .inl l1, .inl l2] [] σ Q = WP m33 1 [.inr (.inl l0), .inl l1, .inl l2] [.inl l1] σ Q := w_ld d33_0 rfl
theorem d33_1 : adec m33 1 = some (.ifCond .lt (18), 3) := by decide +kernel
theorem s33_1 {l0 : Nat} {l1 : Int} {l2 : Int} {x0 : Int} : WP m33 1 [.inr (.inl l0), .inl l1, .inl l2] [.inl x0] σ Q = (if x0 < 0 then WP m33 19 [.inr (.inl l0), .inl l1, .inl l2] [] σ Q else WP m33 4 [.inr (.inl l0), .inl l1, .inl l2] [] σ Q) := w_iflt d33_1 (by decide)
theorem d33_4 : adec m33 4 = some (.iload_n 1, 1) := by decide +kernel
theorem s33_4 {l0 : Nat} {l1 : Int} {l2 : Int} : WP m33 4 [.inr (.inl l0), .inl l1, .inl l2] [] σ Q = WP m33 5 [.inr (.inl l0), .inl l1, .inl l2] [.inl l1] σ Q := w_ld d33_4 rfl
theorem d33_5 : adec m33 5 = some (.aload_n 0, 1) := by decide +kernel
theorem s33_5 {l0 : Nat} {l1 : Int} {l2 : Int} {x0 : Int} : WP m33 5 [.inr (.inl l0), .inl l1, .inl l2] [.inl x0] σ Q = WP m33 6 [.inr (.inl l0), .inl l1, .inl l2] [.inr (.inl l0), .inl x0] σ Q := w_ld d33_5 rfl
theorem d33_6 : adec m33 6 = some (.getfield 19, 3) := by decide +kernel
theorem s33_6 {l0 : Nat} {l1 : Int} {l2 : Int} {x0 : Int} {x1 : Nat} : WP m33 6 [.inr (.inl l0), .inl l1, .inl l2] [.inr (.inl x1), .inl x0] σ Q = (isO x1 3 ∧ WP m33 9 [.inr (.inl l0), .inl l1, .inl l2] [.inl (σ x1 1), .inl x0] σ Q) := w_getI (c := 3) (n := 1) d33_6 (by decide +kernel) (by decide +kernel)
theorem d33_9 : adec m33 9 = some (.if_icmp .ge (10), 3) := by decide +kernel
theorem s33_9 {l0 : Nat} {l1 : Int} {l2 : Int} {x0 : Int} {x1 : Int} : WP m33 9 [.inr (.inl l0), .inl l1, .inl l2] [.inl x1, .inl x0] σ Q = (if x1 ≤ x0 then WP m33 19 [.inr (.inl l0), .inl l1, .inl l2] [] σ Q else WP m33 12 [.inr (.inl l0), .inl l1, .inl l2] [] σ Q) := w_icge d33_9 (by decide)
theorem d33_12 : adec m33 12 = some (.aload_n 0, 1) := by decide +kernel
theorem s33_12 {l0 : Nat} {l1 : Int} {l2 : Int} : WP m33 12 [.inr (.inl l0), .inl l1, .inl l2] [] σ Q = WP m33 13 [.inr (.inl l0), .inl l1, .inl l2] [.inr (.inl l0)] σ Q := w_ld d33_12 rfl
theorem d33_13 : adec m33 13 = some (.getfield 13, 3) := by decide +kernel
theorem s33_13 {l0 : Nat} {l1 : Int} {l2 : Int} {x0 : Nat} : WP m33 13 [.inr (.inl l0), .inl l1, .inl l2] [.inr (.inl x0)] σ Q = ((isO x0 3 ∧ 0 ≤ PT x0 0) ∧ WP m33 16 [.inr (.inl l0), .inl l1, .inl l2] [.inr (.inl (pt x0 0))] σ Q) := w_getR (c := 3) (n := 0) d33_13 (by decide +kernel) (by decide +kernel)
theorem d33_16 : adec m33 16 = some (.iload_n 1, 1) := by decide +kernel
theorem s33_16 {l0 : Nat} {l1 : Int} {l2 : Int} {x0 : Nat} : WP m33 16 [.inr (.inl l0), .inl l1, .inl l2] [.inr (.inl x0)] σ Q = WP m33 17 [.inr (.inl l0), .inl l1, .inl l2] [.inl l1, .inr (.inl x0)] σ Q := w_ld d33_16 rfl
theorem d33_17 : adec m33 17 = some (.iload_n 2, 1) := by decide +kernel
theorem s33_17 {l0 : Nat} {l1 : Int} {l2 : Int} {x0 : Nat} {x1 : Int} : WP m33 17 [.inr (.inl l0), .inl l1, .inl l2] [.inl x1, .inr (.inl x0)] σ Q = WP m33 18 [.inr (.inl l0), .inl l1, .inl l2] [.inl l2, .inl x1, .inr (.inl x0)] σ Q := w_ld d33_17 rfl
theorem d33_18 : adec m33 18 = some (.iastore, 1) := by decide +kernel
theorem s33_18 {l0 : Nat} {l1 : Int} {l2 : Int} {x0 : Nat} {x1 : Int} {x2 : Int} : WP m33 18 [.inr (.inl l0), .inl l1, .inl l2] [.inl x2, .inl x1, .inr (.inl x0)] σ Q = ((kdS x0 = 20 ∧ 0 ≤ x1 ∧ x1 < ln x0) ∧ WP m33 19 [.inr (.inl l0), .inl l1, .inl l2] [] (aup σ x0 x1.toNat x2) Q) := w_iast d33_18
theorem d33_19 : adec m33 19 = some (.return_, 1) := by decide +kernel
theorem s33_19 {l0 : Nat} {l1 : Int} {l2 : Int} : WP m33 19 [.inr (.inl l0), .inl l1, .inl l2] [] σ Q = Q [] σ := w_rv d33_19 rfl
theorem e33 {p0 : Nat} {p1 : Int} {p2 : Int} : CA m33 [.inr (.inl p0), .inl p1, .inl p2] σ Q = WP m33 0 [.inr (.inl p0), .inl p1, .inl p2] [] σ Q := rfl
-- BinderPress$Row.add(I)V
theorem d34_0 : adec m34 0 = some (.aload_n 0, 1) := by decide +kernel
theorem s34_0 {l0 : Nat} {l1 : Int} : WP m34 0 [.inr (.inl l0), .inl l1] [] σ Q = WP m34 1 [.inr (.inl l0), .inl l1] [.inr (.inl l0)] σ Q := w_ld d34_0 rfl
theorem d34_1 : adec m34 1 = some (.getfield 19, 3) := by decide +kernel
theorem s34_1 {l0 : Nat} {l1 : Int} {x0 : Nat} : WP m34 1 [.inr (.inl l0), .inl l1] [.inr (.inl x0)] σ Q = (isO x0 3 ∧ WP m34 4 [.inr (.inl l0), .inl l1] [.inl (σ x0 1)] σ Q) := w_getI (c := 3) (n := 1) d34_1 (by decide +kernel) (by decide +kernel)
theorem d34_4 : adec m34 4 = some (.aload_n 0, 1) := by decide +kernel
theorem s34_4 {l0 : Nat} {l1 : Int} {x0 : Int} : WP m34 4 [.inr (.inl l0), .inl l1] [.inl x0] σ Q = WP m34 5 [.inr (.inl l0), .inl l1] [.inr (.inl l0), .inl x0] σ Q := w_ld d34_4 rfl
theorem d34_5 : adec m34 5 = some (.getfield 13, 3) := by decide +kernel
theorem s34_5 {l0 : Nat} {l1 : Int} {x0 : Int} {x1 : Nat} : WP m34 5 [.inr (.inl l0), .inl l1] [.inr (.inl x1), .inl x0] σ Q = ((isO x1 3 ∧ 0 ≤ PT x1 0) ∧ WP m34 8 [.inr (.inl l0), .inl l1] [.inr (.inl (pt x1 0)), .inl x0] σ Q) := w_getR (c := 3) (n := 0) d34_5 (by decide +kernel) (by decide +kernel)
theorem d34_8 : adec m34 8 = some (.arraylength, 1) := by decide +kernel
theorem s34_8 {l0 : Nat} {l1 : Int} {x0 : Int} {x1 : Nat} : WP m34 8 [.inr (.inl l0), .inl l1] [.inr (.inl x1), .inl x0] σ Q = ((kdS x1 = 20 ∨ kdS x1 = 21 ∨ kdS x1 = 22) ∧ WP m34 9 [.inr (.inl l0), .inl l1] [.inl (ln x1 : Int), .inl x0] σ Q) := w_alen d34_8
theorem d34_9 : adec m34 9 = some (.if_icmp .ge (23), 3) := by decide +kernel
theorem s34_9 {l0 : Nat} {l1 : Int} {x0 : Int} {x1 : Int} : WP m34 9 [.inr (.inl l0), .inl l1] [.inl x1, .inl x0] σ Q = (if x1 ≤ x0 then WP m34 32 [.inr (.inl l0), .inl l1] [] σ Q else WP m34 12 [.inr (.inl l0), .inl l1] [] σ Q) := w_icge d34_9 (by decide)
theorem d34_12 : adec m34 12 = some (.aload_n 0, 1) := by decide +kernel
theorem s34_12 {l0 : Nat} {l1 : Int} : WP m34 12 [.inr (.inl l0), .inl l1] [] σ Q = WP m34 13 [.inr (.inl l0), .inl l1] [.inr (.inl l0)] σ Q := w_ld d34_12 rfl
theorem d34_13 : adec m34 13 = some (.getfield 13, 3) := by decide +kernel
theorem s34_13 {l0 : Nat} {l1 : Int} {x0 : Nat} : WP m34 13 [.inr (.inl l0), .inl l1] [.inr (.inl x0)] σ Q = ((isO x0 3 ∧ 0 ≤ PT x0 0) ∧ WP m34 16 [.inr (.inl l0), .inl l1] [.inr (.inl (pt x0 0))] σ Q) := w_getR (c := 3) (n := 0) d34_13 (by decide +kernel) (by decide +kernel)
theorem d34_16 : adec m34 16 = some (.aload_n 0, 1) := by decide +kernel
theorem s34_16 {l0 : Nat} {l1 : Int} {x0 : Nat} : WP m34 16 [.inr (.inl l0), .inl l1] [.inr (.inl x0)] σ Q = WP m34 17 [.inr (.inl l0), .inl l1] [.inr (.inl l0), .inr (.inl x0)] σ Q := w_ld d34_16 rfl
theorem d34_17 : adec m34 17 = some (.getfield 19, 3) := by decide +kernel
theorem s34_17 {l0 : Nat} {l1 : Int} {x0 : Nat} {x1 : Nat} : WP m34 17 [.inr (.inl l0), .inl l1] [.inr (.inl x1), .inr (.inl x0)] σ Q = (isO x1 3 ∧ WP m34 20 [.inr (.inl l0), .inl l1] [.inl (σ x1 1), .inr (.inl x0)] σ Q) := w_getI (c := 3) (n := 1) d34_17 (by decide +kernel) (by decide +kernel)
theorem d34_20 : adec m34 20 = some (.iload_n 1, 1) := by decide +kernel
theorem s34_20 {l0 : Nat} {l1 : Int} {x0 : Nat} {x1 : Int} : WP m34 20 [.inr (.inl l0), .inl l1] [.inl x1, .inr (.inl x0)] σ Q = WP m34 21 [.inr (.inl l0), .inl l1] [.inl l1, .inl x1, .inr (.inl x0)] σ Q := w_ld d34_20 rfl
theorem d34_21 : adec m34 21 = some (.iastore, 1) := by decide +kernel
theorem s34_21 {l0 : Nat} {l1 : Int} {x0 : Nat} {x1 : Int} {x2 : Int} : WP m34 21 [.inr (.inl l0), .inl l1] [.inl x2, .inl x1, .inr (.inl x0)] σ Q = ((kdS x0 = 20 ∧ 0 ≤ x1 ∧ x1 < ln x0) ∧ WP m34 22 [.inr (.inl l0), .inl l1] [] (aup σ x0 x1.toNat x2) Q) := w_iast d34_21
theorem d34_22 : adec m34 22 = some (.aload_n 0, 1) := by decide +kernel
theorem s34_22 {l0 : Nat} {l1 : Int} : WP m34 22 [.inr (.inl l0), .inl l1] [] σ Q = WP m34 23 [.inr (.inl l0), .inl l1] [.inr (.inl l0)] σ Q := w_ld d34_22 rfl
theorem d34_23 : adec m34 23 = some (.dup, 1) := by decide +kernel
theorem s34_23 {l0 : Nat} {l1 : Int} {x0 : Nat} : WP m34 23 [.inr (.inl l0), .inl l1] [.inr (.inl x0)] σ Q = WP m34 24 [.inr (.inl l0), .inl l1] [.inr (.inl x0), .inr (.inl x0)] σ Q := w_ld d34_23 rfl
theorem d34_24 : adec m34 24 = some (.getfield 19, 3) := by decide +kernel
theorem s34_24 {l0 : Nat} {l1 : Int} {x0 : Nat} {x1 : Nat} : WP m34 24 [.inr (.inl l0), .inl l1] [.inr (.inl x1), .inr (.inl x0)] σ Q = (isO x1 3 ∧ WP m34 27 [.inr (.inl l0), .inl l1] [.inl (σ x1 1), .inr (.inl x0)] σ Q) := w_getI (c := 3) (n := 1) d34_24 (by decide +kernel) (by decide +kernel)
theorem d34_27 : adec m34 27 = some (.iconst (1), 1) := by decide +kernel
theorem s34_27 {l0 : Nat} {l1 : Int} {x0 : Nat} {x1 : Int} : WP m34 27 [.inr (.inl l0), .inl l1] [.inl x1, .inr (.inl x0)] σ Q = WP m34 28 [.inr (.inl l0), .inl l1] [.inl (1), .inl x1, .inr (.inl x0)] σ Q := w_iconst d34_27 (by decide)
theorem d34_28 : adec m34 28 = some (.iadd, 1) := by decide +kernel
theorem s34_28 {l0 : Nat} {l1 : Int} {x0 : Nat} {x1 : Int} {x2 : Int} : WP m34 28 [.inr (.inl l0), .inl l1] [.inl x2, .inl x1, .inr (.inl x0)] σ Q = (inI (x1 + x2) ∧ WP m34 29 [.inr (.inl l0), .inl l1] [.inl (x1 + x2), .inr (.inl x0)] σ Q) := w_iadd d34_28
theorem d34_29 : adec m34 29 = some (.putfield 19, 3) := by decide +kernel
theorem s34_29 {l0 : Nat} {l1 : Int} {x0 : Nat} {x1 : Int} : WP m34 29 [.inr (.inl l0), .inl l1] [.inl x1, .inr (.inl x0)] σ Q = (isO x0 3 ∧ WP m34 32 [.inr (.inl l0), .inl l1] [] (aup σ x0 1 x1) Q) := w_putI (c := 3) (n := 1) d34_29 (by decide +kernel) (by decide +kernel) (by decide +kernel)
theorem d34_32 : adec m34 32 = some (.return_, 1) := by decide +kernel
theorem s34_32 {l0 : Nat} {l1 : Int} : WP m34 32 [.inr (.inl l0), .inl l1] [] σ Q = Q [] σ := w_rv d34_32 rfl
theorem e34 {p0 : Nat} {p1 : Int} : CA m34 [.inr (.inl p0), .inl p1] σ Q = WP m34 0 [.inr (.inl p0), .inl p1] [] σ Q := rfl
-- BinderPress$Row.pop()I
theorem d35_0 : adec m35 0 = some (.aload_n 0, 1) := by decide +kernel
theorem s35_0 {l0 : Nat} {l1 : AV} : WP m35 0 [.inr (.inl l0), l1] [] σ Q = WP m35 1 [.inr (.inl l0), l1] [.inr (.inl l0)] σ Q := w_ld d35_0 rfl
theorem d35_1 : adec m35 1 = some (.invokevirtual 23, 3) := by decide +kernel
theorem s35_1 {l0 : Nat} {l1 : AV} {x0 : Nat} : WP m35 1 [.inr (.inl l0), l1] [.inr (.inl x0)] σ Q = (isO x0 3 ∧ CA m32 [.inr (.inl x0)] σ (fun v σ2 => WP m35 4 [.inr (.inl l0), l1] (v ++ []) σ2 Q)) := w_cV (k := 32) d35_1 (by decide +kernel) m32_at rfl rfl ⟨Nat.le_of_ble_eq_true rfl, Nat.le_of_ble_eq_true rfl, Nat.le_of_ble_eq_true rfl⟩ (by decide)
theorem d35_4 : adec m35 4 = some (.istore_n 1, 1) := by decide +kernel
theorem s35_4 {l0 : Nat} {l1 : AV} {x0 : Int} : WP m35 4 [.inr (.inl l0), l1] [.inl x0] σ Q = WP m35 5 [.inr (.inl l0), .inl x0] [] σ Q := w_st1 (j := 1) d35_4 rfl (Nat.le_of_ble_eq_true rfl) rfl
theorem d35_5 : adec m35 5 = some (.aload_n 0, 1) := by decide +kernel
theorem s35_5 {l0 : Nat} {l1 : Int} : WP m35 5 [.inr (.inl l0), .inl l1] [] σ Q = WP m35 6 [.inr (.inl l0), .inl l1] [.inr (.inl l0)] σ Q := w_ld d35_5 rfl
theorem d35_6 : adec m35 6 = some (.aload_n 0, 1) := by decide +kernel
theorem s35_6 {l0 : Nat} {l1 : Int} {x0 : Nat} : WP m35 6 [.inr (.inl l0), .inl l1] [.inr (.inl x0)] σ Q = WP m35 7 [.inr (.inl l0), .inl l1] [.inr (.inl l0), .inr (.inl x0)] σ Q := w_ld d35_6 rfl
theorem d35_7 : adec m35 7 = some (.getfield 19, 3) := by decide +kernel
theorem s35_7 {l0 : Nat} {l1 : Int} {x0 : Nat} {x1 : Nat} : WP m35 7 [.inr (.inl l0), .inl l1] [.inr (.inl x1), .inr (.inl x0)] σ Q = (isO x1 3 ∧ WP m35 10 [.inr (.inl l0), .inl l1] [.inl (σ x1 1), .inr (.inl x0)] σ Q) := w_getI (c := 3) (n := 1) d35_7 (by decide +kernel) (by decide +kernel)
theorem d35_10 : adec m35 10 = some (.iconst (1), 1) := by decide +kernel
theorem s35_10 {l0 : Nat} {l1 : Int} {x0 : Nat} {x1 : Int} : WP m35 10 [.inr (.inl l0), .inl l1] [.inl x1, .inr (.inl x0)] σ Q = WP m35 11 [.inr (.inl l0), .inl l1] [.inl (1), .inl x1, .inr (.inl x0)] σ Q := w_iconst d35_10 (by decide)
theorem d35_11 : adec m35 11 = some (.isub, 1) := by decide +kernel
theorem s35_11 {l0 : Nat} {l1 : Int} {x0 : Nat} {x1 : Int} {x2 : Int} : WP m35 11 [.inr (.inl l0), .inl l1] [.inl x2, .inl x1, .inr (.inl x0)] σ Q = (inI (x1 - x2) ∧ WP m35 12 [.inr (.inl l0), .inl l1] [.inl (x1 - x2), .inr (.inl x0)] σ Q) := w_isub d35_11
theorem d35_12 : adec m35 12 = some (.iconst (0), 1) := by decide +kernel
theorem s35_12 {l0 : Nat} {l1 : Int} {x0 : Nat} {x1 : Int} : WP m35 12 [.inr (.inl l0), .inl l1] [.inl x1, .inr (.inl x0)] σ Q = WP m35 13 [.inr (.inl l0), .inl l1] [.inl (0), .inl x1, .inr (.inl x0)] σ Q := w_iconst d35_12 (by decide)
theorem d35_13 : adec m35 13 = some (.invokestatic 7, 3) := by decide +kernel
theorem s35_13 {l0 : Nat} {l1 : Int} {x0 : Nat} {x1 : Int} {x2 : Int} : WP m35 13 [.inr (.inl l0), .inl l1] [.inl x2, .inl x1, .inr (.inl x0)] σ Q = WP m35 16 [.inr (.inl l0), .inl l1] [.inl (max x1 x2), .inr (.inl x0)] σ Q := w_max d35_13 (by decide +kernel) ⟨Nat.le_of_ble_eq_true rfl, Nat.le_of_ble_eq_true rfl⟩
theorem d35_16 : adec m35 16 = some (.putfield 19, 3) := by decide +kernel
theorem s35_16 {l0 : Nat} {l1 : Int} {x0 : Nat} {x1 : Int} : WP m35 16 [.inr (.inl l0), .inl l1] [.inl x1, .inr (.inl x0)] σ Q = (isO x0 3 ∧ WP m35 19 [.inr (.inl l0), .inl l1] [] (aup σ x0 1 x1) Q) := w_putI (c := 3) (n := 1) d35_16 (by decide +kernel) (by decide +kernel) (by decide +kernel)
theorem d35_19 : adec m35 19 = some (.iload_n 1, 1) := by decide +kernel
theorem s35_19 {l0 : Nat} {l1 : Int} : WP m35 19 [.inr (.inl l0), .inl l1] [] σ Q = WP m35 20 [.inr (.inl l0), .inl l1] [.inl l1] σ Q := w_ld d35_19 rfl
theorem d35_20 : adec m35 20 = some (.ireturn, 1) := by decide +kernel
theorem s35_20 {l0 : Nat} {l1 : Int} {x0 : Int} : WP m35 20 [.inr (.inl l0), .inl l1] [.inl x0] σ Q = Q [.inl x0] σ := w_ri d35_20 rfl
theorem e35 {p0 : Nat} : CA m35 [.inr (.inl p0)] σ Q = WP m35 0 [.inr (.inl p0), vU] [] σ Q := rfl
-- BinderPress$Row.insert(II)V
theorem d36_0 : adec m36 0 = some (.iload_n 1, 1) := by decide +kernel
theorem s36_0 {l0 : Nat} {l1 : Int} {l2 : Int} {l3 : AV} : WP m36 0 [.inr (.inl l0), .inl l1, .inl l2, l3] [] σ Q = WP m36 1 [.inr (.inl l0), .inl l1, .inl l2, l3] [.inl l1] σ Q := w_ld d36_0 rfl
theorem d36_1 : adec m36 1 = some (.ifCond .lt (23), 3) := by decide +kernel
theorem s36_1 {l0 : Nat} {l1 : Int} {l2 : Int} {l3 : AV} {x0 : Int} : WP m36 1 [.inr (.inl l0), .inl l1, .inl l2, l3] [.inl x0] σ Q = (if x0 < 0 then WP m36 24 [.inr (.inl l0), .inl l1, .inl l2, l3] [] σ Q else WP m36 4 [.inr (.inl l0), .inl l1, .inl l2, l3] [] σ Q) := w_iflt d36_1 (by decide)
theorem d36_4 : adec m36 4 = some (.iload_n 1, 1) := by decide +kernel
theorem s36_4 {l0 : Nat} {l1 : Int} {l2 : Int} {l3 : AV} : WP m36 4 [.inr (.inl l0), .inl l1, .inl l2, l3] [] σ Q = WP m36 5 [.inr (.inl l0), .inl l1, .inl l2, l3] [.inl l1] σ Q := w_ld d36_4 rfl
theorem d36_5 : adec m36 5 = some (.aload_n 0, 1) := by decide +kernel
theorem s36_5 {l0 : Nat} {l1 : Int} {l2 : Int} {l3 : AV} {x0 : Int} : WP m36 5 [.inr (.inl l0), .inl l1, .inl l2, l3] [.inl x0] σ Q = WP m36 6 [.inr (.inl l0), .inl l1, .inl l2, l3] [.inr (.inl l0), .inl x0] σ Q := w_ld d36_5 rfl
theorem d36_6 : adec m36 6 = some (.getfield 19, 3) := by decide +kernel
theorem s36_6 {l0 : Nat} {l1 : Int} {l2 : Int} {l3 : AV} {x0 : Int} {x1 : Nat} : WP m36 6 [.inr (.inl l0), .inl l1, .inl l2, l3] [.inr (.inl x1), .inl x0] σ Q = (isO x1 3 ∧ WP m36 9 [.inr (.inl l0), .inl l1, .inl l2, l3] [.inl (σ x1 1), .inl x0] σ Q) := w_getI (c := 3) (n := 1) d36_6 (by decide +kernel) (by decide +kernel)
theorem d36_9 : adec m36 9 = some (.if_icmp .gt (15), 3) := by decide +kernel
theorem s36_9 {l0 : Nat} {l1 : Int} {l2 : Int} {l3 : AV} {x0 : Int} {x1 : Int} : WP m36 9 [.inr (.inl l0), .inl l1, .inl l2, l3] [.inl x1, .inl x0] σ Q = (if x1 < x0 then WP m36 24 [.inr (.inl l0), .inl l1, .inl l2, l3] [] σ Q else WP m36 12 [.inr (.inl l0), .inl l1, .inl l2, l3] [] σ Q) := w_icgt d36_9 (by decide)
theorem d36_12 : adec m36 12 = some (.aload_n 0, 1) := by decide +kernel
theorem s36_12 {l0 : Nat} {l1 : Int} {l2 : Int} {l3 : AV} : WP m36 12 [.inr (.inl l0), .inl l1, .inl l2, l3] [] σ Q = WP m36 13 [.inr (.inl l0), .inl l1, .inl l2, l3] [.inr (.inl l0)] σ Q := w_ld d36_12 rfl
theorem d36_13 : adec m36 13 = some (.getfield 19, 3) := by decide +kernel
theorem s36_13 {l0 : Nat} {l1 : Int} {l2 : Int} {l3 : AV} {x0 : Nat} : WP m36 13 [.inr (.inl l0), .inl l1, .inl l2, l3] [.inr (.inl x0)] σ Q = (isO x0 3 ∧ WP m36 16 [.inr (.inl l0), .inl l1, .inl l2, l3] [.inl (σ x0 1)] σ Q) := w_getI (c := 3) (n := 1) d36_13 (by decide +kernel) (by decide +kernel)
theorem d36_16 : adec m36 16 = some (.aload_n 0, 1) := by decide +kernel
theorem s36_16 {l0 : Nat} {l1 : Int} {l2 : Int} {l3 : AV} {x0 : Int} : WP m36 16 [.inr (.inl l0), .inl l1, .inl l2, l3] [.inl x0] σ Q = WP m36 17 [.inr (.inl l0), .inl l1, .inl l2, l3] [.inr (.inl l0), .inl x0] σ Q := w_ld d36_16 rfl
theorem d36_17 : adec m36 17 = some (.getfield 13, 3) := by decide +kernel
theorem s36_17 {l0 : Nat} {l1 : Int} {l2 : Int} {l3 : AV} {x0 : Int} {x1 : Nat} : WP m36 17 [.inr (.inl l0), .inl l1, .inl l2, l3] [.inr (.inl x1), .inl x0] σ Q = ((isO x1 3 ∧ 0 ≤ PT x1 0) ∧ WP m36 20 [.inr (.inl l0), .inl l1, .inl l2, l3] [.inr (.inl (pt x1 0)), .inl x0] σ Q) := w_getR (c := 3) (n := 0) d36_17 (by decide +kernel) (by decide +kernel)
theorem d36_20 : adec m36 20 = some (.arraylength, 1) := by decide +kernel
theorem s36_20 {l0 : Nat} {l1 : Int} {l2 : Int} {l3 : AV} {x0 : Int} {x1 : Nat} : WP m36 20 [.inr (.inl l0), .inl l1, .inl l2, l3] [.inr (.inl x1), .inl x0] σ Q = ((kdS x1 = 20 ∨ kdS x1 = 21 ∨ kdS x1 = 22) ∧ WP m36 21 [.inr (.inl l0), .inl l1, .inl l2, l3] [.inl (ln x1 : Int), .inl x0] σ Q) := w_alen d36_20
theorem d36_21 : adec m36 21 = some (.if_icmp .lt (4), 3) := by decide +kernel
theorem s36_21 {l0 : Nat} {l1 : Int} {l2 : Int} {l3 : AV} {x0 : Int} {x1 : Int} : WP m36 21 [.inr (.inl l0), .inl l1, .inl l2, l3] [.inl x1, .inl x0] σ Q = (if x0 < x1 then WP m36 25 [.inr (.inl l0), .inl l1, .inl l2, l3] [] σ Q else WP m36 24 [.inr (.inl l0), .inl l1, .inl l2, l3] [] σ Q) := w_iclt d36_21 (by decide)
theorem d36_24 : adec m36 24 = some (.return_, 1) := by decide +kernel
theorem s36_24 {l0 : Nat} {l1 : Int} {l2 : Int} {l3 : AV} : WP m36 24 [.inr (.inl l0), .inl l1, .inl l2, l3] [] σ Q = Q [] σ := w_rv d36_24 rfl
theorem d36_25 : adec m36 25 = some (.aload_n 0, 1) := by decide +kernel
theorem s36_25 {l0 : Nat} {l1 : Int} {l2 : Int} {l3 : AV} : WP m36 25 [.inr (.inl l0), .inl l1, .inl l2, l3] [] σ Q = WP m36 26 [.inr (.inl l0), .inl l1, .inl l2, l3] [.inr (.inl l0)] σ Q := w_ld d36_25 rfl
theorem d36_26 : adec m36 26 = some (.getfield 19, 3) := by decide +kernel
theorem s36_26 {l0 : Nat} {l1 : Int} {l2 : Int} {l3 : AV} {x0 : Nat} : WP m36 26 [.inr (.inl l0), .inl l1, .inl l2, l3] [.inr (.inl x0)] σ Q = (isO x0 3 ∧ WP m36 29 [.inr (.inl l0), .inl l1, .inl l2, l3] [.inl (σ x0 1)] σ Q) := w_getI (c := 3) (n := 1) d36_26 (by decide +kernel) (by decide +kernel)
theorem d36_29 : adec m36 29 = some (.istore_n 3, 1) := by decide +kernel
theorem s36_29 {l0 : Nat} {l1 : Int} {l2 : Int} {l3 : AV} {x0 : Int} : WP m36 29 [.inr (.inl l0), .inl l1, .inl l2, l3] [.inl x0] σ Q = WP m36 30 [.inr (.inl l0), .inl l1, .inl l2, .inl x0] [] σ Q := w_st1 (j := 3) d36_29 rfl (Nat.le_of_ble_eq_true rfl) rfl
theorem d36_30 : adec m36 30 = some (.iload_n 3, 1) := by decide +kernel
theorem s36_30 {l0 : Nat} {l1 : Int} {l2 : Int} {l3 : Int} : WP m36 30 [.inr (.inl l0), .inl l1, .inl l2, .inl l3] [] σ Q = WP m36 31 [.inr (.inl l0), .inl l1, .inl l2, .inl l3] [.inl l3] σ Q := w_ld d36_30 rfl
theorem d36_31 : adec m36 31 = some (.iload_n 1, 1) := by decide +kernel
theorem s36_31 {l0 : Nat} {l1 : Int} {l2 : Int} {l3 : Int} {x0 : Int} : WP m36 31 [.inr (.inl l0), .inl l1, .inl l2, .inl l3] [.inl x0] σ Q = WP m36 32 [.inr (.inl l0), .inl l1, .inl l2, .inl l3] [.inl l1, .inl x0] σ Q := w_ld d36_31 rfl
theorem d36_32 : adec m36 32 = some (.if_icmp .le (23), 3) := by decide +kernel
theorem s36_32 {l0 : Nat} {l1 : Int} {l2 : Int} {l3 : Int} {x0 : Int} {x1 : Int} : WP m36 32 [.inr (.inl l0), .inl l1, .inl l2, .inl l3] [.inl x1, .inl x0] σ Q = (if x0 ≤ x1 then WP m36 55 [.inr (.inl l0), .inl l1, .inl l2, .inl l3] [] σ Q else WP m36 35 [.inr (.inl l0), .inl l1, .inl l2, .inl l3] [] σ Q) := w_icle d36_32 (by decide)
theorem d36_35 : adec m36 35 = some (.aload_n 0, 1) := by decide +kernel
theorem s36_35 {l0 : Nat} {l1 : Int} {l2 : Int} {l3 : Int} : WP m36 35 [.inr (.inl l0), .inl l1, .inl l2, .inl l3] [] σ Q = WP m36 36 [.inr (.inl l0), .inl l1, .inl l2, .inl l3] [.inr (.inl l0)] σ Q := w_ld d36_35 rfl
theorem d36_36 : adec m36 36 = some (.getfield 13, 3) := by decide +kernel
theorem s36_36 {l0 : Nat} {l1 : Int} {l2 : Int} {l3 : Int} {x0 : Nat} : WP m36 36 [.inr (.inl l0), .inl l1, .inl l2, .inl l3] [.inr (.inl x0)] σ Q = ((isO x0 3 ∧ 0 ≤ PT x0 0) ∧ WP m36 39 [.inr (.inl l0), .inl l1, .inl l2, .inl l3] [.inr (.inl (pt x0 0))] σ Q) := w_getR (c := 3) (n := 0) d36_36 (by decide +kernel) (by decide +kernel)
theorem d36_39 : adec m36 39 = some (.iload_n 3, 1) := by decide +kernel
theorem s36_39 {l0 : Nat} {l1 : Int} {l2 : Int} {l3 : Int} {x0 : Nat} : WP m36 39 [.inr (.inl l0), .inl l1, .inl l2, .inl l3] [.inr (.inl x0)] σ Q = WP m36 40 [.inr (.inl l0), .inl l1, .inl l2, .inl l3] [.inl l3, .inr (.inl x0)] σ Q := w_ld d36_39 rfl
theorem d36_40 : adec m36 40 = some (.aload_n 0, 1) := by decide +kernel
theorem s36_40 {l0 : Nat} {l1 : Int} {l2 : Int} {l3 : Int} {x0 : Nat} {x1 : Int} : WP m36 40 [.inr (.inl l0), .inl l1, .inl l2, .inl l3] [.inl x1, .inr (.inl x0)] σ Q = WP m36 41 [.inr (.inl l0), .inl l1, .inl l2, .inl l3] [.inr (.inl l0), .inl x1, .inr (.inl x0)] σ Q := w_ld d36_40 rfl
theorem d36_41 : adec m36 41 = some (.getfield 13, 3) := by decide +kernel
theorem s36_41 {l0 : Nat} {l1 : Int} {l2 : Int} {l3 : Int} {x0 : Nat} {x1 : Int} {x2 : Nat} : WP m36 41 [.inr (.inl l0), .inl l1, .inl l2, .inl l3] [.inr (.inl x2), .inl x1, .inr (.inl x0)] σ Q = ((isO x2 3 ∧ 0 ≤ PT x2 0) ∧ WP m36 44 [.inr (.inl l0), .inl l1, .inl l2, .inl l3] [.inr (.inl (pt x2 0)), .inl x1, .inr (.inl x0)] σ Q) := w_getR (c := 3) (n := 0) d36_41 (by decide +kernel) (by decide +kernel)
theorem d36_44 : adec m36 44 = some (.iload_n 3, 1) := by decide +kernel
theorem s36_44 {l0 : Nat} {l1 : Int} {l2 : Int} {l3 : Int} {x0 : Nat} {x1 : Int} {x2 : Nat} : WP m36 44 [.inr (.inl l0), .inl l1, .inl l2, .inl l3] [.inr (.inl x2), .inl x1, .inr (.inl x0)] σ Q = WP m36 45 [.inr (.inl l0), .inl l1, .inl l2, .inl l3] [.inl l3, .inr (.inl x2), .inl x1, .inr (.inl x0)] σ Q := w_ld d36_44 rfl
theorem d36_45 : adec m36 45 = some (.iconst (1), 1) := by decide +kernel
theorem s36_45 {l0 : Nat} {l1 : Int} {l2 : Int} {l3 : Int} {x0 : Nat} {x1 : Int} {x2 : Nat} {x3 : Int} : WP m36 45 [.inr (.inl l0), .inl l1, .inl l2, .inl l3] [.inl x3, .inr (.inl x2), .inl x1, .inr (.inl x0)] σ Q = WP m36 46 [.inr (.inl l0), .inl l1, .inl l2, .inl l3] [.inl (1), .inl x3, .inr (.inl x2), .inl x1, .inr (.inl x0)] σ Q := w_iconst d36_45 (by decide)
theorem d36_46 : adec m36 46 = some (.isub, 1) := by decide +kernel
theorem s36_46 {l0 : Nat} {l1 : Int} {l2 : Int} {l3 : Int} {x0 : Nat} {x1 : Int} {x2 : Nat} {x3 : Int} {x4 : Int} : WP m36 46 [.inr (.inl l0), .inl l1, .inl l2, .inl l3] [.inl x4, .inl x3, .inr (.inl x2), .inl x1, .inr (.inl x0)] σ Q = (inI (x3 - x4) ∧ WP m36 47 [.inr (.inl l0), .inl l1, .inl l2, .inl l3] [.inl (x3 - x4), .inr (.inl x2), .inl x1, .inr (.inl x0)] σ Q) := w_isub d36_46
theorem d36_47 : adec m36 47 = some (.iaload, 1) := by decide +kernel
theorem s36_47 {l0 : Nat} {l1 : Int} {l2 : Int} {l3 : Int} {x0 : Nat} {x1 : Int} {x2 : Nat} {x3 : Int} : WP m36 47 [.inr (.inl l0), .inl l1, .inl l2, .inl l3] [.inl x3, .inr (.inl x2), .inl x1, .inr (.inl x0)] σ Q = ((kdS x2 = 20 ∧ 0 ≤ x3 ∧ x3 < ln x2) ∧ WP m36 48 [.inr (.inl l0), .inl l1, .inl l2, .inl l3] [.inl (σ x2 x3.toNat), .inl x1, .inr (.inl x0)] σ Q) := w_iald d36_47
theorem d36_48 : adec m36 48 = some (.iastore, 1) := by decide +kernel
theorem s36_48 {l0 : Nat} {l1 : Int} {l2 : Int} {l3 : Int} {x0 : Nat} {x1 : Int} {x2 : Int} : WP m36 48 [.inr (.inl l0), .inl l1, .inl l2, .inl l3] [.inl x2, .inl x1, .inr (.inl x0)] σ Q = ((kdS x0 = 20 ∧ 0 ≤ x1 ∧ x1 < ln x0) ∧ WP m36 49 [.inr (.inl l0), .inl l1, .inl l2, .inl l3] [] (aup σ x0 x1.toNat x2) Q) := w_iast d36_48
theorem d36_49 : adec m36 49 = some (.iinc 3 (-1), 3) := by decide +kernel
theorem s36_49 {l0 : Nat} {l1 : Int} {l2 : Int} {l3 : Int} : WP m36 49 [.inr (.inl l0), .inl l1, .inl l2, .inl l3] [] σ Q = (inI (l3 + (-1)) ∧ WP m36 52 [.inr (.inl l0), .inl l1, .inl l2, .inl (l3 + (-1))] [] σ Q) := w_iinc d36_49 rfl rfl
theorem d36_52 : adec m36 52 = some (.goto (-22), 3) := by decide +kernel
theorem s36_52 {l0 : Nat} {l1 : Int} {l2 : Int} {l3 : Int} : WP m36 52 [.inr (.inl l0), .inl l1, .inl l2, .inl l3] [] σ Q = WP m36 30 [.inr (.inl l0), .inl l1, .inl l2, .inl l3] [] σ Q := w_goto d36_52 (by decide)
theorem d36_55 : adec m36 55 = some (.aload_n 0, 1) := by decide +kernel
theorem s36_55 {l0 : Nat} {l1 : Int} {l2 : Int} {l3 : Int} : WP m36 55 [.inr (.inl l0), .inl l1, .inl l2, .inl l3] [] σ Q = WP m36 56 [.inr (.inl l0), .inl l1, .inl l2, .inl l3] [.inr (.inl l0)] σ Q := w_ld d36_55 rfl
theorem d36_56 : adec m36 56 = some (.getfield 13, 3) := by decide +kernel
theorem s36_56 {l0 : Nat} {l1 : Int} {l2 : Int} {l3 : Int} {x0 : Nat} : WP m36 56 [.inr (.inl l0), .inl l1, .inl l2, .inl l3] [.inr (.inl x0)] σ Q = ((isO x0 3 ∧ 0 ≤ PT x0 0) ∧ WP m36 59 [.inr (.inl l0), .inl l1, .inl l2, .inl l3] [.inr (.inl (pt x0 0))] σ Q) := w_getR (c := 3) (n := 0) d36_56 (by decide +kernel) (by decide +kernel)
theorem d36_59 : adec m36 59 = some (.iload_n 1, 1) := by decide +kernel
theorem s36_59 {l0 : Nat} {l1 : Int} {l2 : Int} {l3 : Int} {x0 : Nat} : WP m36 59 [.inr (.inl l0), .inl l1, .inl l2, .inl l3] [.inr (.inl x0)] σ Q = WP m36 60 [.inr (.inl l0), .inl l1, .inl l2, .inl l3] [.inl l1, .inr (.inl x0)] σ Q := w_ld d36_59 rfl
theorem d36_60 : adec m36 60 = some (.iload_n 2, 1) := by decide +kernel
theorem s36_60 {l0 : Nat} {l1 : Int} {l2 : Int} {l3 : Int} {x0 : Nat} {x1 : Int} : WP m36 60 [.inr (.inl l0), .inl l1, .inl l2, .inl l3] [.inl x1, .inr (.inl x0)] σ Q = WP m36 61 [.inr (.inl l0), .inl l1, .inl l2, .inl l3] [.inl l2, .inl x1, .inr (.inl x0)] σ Q := w_ld d36_60 rfl
theorem d36_61 : adec m36 61 = some (.iastore, 1) := by decide +kernel
theorem s36_61 {l0 : Nat} {l1 : Int} {l2 : Int} {l3 : Int} {x0 : Nat} {x1 : Int} {x2 : Int} : WP m36 61 [.inr (.inl l0), .inl l1, .inl l2, .inl l3] [.inl x2, .inl x1, .inr (.inl x0)] σ Q = ((kdS x0 = 20 ∧ 0 ≤ x1 ∧ x1 < ln x0) ∧ WP m36 62 [.inr (.inl l0), .inl l1, .inl l2, .inl l3] [] (aup σ x0 x1.toNat x2) Q) := w_iast d36_61
theorem d36_62 : adec m36 62 = some (.aload_n 0, 1) := by decide +kernel
theorem s36_62 {l0 : Nat} {l1 : Int} {l2 : Int} {l3 : Int} : WP m36 62 [.inr (.inl l0), .inl l1, .inl l2, .inl l3] [] σ Q = WP m36 63 [.inr (.inl l0), .inl l1, .inl l2, .inl l3] [.inr (.inl l0)] σ Q := w_ld d36_62 rfl
theorem d36_63 : adec m36 63 = some (.dup, 1) := by decide +kernel
theorem s36_63 {l0 : Nat} {l1 : Int} {l2 : Int} {l3 : Int} {x0 : Nat} : WP m36 63 [.inr (.inl l0), .inl l1, .inl l2, .inl l3] [.inr (.inl x0)] σ Q = WP m36 64 [.inr (.inl l0), .inl l1, .inl l2, .inl l3] [.inr (.inl x0), .inr (.inl x0)] σ Q := w_ld d36_63 rfl
theorem d36_64 : adec m36 64 = some (.getfield 19, 3) := by decide +kernel
theorem s36_64 {l0 : Nat} {l1 : Int} {l2 : Int} {l3 : Int} {x0 : Nat} {x1 : Nat} : WP m36 64 [.inr (.inl l0), .inl l1, .inl l2, .inl l3] [.inr (.inl x1), .inr (.inl x0)] σ Q = (isO x1 3 ∧ WP m36 67 [.inr (.inl l0), .inl l1, .inl l2, .inl l3] [.inl (σ x1 1), .inr (.inl x0)] σ Q) := w_getI (c := 3) (n := 1) d36_64 (by decide +kernel) (by decide +kernel)
theorem d36_67 : adec m36 67 = some (.iconst (1), 1) := by decide +kernel
theorem s36_67 {l0 : Nat} {l1 : Int} {l2 : Int} {l3 : Int} {x0 : Nat} {x1 : Int} : WP m36 67 [.inr (.inl l0), .inl l1, .inl l2, .inl l3] [.inl x1, .inr (.inl x0)] σ Q = WP m36 68 [.inr (.inl l0), .inl l1, .inl l2, .inl l3] [.inl (1), .inl x1, .inr (.inl x0)] σ Q := w_iconst d36_67 (by decide)
theorem d36_68 : adec m36 68 = some (.iadd, 1) := by decide +kernel
theorem s36_68 {l0 : Nat} {l1 : Int} {l2 : Int} {l3 : Int} {x0 : Nat} {x1 : Int} {x2 : Int} : WP m36 68 [.inr (.inl l0), .inl l1, .inl l2, .inl l3] [.inl x2, .inl x1, .inr (.inl x0)] σ Q = (inI (x1 + x2) ∧ WP m36 69 [.inr (.inl l0), .inl l1, .inl l2, .inl l3] [.inl (x1 + x2), .inr (.inl x0)] σ Q) := w_iadd d36_68
theorem d36_69 : adec m36 69 = some (.putfield 19, 3) := by decide +kernel
theorem s36_69 {l0 : Nat} {l1 : Int} {l2 : Int} {l3 : Int} {x0 : Nat} {x1 : Int} : WP m36 69 [.inr (.inl l0), .inl l1, .inl l2, .inl l3] [.inl x1, .inr (.inl x0)] σ Q = (isO x0 3 ∧ WP m36 72 [.inr (.inl l0), .inl l1, .inl l2, .inl l3] [] (aup σ x0 1 x1) Q) := w_putI (c := 3) (n := 1) d36_69 (by decide +kernel) (by decide +kernel) (by decide +kernel)
theorem d36_72 : adec m36 72 = some (.return_, 1) := by decide +kernel
theorem s36_72 {l0 : Nat} {l1 : Int} {l2 : Int} {l3 : Int} : WP m36 72 [.inr (.inl l0), .inl l1, .inl l2, .inl l3] [] σ Q = Q [] σ := w_rv d36_72 rfl
theorem e36 {p0 : Nat} {p1 : Int} {p2 : Int} : CA m36 [.inr (.inl p0), .inl p1, .inl p2] σ Q = WP m36 0 [.inr (.inl p0), .inl p1, .inl p2, vU] [] σ Q := rfl
-- BinderPress$Row.fill(II)V
theorem d37_0 : adec m37 0 = some (.aload_n 0, 1) := by decide +kernel
theorem s37_0 {l0 : Nat} {l1 : Int} {l2 : Int} {l3 : AV} : WP m37 0 [.inr (.inl l0), .inl l1, .inl l2, l3] [] σ Q = WP m37 1 [.inr (.inl l0), .inl l1, .inl l2, l3] [.inr (.inl l0)] σ Q := w_ld d37_0 rfl
theorem d37_1 : adec m37 1 = some (.invokevirtual 27, 3) := by decide +kernel
theorem s37_1 {l0 : Nat} {l1 : Int} {l2 : Int} {l3 : AV} {x0 : Nat} : WP m37 1 [.inr (.inl l0), .inl l1, .inl l2, l3] [.inr (.inl x0)] σ Q = (isO x0 3 ∧ CA m29 [.inr (.inl x0)] σ (fun v σ2 => WP m37 4 [.inr (.inl l0), .inl l1, .inl l2, l3] (v ++ []) σ2 Q)) := w_cV (k := 29) d37_1 (by decide +kernel) m29_at rfl rfl ⟨Nat.le_of_ble_eq_true rfl, Nat.le_of_ble_eq_true rfl, Nat.le_of_ble_eq_true rfl⟩ (by decide)
theorem d37_4 : adec m37 4 = some (.iconst (0), 1) := by decide +kernel
theorem s37_4 {l0 : Nat} {l1 : Int} {l2 : Int} {l3 : AV} : WP m37 4 [.inr (.inl l0), .inl l1, .inl l2, l3] [] σ Q = WP m37 5 [.inr (.inl l0), .inl l1, .inl l2, l3] [.inl (0)] σ Q := w_iconst d37_4 (by decide)
theorem d37_5 : adec m37 5 = some (.istore_n 3, 1) := by decide +kernel
theorem s37_5 {l0 : Nat} {l1 : Int} {l2 : Int} {l3 : AV} {x0 : Int} : WP m37 5 [.inr (.inl l0), .inl l1, .inl l2, l3] [.inl x0] σ Q = WP m37 6 [.inr (.inl l0), .inl l1, .inl l2, .inl x0] [] σ Q := w_st1 (j := 3) d37_5 rfl (Nat.le_of_ble_eq_true rfl) rfl
theorem d37_6 : adec m37 6 = some (.iload_n 3, 1) := by decide +kernel
theorem s37_6 {l0 : Nat} {l1 : Int} {l2 : Int} {l3 : Int} : WP m37 6 [.inr (.inl l0), .inl l1, .inl l2, .inl l3] [] σ Q = WP m37 7 [.inr (.inl l0), .inl l1, .inl l2, .inl l3] [.inl l3] σ Q := w_ld d37_6 rfl
theorem d37_7 : adec m37 7 = some (.iload_n 1, 1) := by decide +kernel
theorem s37_7 {l0 : Nat} {l1 : Int} {l2 : Int} {l3 : Int} {x0 : Int} : WP m37 7 [.inr (.inl l0), .inl l1, .inl l2, .inl l3] [.inl x0] σ Q = WP m37 8 [.inr (.inl l0), .inl l1, .inl l2, .inl l3] [.inl l1, .inl x0] σ Q := w_ld d37_7 rfl
theorem d37_8 : adec m37 8 = some (.if_icmp .ge (14), 3) := by decide +kernel
theorem s37_8 {l0 : Nat} {l1 : Int} {l2 : Int} {l3 : Int} {x0 : Int} {x1 : Int} : WP m37 8 [.inr (.inl l0), .inl l1, .inl l2, .inl l3] [.inl x1, .inl x0] σ Q = (if x1 ≤ x0 then WP m37 22 [.inr (.inl l0), .inl l1, .inl l2, .inl l3] [] σ Q else WP m37 11 [.inr (.inl l0), .inl l1, .inl l2, .inl l3] [] σ Q) := w_icge d37_8 (by decide)
theorem d37_11 : adec m37 11 = some (.aload_n 0, 1) := by decide +kernel
theorem s37_11 {l0 : Nat} {l1 : Int} {l2 : Int} {l3 : Int} : WP m37 11 [.inr (.inl l0), .inl l1, .inl l2, .inl l3] [] σ Q = WP m37 12 [.inr (.inl l0), .inl l1, .inl l2, .inl l3] [.inr (.inl l0)] σ Q := w_ld d37_11 rfl
theorem d37_12 : adec m37 12 = some (.iload_n 2, 1) := by decide +kernel
theorem s37_12 {l0 : Nat} {l1 : Int} {l2 : Int} {l3 : Int} {x0 : Nat} : WP m37 12 [.inr (.inl l0), .inl l1, .inl l2, .inl l3] [.inr (.inl x0)] σ Q = WP m37 13 [.inr (.inl l0), .inl l1, .inl l2, .inl l3] [.inl l2, .inr (.inl x0)] σ Q := w_ld d37_12 rfl
theorem d37_13 : adec m37 13 = some (.invokevirtual 30, 3) := by decide +kernel
theorem s37_13 {l0 : Nat} {l1 : Int} {l2 : Int} {l3 : Int} {x0 : Nat} {x1 : Int} : WP m37 13 [.inr (.inl l0), .inl l1, .inl l2, .inl l3] [.inl x1, .inr (.inl x0)] σ Q = (isO x0 3 ∧ CA m34 [.inr (.inl x0), .inl x1] σ (fun v σ2 => WP m37 16 [.inr (.inl l0), .inl l1, .inl l2, .inl l3] (v ++ []) σ2 Q)) := w_cV (k := 34) d37_13 (by decide +kernel) m34_at rfl rfl ⟨Nat.le_of_ble_eq_true rfl, Nat.le_of_ble_eq_true rfl, Nat.le_of_ble_eq_true rfl⟩ (by decide)
theorem d37_16 : adec m37 16 = some (.iinc 3 (1), 3) := by decide +kernel
theorem s37_16 {l0 : Nat} {l1 : Int} {l2 : Int} {l3 : Int} : WP m37 16 [.inr (.inl l0), .inl l1, .inl l2, .inl l3] [] σ Q = (inI (l3 + (1)) ∧ WP m37 19 [.inr (.inl l0), .inl l1, .inl l2, .inl (l3 + (1))] [] σ Q) := w_iinc d37_16 rfl rfl
theorem d37_19 : adec m37 19 = some (.goto (-13), 3) := by decide +kernel
theorem s37_19 {l0 : Nat} {l1 : Int} {l2 : Int} {l3 : Int} : WP m37 19 [.inr (.inl l0), .inl l1, .inl l2, .inl l3] [] σ Q = WP m37 6 [.inr (.inl l0), .inl l1, .inl l2, .inl l3] [] σ Q := w_goto d37_19 (by decide)
theorem d37_22 : adec m37 22 = some (.return_, 1) := by decide +kernel
theorem s37_22 {l0 : Nat} {l1 : Int} {l2 : Int} {l3 : Int} : WP m37 22 [.inr (.inl l0), .inl l1, .inl l2, .inl l3] [] σ Q = Q [] σ := w_rv d37_22 rfl
theorem e37 {p0 : Nat} {p1 : Int} {p2 : Int} : CA m37 [.inr (.inl p0), .inl p1, .inl p2] σ Q = WP m37 0 [.inr (.inl p0), .inl p1, .inl p2, vU] [] σ Q := rfl
-- BinderPress$Row.addAll(LBinderPress$Row;)V
theorem d38_0 : adec m38 0 = some (.aload_n 0, 1) := by decide +kernel
theorem s38_0 {l0 : Nat} {l1 : Nat} : WP m38 0 [.inr (.inl l0), .inr (.inl l1)] [] σ Q = WP m38 1 [.inr (.inl l0), .inr (.inl l1)] [.inr (.inl l0)] σ Q := w_ld d38_0 rfl
theorem d38_1 : adec m38 1 = some (.aload_n 1, 1) := by decide +kernel
theorem s38_1 {l0 : Nat} {l1 : Nat} {x0 : Nat} : WP m38 1 [.inr (.inl l0), .inr (.inl l1)] [.inr (.inl x0)] σ Q = WP m38 2 [.inr (.inl l0), .inr (.inl l1)] [.inr (.inl l1), .inr (.inl x0)] σ Q := w_ld d38_1 rfl
theorem d38_2 : adec m38 2 = some (.iconst (0), 1) := by decide +kernel
theorem s38_2 {l0 : Nat} {l1 : Nat} {x0 : Nat} {x1 : Nat} : WP m38 2 [.inr (.inl l0), .inr (.inl l1)] [.inr (.inl x1), .inr (.inl x0)] σ Q = WP m38 3 [.inr (.inl l0), .inr (.inl l1)] [.inl (0), .inr (.inl x1), .inr (.inl x0)] σ Q := w_iconst d38_2 (by decide)
theorem d38_3 : adec m38 3 = some (.aload_n 1, 1) := by decide +kernel
theorem s38_3 {l0 : Nat} {l1 : Nat} {x0 : Nat} {x1 : Nat} {x2 : Int} : WP m38 3 [.inr (.inl l0), .inr (.inl l1)] [.inl x2, .inr (.inl x1), .inr (.inl x0)] σ Q = WP m38 4 [.inr (.inl l0), .inr (.inl l1)] [.inr (.inl l1), .inl x2, .inr (.inl x1), .inr (.inl x0)] σ Q := w_ld d38_3 rfl
theorem d38_4 : adec m38 4 = some (.getfield 19, 3) := by decide +kernel
theorem s38_4 {l0 : Nat} {l1 : Nat} {x0 : Nat} {x1 : Nat} {x2 : Int} {x3 : Nat} : WP m38 4 [.inr (.inl l0), .inr (.inl l1)] [.inr (.inl x3), .inl x2, .inr (.inl x1), .inr (.inl x0)] σ Q = (isO x3 3 ∧ WP m38 7 [.inr (.inl l0), .inr (.inl l1)] [.inl (σ x3 1), .inl x2, .inr (.inl x1), .inr (.inl x0)] σ Q) := w_getI (c := 3) (n := 1) d38_4 (by decide +kernel) (by decide +kernel)
theorem d38_7 : adec m38 7 = some (.invokevirtual 34, 3) := by decide +kernel
theorem s38_7 {l0 : Nat} {l1 : Nat} {x0 : Nat} {x1 : Nat} {x2 : Int} {x3 : Int} : WP m38 7 [.inr (.inl l0), .inr (.inl l1)] [.inl x3, .inl x2, .inr (.inl x1), .inr (.inl x0)] σ Q = (isO x0 3 ∧ CA m39 [.inr (.inl x0), .inr (.inl x1), .inl x2, .inl x3] σ (fun v σ2 => WP m38 10 [.inr (.inl l0), .inr (.inl l1)] (v ++ []) σ2 Q)) := w_cV (k := 39) d38_7 (by decide +kernel) m39_at rfl rfl ⟨Nat.le_of_ble_eq_true rfl, Nat.le_of_ble_eq_true rfl, Nat.le_of_ble_eq_true rfl⟩ (by decide)
theorem d38_10 : adec m38 10 = some (.return_, 1) := by decide +kernel
theorem s38_10 {l0 : Nat} {l1 : Nat} : WP m38 10 [.inr (.inl l0), .inr (.inl l1)] [] σ Q = Q [] σ := w_rv d38_10 rfl
theorem e38 {p0 : Nat} {p1 : Nat} : CA m38 [.inr (.inl p0), .inr (.inl p1)] σ Q = WP m38 0 [.inr (.inl p0), .inr (.inl p1)] [] σ Q := rfl
-- BinderPress$Row.addPart(LBinderPress$Row;II)V
theorem d39_0 : adec m39 0 = some (.iload_n 2, 1) := by decide +kernel
theorem s39_0 {l0 : Nat} {l1 : Nat} {l2 : Int} {l3 : Int} {l4 : AV} {l5 : AV} : WP m39 0 [.inr (.inl l0), .inr (.inl l1), .inl l2, .inl l3, l4, l5] [] σ Q = WP m39 1 [.inr (.inl l0), .inr (.inl l1), .inl l2, .inl l3, l4, l5] [.inl l2] σ Q := w_ld d39_0 rfl
theorem d39_1 : adec m39 1 = some (.iconst (0), 1) := by decide +kernel
theorem s39_1 {l0 : Nat} {l1 : Nat} {l2 : Int} {l3 : Int} {l4 : AV} {l5 : AV} {x0 : Int} : WP m39 1 [.inr (.inl l0), .inr (.inl l1), .inl l2, .inl l3, l4, l5] [.inl x0] σ Q = WP m39 2 [.inr (.inl l0), .inr (.inl l1), .inl l2, .inl l3, l4, l5] [.inl (0), .inl x0] σ Q := w_iconst d39_1 (by decide)
theorem d39_2 : adec m39 2 = some (.invokestatic 7, 3) := by decide +kernel
theorem s39_2 {l0 : Nat} {l1 : Nat} {l2 : Int} {l3 : Int} {l4 : AV} {l5 : AV} {x0 : Int} {x1 : Int} : WP m39 2 [.inr (.inl l0), .inr (.inl l1), .inl l2, .inl l3, l4, l5] [.inl x1, .inl x0] σ Q = WP m39 5 [.inr (.inl l0), .inr (.inl l1), .inl l2, .inl l3, l4, l5] [.inl (max x0 x1)] σ Q := w_max d39_2 (by decide +kernel) ⟨Nat.le_of_ble_eq_true rfl, Nat.le_of_ble_eq_true rfl⟩
theorem d39_5 : adec m39 5 = some (.istore 4, 2) := by decide +kernel
theorem s39_5 {l0 : Nat} {l1 : Nat} {l2 : Int} {l3 : Int} {l4 : AV} {l5 : AV} {x0 : Int} : WP m39 5 [.inr (.inl l0), .inr (.inl l1), .inl l2, .inl l3, l4, l5] [.inl x0] σ Q = WP m39 7 [.inr (.inl l0), .inr (.inl l1), .inl l2, .inl l3, .inl x0, l5] [] σ Q := w_st1 (j := 4) d39_5 rfl (Nat.le_of_ble_eq_true rfl) rfl
theorem d39_7 : adec m39 7 = some (.iload_n 3, 1) := by decide +kernel
theorem s39_7 {l0 : Nat} {l1 : Nat} {l2 : Int} {l3 : Int} {l4 : Int} {l5 : AV} : WP m39 7 [.inr (.inl l0), .inr (.inl l1), .inl l2, .inl l3, .inl l4, l5] [] σ Q = WP m39 8 [.inr (.inl l0), .inr (.inl l1), .inl l2, .inl l3, .inl l4, l5] [.inl l3] σ Q := w_ld d39_7 rfl
theorem d39_8 : adec m39 8 = some (.aload_n 1, 1) := by decide +kernel
theorem s39_8 {l0 : Nat} {l1 : Nat} {l2 : Int} {l3 : Int} {l4 : Int} {l5 : AV} {x0 : Int} : WP m39 8 [.inr (.inl l0), .inr (.inl l1), .inl l2, .inl l3, .inl l4, l5] [.inl x0] σ Q = WP m39 9 [.inr (.inl l0), .inr (.inl l1), .inl l2, .inl l3, .inl l4, l5] [.inr (.inl l1), .inl x0] σ Q := w_ld d39_8 rfl
theorem d39_9 : adec m39 9 = some (.getfield 19, 3) := by decide +kernel
theorem s39_9 {l0 : Nat} {l1 : Nat} {l2 : Int} {l3 : Int} {l4 : Int} {l5 : AV} {x0 : Int} {x1 : Nat} : WP m39 9 [.inr (.inl l0), .inr (.inl l1), .inl l2, .inl l3, .inl l4, l5] [.inr (.inl x1), .inl x0] σ Q = (isO x1 3 ∧ WP m39 12 [.inr (.inl l0), .inr (.inl l1), .inl l2, .inl l3, .inl l4, l5] [.inl (σ x1 1), .inl x0] σ Q) := w_getI (c := 3) (n := 1) d39_9 (by decide +kernel) (by decide +kernel)
theorem d39_12 : adec m39 12 = some (.invokestatic 38, 3) := by decide +kernel
theorem s39_12 {l0 : Nat} {l1 : Nat} {l2 : Int} {l3 : Int} {l4 : Int} {l5 : AV} {x0 : Int} {x1 : Int} : WP m39 12 [.inr (.inl l0), .inr (.inl l1), .inl l2, .inl l3, .inl l4, l5] [.inl x1, .inl x0] σ Q = WP m39 15 [.inr (.inl l0), .inr (.inl l1), .inl l2, .inl l3, .inl l4, l5] [.inl (min x0 x1)] σ Q := w_min d39_12 (by decide +kernel) ⟨Nat.le_of_ble_eq_true rfl, Nat.le_of_ble_eq_true rfl⟩
theorem d39_15 : adec m39 15 = some (.iload 4, 2) := by decide +kernel
theorem s39_15 {l0 : Nat} {l1 : Nat} {l2 : Int} {l3 : Int} {l4 : Int} {l5 : AV} {x0 : Int} : WP m39 15 [.inr (.inl l0), .inr (.inl l1), .inl l2, .inl l3, .inl l4, l5] [.inl x0] σ Q = WP m39 17 [.inr (.inl l0), .inr (.inl l1), .inl l2, .inl l3, .inl l4, l5] [.inl l4, .inl x0] σ Q := w_ld d39_15 rfl
theorem d39_17 : adec m39 17 = some (.isub, 1) := by decide +kernel
theorem s39_17 {l0 : Nat} {l1 : Nat} {l2 : Int} {l3 : Int} {l4 : Int} {l5 : AV} {x0 : Int} {x1 : Int} : WP m39 17 [.inr (.inl l0), .inr (.inl l1), .inl l2, .inl l3, .inl l4, l5] [.inl x1, .inl x0] σ Q = (inI (x0 - x1) ∧ WP m39 18 [.inr (.inl l0), .inr (.inl l1), .inl l2, .inl l3, .inl l4, l5] [.inl (x0 - x1)] σ Q) := w_isub d39_17
theorem d39_18 : adec m39 18 = some (.aload_n 0, 1) := by decide +kernel
theorem s39_18 {l0 : Nat} {l1 : Nat} {l2 : Int} {l3 : Int} {l4 : Int} {l5 : AV} {x0 : Int} : WP m39 18 [.inr (.inl l0), .inr (.inl l1), .inl l2, .inl l3, .inl l4, l5] [.inl x0] σ Q = WP m39 19 [.inr (.inl l0), .inr (.inl l1), .inl l2, .inl l3, .inl l4, l5] [.inr (.inl l0), .inl x0] σ Q := w_ld d39_18 rfl
theorem d39_19 : adec m39 19 = some (.getfield 13, 3) := by decide +kernel
theorem s39_19 {l0 : Nat} {l1 : Nat} {l2 : Int} {l3 : Int} {l4 : Int} {l5 : AV} {x0 : Int} {x1 : Nat} : WP m39 19 [.inr (.inl l0), .inr (.inl l1), .inl l2, .inl l3, .inl l4, l5] [.inr (.inl x1), .inl x0] σ Q = ((isO x1 3 ∧ 0 ≤ PT x1 0) ∧ WP m39 22 [.inr (.inl l0), .inr (.inl l1), .inl l2, .inl l3, .inl l4, l5] [.inr (.inl (pt x1 0)), .inl x0] σ Q) := w_getR (c := 3) (n := 0) d39_19 (by decide +kernel) (by decide +kernel)
theorem d39_22 : adec m39 22 = some (.arraylength, 1) := by decide +kernel
theorem s39_22 {l0 : Nat} {l1 : Nat} {l2 : Int} {l3 : Int} {l4 : Int} {l5 : AV} {x0 : Int} {x1 : Nat} : WP m39 22 [.inr (.inl l0), .inr (.inl l1), .inl l2, .inl l3, .inl l4, l5] [.inr (.inl x1), .inl x0] σ Q = ((kdS x1 = 20 ∨ kdS x1 = 21 ∨ kdS x1 = 22) ∧ WP m39 23 [.inr (.inl l0), .inr (.inl l1), .inl l2, .inl l3, .inl l4, l5] [.inl (ln x1 : Int), .inl x0] σ Q) := w_alen d39_22
theorem d39_23 : adec m39 23 = some (.aload_n 0, 1) := by decide +kernel
theorem s39_23 {l0 : Nat} {l1 : Nat} {l2 : Int} {l3 : Int} {l4 : Int} {l5 : AV} {x0 : Int} {x1 : Int} : WP m39 23 [.inr (.inl l0), .inr (.inl l1), .inl l2, .inl l3, .inl l4, l5] [.inl x1, .inl x0] σ Q = WP m39 24 [.inr (.inl l0), .inr (.inl l1), .inl l2, .inl l3, .inl l4, l5] [.inr (.inl l0), .inl x1, .inl x0] σ Q := w_ld d39_23 rfl
theorem d39_24 : adec m39 24 = some (.getfield 19, 3) := by decide +kernel
theorem s39_24 {l0 : Nat} {l1 : Nat} {l2 : Int} {l3 : Int} {l4 : Int} {l5 : AV} {x0 : Int} {x1 : Int} {x2 : Nat} : WP m39 24 [.inr (.inl l0), .inr (.inl l1), .inl l2, .inl l3, .inl l4, l5] [.inr (.inl x2), .inl x1, .inl x0] σ Q = (isO x2 3 ∧ WP m39 27 [.inr (.inl l0), .inr (.inl l1), .inl l2, .inl l3, .inl l4, l5] [.inl (σ x2 1), .inl x1, .inl x0] σ Q) := w_getI (c := 3) (n := 1) d39_24 (by decide +kernel) (by decide +kernel)
theorem d39_27 : adec m39 27 = some (.isub, 1) := by decide +kernel
theorem s39_27 {l0 : Nat} {l1 : Nat} {l2 : Int} {l3 : Int} {l4 : Int} {l5 : AV} {x0 : Int} {x1 : Int} {x2 : Int} : WP m39 27 [.inr (.inl l0), .inr (.inl l1), .inl l2, .inl l3, .inl l4, l5] [.inl x2, .inl x1, .inl x0] σ Q = (inI (x1 - x2) ∧ WP m39 28 [.inr (.inl l0), .inr (.inl l1), .inl l2, .inl l3, .inl l4, l5] [.inl (x1 - x2), .inl x0] σ Q) := w_isub d39_27
theorem d39_28 : adec m39 28 = some (.invokestatic 38, 3) := by decide +kernel
theorem s39_28 {l0 : Nat} {l1 : Nat} {l2 : Int} {l3 : Int} {l4 : Int} {l5 : AV} {x0 : Int} {x1 : Int} : WP m39 28 [.inr (.inl l0), .inr (.inl l1), .inl l2, .inl l3, .inl l4, l5] [.inl x1, .inl x0] σ Q = WP m39 31 [.inr (.inl l0), .inr (.inl l1), .inl l2, .inl l3, .inl l4, l5] [.inl (min x0 x1)] σ Q := w_min d39_28 (by decide +kernel) ⟨Nat.le_of_ble_eq_true rfl, Nat.le_of_ble_eq_true rfl⟩
theorem d39_31 : adec m39 31 = some (.istore 5, 2) := by decide +kernel
theorem s39_31 {l0 : Nat} {l1 : Nat} {l2 : Int} {l3 : Int} {l4 : Int} {l5 : AV} {x0 : Int} : WP m39 31 [.inr (.inl l0), .inr (.inl l1), .inl l2, .inl l3, .inl l4, l5] [.inl x0] σ Q = WP m39 33 [.inr (.inl l0), .inr (.inl l1), .inl l2, .inl l3, .inl l4, .inl x0] [] σ Q := w_st1 (j := 5) d39_31 rfl (Nat.le_of_ble_eq_true rfl) rfl
theorem d39_33 : adec m39 33 = some (.iload 5, 2) := by decide +kernel
theorem s39_33 {l0 : Nat} {l1 : Nat} {l2 : Int} {l3 : Int} {l4 : Int} {l5 : Int} : WP m39 33 [.inr (.inl l0), .inr (.inl l1), .inl l2, .inl l3, .inl l4, .inl l5] [] σ Q = WP m39 35 [.inr (.inl l0), .inr (.inl l1), .inl l2, .inl l3, .inl l4, .inl l5] [.inl l5] σ Q := w_ld d39_33 rfl
theorem d39_35 : adec m39 35 = some (.ifCond .le (33), 3) := by decide +kernel
theorem s39_35 {l0 : Nat} {l1 : Nat} {l2 : Int} {l3 : Int} {l4 : Int} {l5 : Int} {x0 : Int} : WP m39 35 [.inr (.inl l0), .inr (.inl l1), .inl l2, .inl l3, .inl l4, .inl l5] [.inl x0] σ Q = (if x0 ≤ 0 then WP m39 68 [.inr (.inl l0), .inr (.inl l1), .inl l2, .inl l3, .inl l4, .inl l5] [] σ Q else WP m39 38 [.inr (.inl l0), .inr (.inl l1), .inl l2, .inl l3, .inl l4, .inl l5] [] σ Q) := w_ifle d39_35 (by decide)
theorem d39_38 : adec m39 38 = some (.aload_n 1, 1) := by decide +kernel
theorem s39_38 {l0 : Nat} {l1 : Nat} {l2 : Int} {l3 : Int} {l4 : Int} {l5 : Int} : WP m39 38 [.inr (.inl l0), .inr (.inl l1), .inl l2, .inl l3, .inl l4, .inl l5] [] σ Q = WP m39 39 [.inr (.inl l0), .inr (.inl l1), .inl l2, .inl l3, .inl l4, .inl l5] [.inr (.inl l1)] σ Q := w_ld d39_38 rfl
theorem d39_39 : adec m39 39 = some (.getfield 13, 3) := by decide +kernel
theorem s39_39 {l0 : Nat} {l1 : Nat} {l2 : Int} {l3 : Int} {l4 : Int} {l5 : Int} {x0 : Nat} : WP m39 39 [.inr (.inl l0), .inr (.inl l1), .inl l2, .inl l3, .inl l4, .inl l5] [.inr (.inl x0)] σ Q = ((isO x0 3 ∧ 0 ≤ PT x0 0) ∧ WP m39 42 [.inr (.inl l0), .inr (.inl l1), .inl l2, .inl l3, .inl l4, .inl l5] [.inr (.inl (pt x0 0))] σ Q) := w_getR (c := 3) (n := 0) d39_39 (by decide +kernel) (by decide +kernel)
theorem d39_42 : adec m39 42 = some (.iload 4, 2) := by decide +kernel
theorem s39_42 {l0 : Nat} {l1 : Nat} {l2 : Int} {l3 : Int} {l4 : Int} {l5 : Int} {x0 : Nat} : WP m39 42 [.inr (.inl l0), .inr (.inl l1), .inl l2, .inl l3, .inl l4, .inl l5] [.inr (.inl x0)] σ Q = WP m39 44 [.inr (.inl l0), .inr (.inl l1), .inl l2, .inl l3, .inl l4, .inl l5] [.inl l4, .inr (.inl x0)] σ Q := w_ld d39_42 rfl
theorem d39_44 : adec m39 44 = some (.aload_n 0, 1) := by decide +kernel
theorem s39_44 {l0 : Nat} {l1 : Nat} {l2 : Int} {l3 : Int} {l4 : Int} {l5 : Int} {x0 : Nat} {x1 : Int} : WP m39 44 [.inr (.inl l0), .inr (.inl l1), .inl l2, .inl l3, .inl l4, .inl l5] [.inl x1, .inr (.inl x0)] σ Q = WP m39 45 [.inr (.inl l0), .inr (.inl l1), .inl l2, .inl l3, .inl l4, .inl l5] [.inr (.inl l0), .inl x1, .inr (.inl x0)] σ Q := w_ld d39_44 rfl
theorem d39_45 : adec m39 45 = some (.getfield 13, 3) := by decide +kernel
theorem s39_45 {l0 : Nat} {l1 : Nat} {l2 : Int} {l3 : Int} {l4 : Int} {l5 : Int} {x0 : Nat} {x1 : Int} {x2 : Nat} : WP m39 45 [.inr (.inl l0), .inr (.inl l1), .inl l2, .inl l3, .inl l4, .inl l5] [.inr (.inl x2), .inl x1, .inr (.inl x0)] σ Q = ((isO x2 3 ∧ 0 ≤ PT x2 0) ∧ WP m39 48 [.inr (.inl l0), .inr (.inl l1), .inl l2, .inl l3, .inl l4, .inl l5] [.inr (.inl (pt x2 0)), .inl x1, .inr (.inl x0)] σ Q) := w_getR (c := 3) (n := 0) d39_45 (by decide +kernel) (by decide +kernel)
theorem d39_48 : adec m39 48 = some (.aload_n 0, 1) := by decide +kernel
theorem s39_48 {l0 : Nat} {l1 : Nat} {l2 : Int} {l3 : Int} {l4 : Int} {l5 : Int} {x0 : Nat} {x1 : Int} {x2 : Nat} : WP m39 48 [.inr (.inl l0), .inr (.inl l1), .inl l2, .inl l3, .inl l4, .inl l5] [.inr (.inl x2), .inl x1, .inr (.inl x0)] σ Q = WP m39 49 [.inr (.inl l0), .inr (.inl l1), .inl l2, .inl l3, .inl l4, .inl l5] [.inr (.inl l0), .inr (.inl x2), .inl x1, .inr (.inl x0)] σ Q := w_ld d39_48 rfl
theorem d39_49 : adec m39 49 = some (.getfield 19, 3) := by decide +kernel
theorem s39_49 {l0 : Nat} {l1 : Nat} {l2 : Int} {l3 : Int} {l4 : Int} {l5 : Int} {x0 : Nat} {x1 : Int} {x2 : Nat} {x3 : Nat} : WP m39 49 [.inr (.inl l0), .inr (.inl l1), .inl l2, .inl l3, .inl l4, .inl l5] [.inr (.inl x3), .inr (.inl x2), .inl x1, .inr (.inl x0)] σ Q = (isO x3 3 ∧ WP m39 52 [.inr (.inl l0), .inr (.inl l1), .inl l2, .inl l3, .inl l4, .inl l5] [.inl (σ x3 1), .inr (.inl x2), .inl x1, .inr (.inl x0)] σ Q) := w_getI (c := 3) (n := 1) d39_49 (by decide +kernel) (by decide +kernel)
theorem d39_52 : adec m39 52 = some (.iload 5, 2) := by decide +kernel
theorem s39_52 {l0 : Nat} {l1 : Nat} {l2 : Int} {l3 : Int} {l4 : Int} {l5 : Int} {x0 : Nat} {x1 : Int} {x2 : Nat} {x3 : Int} : WP m39 52 [.inr (.inl l0), .inr (.inl l1), .inl l2, .inl l3, .inl l4, .inl l5] [.inl x3, .inr (.inl x2), .inl x1, .inr (.inl x0)] σ Q = WP m39 54 [.inr (.inl l0), .inr (.inl l1), .inl l2, .inl l3, .inl l4, .inl l5] [.inl l5, .inl x3, .inr (.inl x2), .inl x1, .inr (.inl x0)] σ Q := w_ld d39_52 rfl
theorem d39_54 : adec m39 54 = some (.invokestatic 41, 3) := by decide +kernel
theorem s39_54 {l0 : Nat} {l1 : Nat} {l2 : Int} {l3 : Int} {l4 : Int} {l5 : Int} {x0 : Nat} {x1 : Int} {x2 : Nat} {x3 : Int} {x4 : Int} (hc : kdS x0 = 20 ∧ kdS x2 = 20 ∧ 0 ≤ x1 ∧ 0 ≤ x3 ∧ 0 ≤ x4 ∧ x1 + x4 ≤ ln x0 ∧ x3 + x4 ≤ ln x2) : WP m39 54 [.inr (.inl l0), .inr (.inl l1), .inl l2, .inl l3, .inl l4, .inl l5] [.inl x4, .inl x3, .inr (.inl x2), .inl x1, .inr (.inl x0)] σ Q = WP m39 57 [.inr (.inl l0), .inr (.inl l1), .inl l2, .inl l3, .inl l4, .inl l5] [] (aupA σ x2 (va_cpy (σ x0) (σ x2) x1.toNat x3.toNat x4.toNat)) Q := w_cpy d39_54 (by decide +kernel) ⟨Nat.le_of_ble_eq_true rfl, Nat.le_of_ble_eq_true rfl⟩ hc
theorem d39_57 : adec m39 57 = some (.aload_n 0, 1) := by decide +kernel
theorem s39_57 {l0 : Nat} {l1 : Nat} {l2 : Int} {l3 : Int} {l4 : Int} {l5 : Int} : WP m39 57 [.inr (.inl l0), .inr (.inl l1), .inl l2, .inl l3, .inl l4, .inl l5] [] σ Q = WP m39 58 [.inr (.inl l0), .inr (.inl l1), .inl l2, .inl l3, .inl l4, .inl l5] [.inr (.inl l0)] σ Q := w_ld d39_57 rfl
theorem d39_58 : adec m39 58 = some (.dup, 1) := by decide +kernel
theorem s39_58 {l0 : Nat} {l1 : Nat} {l2 : Int} {l3 : Int} {l4 : Int} {l5 : Int} {x0 : Nat} : WP m39 58 [.inr (.inl l0), .inr (.inl l1), .inl l2, .inl l3, .inl l4, .inl l5] [.inr (.inl x0)] σ Q = WP m39 59 [.inr (.inl l0), .inr (.inl l1), .inl l2, .inl l3, .inl l4, .inl l5] [.inr (.inl x0), .inr (.inl x0)] σ Q := w_ld d39_58 rfl
theorem d39_59 : adec m39 59 = some (.getfield 19, 3) := by decide +kernel
theorem s39_59 {l0 : Nat} {l1 : Nat} {l2 : Int} {l3 : Int} {l4 : Int} {l5 : Int} {x0 : Nat} {x1 : Nat} : WP m39 59 [.inr (.inl l0), .inr (.inl l1), .inl l2, .inl l3, .inl l4, .inl l5] [.inr (.inl x1), .inr (.inl x0)] σ Q = (isO x1 3 ∧ WP m39 62 [.inr (.inl l0), .inr (.inl l1), .inl l2, .inl l3, .inl l4, .inl l5] [.inl (σ x1 1), .inr (.inl x0)] σ Q) := w_getI (c := 3) (n := 1) d39_59 (by decide +kernel) (by decide +kernel)
theorem d39_62 : adec m39 62 = some (.iload 5, 2) := by decide +kernel
theorem s39_62 {l0 : Nat} {l1 : Nat} {l2 : Int} {l3 : Int} {l4 : Int} {l5 : Int} {x0 : Nat} {x1 : Int} : WP m39 62 [.inr (.inl l0), .inr (.inl l1), .inl l2, .inl l3, .inl l4, .inl l5] [.inl x1, .inr (.inl x0)] σ Q = WP m39 64 [.inr (.inl l0), .inr (.inl l1), .inl l2, .inl l3, .inl l4, .inl l5] [.inl l5, .inl x1, .inr (.inl x0)] σ Q := w_ld d39_62 rfl
theorem d39_64 : adec m39 64 = some (.iadd, 1) := by decide +kernel
theorem s39_64 {l0 : Nat} {l1 : Nat} {l2 : Int} {l3 : Int} {l4 : Int} {l5 : Int} {x0 : Nat} {x1 : Int} {x2 : Int} : WP m39 64 [.inr (.inl l0), .inr (.inl l1), .inl l2, .inl l3, .inl l4, .inl l5] [.inl x2, .inl x1, .inr (.inl x0)] σ Q = (inI (x1 + x2) ∧ WP m39 65 [.inr (.inl l0), .inr (.inl l1), .inl l2, .inl l3, .inl l4, .inl l5] [.inl (x1 + x2), .inr (.inl x0)] σ Q) := w_iadd d39_64
theorem d39_65 : adec m39 65 = some (.putfield 19, 3) := by decide +kernel
theorem s39_65 {l0 : Nat} {l1 : Nat} {l2 : Int} {l3 : Int} {l4 : Int} {l5 : Int} {x0 : Nat} {x1 : Int} : WP m39 65 [.inr (.inl l0), .inr (.inl l1), .inl l2, .inl l3, .inl l4, .inl l5] [.inl x1, .inr (.inl x0)] σ Q = (isO x0 3 ∧ WP m39 68 [.inr (.inl l0), .inr (.inl l1), .inl l2, .inl l3, .inl l4, .inl l5] [] (aup σ x0 1 x1) Q) := w_putI (c := 3) (n := 1) d39_65 (by decide +kernel) (by decide +kernel) (by decide +kernel)
theorem d39_68 : adec m39 68 = some (.return_, 1) := by decide +kernel
theorem s39_68 {l0 : Nat} {l1 : Nat} {l2 : Int} {l3 : Int} {l4 : Int} {l5 : Int} : WP m39 68 [.inr (.inl l0), .inr (.inl l1), .inl l2, .inl l3, .inl l4, .inl l5] [] σ Q = Q [] σ := w_rv d39_68 rfl
theorem e39 {p0 : Nat} {p1 : Nat} {p2 : Int} {p3 : Int} : CA m39 [.inr (.inl p0), .inr (.inl p1), .inl p2, .inl p3] σ Q = WP m39 0 [.inr (.inl p0), .inr (.inl p1), .inl p2, .inl p3, vU, vU] [] σ Q := rfl
-- BinderPress$Row.become(LBinderPress$Row;)V
theorem d40_0 : adec m40 0 = some (.aload_n 0, 1) := by decide +kernel
theorem s40_0 {l0 : Nat} {l1 : Nat} : WP m40 0 [.inr (.inl l0), .inr (.inl l1)] [] σ Q = WP m40 1 [.inr (.inl l0), .inr (.inl l1)] [.inr (.inl l0)] σ Q := w_ld d40_0 rfl
theorem d40_1 : adec m40 1 = some (.invokevirtual 27, 3) := by decide +kernel
theorem s40_1 {l0 : Nat} {l1 : Nat} {x0 : Nat} : WP m40 1 [.inr (.inl l0), .inr (.inl l1)] [.inr (.inl x0)] σ Q = (isO x0 3 ∧ CA m29 [.inr (.inl x0)] σ (fun v σ2 => WP m40 4 [.inr (.inl l0), .inr (.inl l1)] (v ++ []) σ2 Q)) := w_cV (k := 29) d40_1 (by decide +kernel) m29_at rfl rfl ⟨Nat.le_of_ble_eq_true rfl, Nat.le_of_ble_eq_true rfl, Nat.le_of_ble_eq_true rfl⟩ (by decide)
theorem d40_4 : adec m40 4 = some (.aload_n 0, 1) := by decide +kernel
theorem s40_4 {l0 : Nat} {l1 : Nat} : WP m40 4 [.inr (.inl l0), .inr (.inl l1)] [] σ Q = WP m40 5 [.inr (.inl l0), .inr (.inl l1)] [.inr (.inl l0)] σ Q := w_ld d40_4 rfl
theorem d40_5 : adec m40 5 = some (.aload_n 1, 1) := by decide +kernel
theorem s40_5 {l0 : Nat} {l1 : Nat} {x0 : Nat} : WP m40 5 [.inr (.inl l0), .inr (.inl l1)] [.inr (.inl x0)] σ Q = WP m40 6 [.inr (.inl l0), .inr (.inl l1)] [.inr (.inl l1), .inr (.inl x0)] σ Q := w_ld d40_5 rfl
theorem d40_6 : adec m40 6 = some (.invokevirtual 47, 3) := by decide +kernel
theorem s40_6 {l0 : Nat} {l1 : Nat} {x0 : Nat} {x1 : Nat} : WP m40 6 [.inr (.inl l0), .inr (.inl l1)] [.inr (.inl x1), .inr (.inl x0)] σ Q = (isO x0 3 ∧ CA m38 [.inr (.inl x0), .inr (.inl x1)] σ (fun v σ2 => WP m40 9 [.inr (.inl l0), .inr (.inl l1)] (v ++ []) σ2 Q)) := w_cV (k := 38) d40_6 (by decide +kernel) m38_at rfl rfl ⟨Nat.le_of_ble_eq_true rfl, Nat.le_of_ble_eq_true rfl, Nat.le_of_ble_eq_true rfl⟩ (by decide)
theorem d40_9 : adec m40 9 = some (.return_, 1) := by decide +kernel
theorem s40_9 {l0 : Nat} {l1 : Nat} : WP m40 9 [.inr (.inl l0), .inr (.inl l1)] [] σ Q = Q [] σ := w_rv d40_9 rfl
theorem e40 {p0 : Nat} {p1 : Nat} : CA m40 [.inr (.inl p0), .inr (.inl p1)] σ Q = WP m40 0 [.inr (.inl p0), .inr (.inl p1)] [] σ Q := rfl
-- BinderPress$Row.isLike(LBinderPress$Row;)Z
theorem d41_0 : adec m41 0 = some (.aload_n 0, 1) := by decide +kernel
theorem s41_0 {l0 : Nat} {l1 : Nat} {l2 : AV} : WP m41 0 [.inr (.inl l0), .inr (.inl l1), l2] [] σ Q = WP m41 1 [.inr (.inl l0), .inr (.inl l1), l2] [.inr (.inl l0)] σ Q := w_ld d41_0 rfl
theorem d41_1 : adec m41 1 = some (.getfield 19, 3) := by decide +kernel
theorem s41_1 {l0 : Nat} {l1 : Nat} {l2 : AV} {x0 : Nat} : WP m41 1 [.inr (.inl l0), .inr (.inl l1), l2] [.inr (.inl x0)] σ Q = (isO x0 3 ∧ WP m41 4 [.inr (.inl l0), .inr (.inl l1), l2] [.inl (σ x0 1)] σ Q) := w_getI (c := 3) (n := 1) d41_1 (by decide +kernel) (by decide +kernel)
theorem d41_4 : adec m41 4 = some (.aload_n 1, 1) := by decide +kernel
theorem s41_4 {l0 : Nat} {l1 : Nat} {l2 : AV} {x0 : Int} : WP m41 4 [.inr (.inl l0), .inr (.inl l1), l2] [.inl x0] σ Q = WP m41 5 [.inr (.inl l0), .inr (.inl l1), l2] [.inr (.inl l1), .inl x0] σ Q := w_ld d41_4 rfl
theorem d41_5 : adec m41 5 = some (.getfield 19, 3) := by decide +kernel
theorem s41_5 {l0 : Nat} {l1 : Nat} {l2 : AV} {x0 : Int} {x1 : Nat} : WP m41 5 [.inr (.inl l0), .inr (.inl l1), l2] [.inr (.inl x1), .inl x0] σ Q = (isO x1 3 ∧ WP m41 8 [.inr (.inl l0), .inr (.inl l1), l2] [.inl (σ x1 1), .inl x0] σ Q) := w_getI (c := 3) (n := 1) d41_5 (by decide +kernel) (by decide +kernel)
theorem d41_8 : adec m41 8 = some (.if_icmp .eq (5), 3) := by decide +kernel
theorem s41_8 {l0 : Nat} {l1 : Nat} {l2 : AV} {x0 : Int} {x1 : Int} : WP m41 8 [.inr (.inl l0), .inr (.inl l1), l2] [.inl x1, .inl x0] σ Q = (if x0 = x1 then WP m41 13 [.inr (.inl l0), .inr (.inl l1), l2] [] σ Q else WP m41 11 [.inr (.inl l0), .inr (.inl l1), l2] [] σ Q) := w_iceq d41_8 (by decide)
theorem d41_11 : adec m41 11 = some (.iconst (0), 1) := by decide +kernel
theorem s41_11 {l0 : Nat} {l1 : Nat} {l2 : AV} : WP m41 11 [.inr (.inl l0), .inr (.inl l1), l2] [] σ Q = WP m41 12 [.inr (.inl l0), .inr (.inl l1), l2] [.inl (0)] σ Q := w_iconst d41_11 (by decide)
theorem d41_12 : adec m41 12 = some (.ireturn, 1) := by decide +kernel
theorem s41_12 {l0 : Nat} {l1 : Nat} {l2 : AV} {x0 : Int} : WP m41 12 [.inr (.inl l0), .inr (.inl l1), l2] [.inl x0] σ Q = ((x0 = 0 ∨ x0 = 1) ∧ Q [.inl x0] σ) := w_rz d41_12 rfl
theorem d41_13 : adec m41 13 = some (.iconst (0), 1) := by decide +kernel
theorem s41_13 {l0 : Nat} {l1 : Nat} {l2 : AV} : WP m41 13 [.inr (.inl l0), .inr (.inl l1), l2] [] σ Q = WP m41 14 [.inr (.inl l0), .inr (.inl l1), l2] [.inl (0)] σ Q := w_iconst d41_13 (by decide)
theorem d41_14 : adec m41 14 = some (.istore_n 2, 1) := by decide +kernel
theorem s41_14 {l0 : Nat} {l1 : Nat} {l2 : AV} {x0 : Int} : WP m41 14 [.inr (.inl l0), .inr (.inl l1), l2] [.inl x0] σ Q = WP m41 15 [.inr (.inl l0), .inr (.inl l1), .inl x0] [] σ Q := w_st1 (j := 2) d41_14 rfl (Nat.le_of_ble_eq_true rfl) rfl
theorem d41_15 : adec m41 15 = some (.iload_n 2, 1) := by decide +kernel
theorem s41_15 {l0 : Nat} {l1 : Nat} {l2 : Int} : WP m41 15 [.inr (.inl l0), .inr (.inl l1), .inl l2] [] σ Q = WP m41 16 [.inr (.inl l0), .inr (.inl l1), .inl l2] [.inl l2] σ Q := w_ld d41_15 rfl
theorem d41_16 : adec m41 16 = some (.aload_n 0, 1) := by decide +kernel
theorem s41_16 {l0 : Nat} {l1 : Nat} {l2 : Int} {x0 : Int} : WP m41 16 [.inr (.inl l0), .inr (.inl l1), .inl l2] [.inl x0] σ Q = WP m41 17 [.inr (.inl l0), .inr (.inl l1), .inl l2] [.inr (.inl l0), .inl x0] σ Q := w_ld d41_16 rfl
theorem d41_17 : adec m41 17 = some (.getfield 19, 3) := by decide +kernel
theorem s41_17 {l0 : Nat} {l1 : Nat} {l2 : Int} {x0 : Int} {x1 : Nat} : WP m41 17 [.inr (.inl l0), .inr (.inl l1), .inl l2] [.inr (.inl x1), .inl x0] σ Q = (isO x1 3 ∧ WP m41 20 [.inr (.inl l0), .inr (.inl l1), .inl l2] [.inl (σ x1 1), .inl x0] σ Q) := w_getI (c := 3) (n := 1) d41_17 (by decide +kernel) (by decide +kernel)
theorem d41_20 : adec m41 20 = some (.if_icmp .ge (24), 3) := by decide +kernel
theorem s41_20 {l0 : Nat} {l1 : Nat} {l2 : Int} {x0 : Int} {x1 : Int} : WP m41 20 [.inr (.inl l0), .inr (.inl l1), .inl l2] [.inl x1, .inl x0] σ Q = (if x1 ≤ x0 then WP m41 44 [.inr (.inl l0), .inr (.inl l1), .inl l2] [] σ Q else WP m41 23 [.inr (.inl l0), .inr (.inl l1), .inl l2] [] σ Q) := w_icge d41_20 (by decide)
theorem d41_23 : adec m41 23 = some (.aload_n 0, 1) := by decide +kernel
theorem s41_23 {l0 : Nat} {l1 : Nat} {l2 : Int} : WP m41 23 [.inr (.inl l0), .inr (.inl l1), .inl l2] [] σ Q = WP m41 24 [.inr (.inl l0), .inr (.inl l1), .inl l2] [.inr (.inl l0)] σ Q := w_ld d41_23 rfl
theorem d41_24 : adec m41 24 = some (.iload_n 2, 1) := by decide +kernel
theorem s41_24 {l0 : Nat} {l1 : Nat} {l2 : Int} {x0 : Nat} : WP m41 24 [.inr (.inl l0), .inr (.inl l1), .inl l2] [.inr (.inl x0)] σ Q = WP m41 25 [.inr (.inl l0), .inr (.inl l1), .inl l2] [.inl l2, .inr (.inl x0)] σ Q := w_ld d41_24 rfl
theorem d41_25 : adec m41 25 = some (.invokevirtual 51, 3) := by decide +kernel
theorem s41_25 {l0 : Nat} {l1 : Nat} {l2 : Int} {x0 : Nat} {x1 : Int} : WP m41 25 [.inr (.inl l0), .inr (.inl l1), .inl l2] [.inl x1, .inr (.inl x0)] σ Q = (isO x0 3 ∧ CA m30 [.inr (.inl x0), .inl x1] σ (fun v σ2 => WP m41 28 [.inr (.inl l0), .inr (.inl l1), .inl l2] (v ++ []) σ2 Q)) := w_cV (k := 30) d41_25 (by decide +kernel) m30_at rfl rfl ⟨Nat.le_of_ble_eq_true rfl, Nat.le_of_ble_eq_true rfl, Nat.le_of_ble_eq_true rfl⟩ (by decide)
theorem d41_28 : adec m41 28 = some (.aload_n 1, 1) := by decide +kernel
theorem s41_28 {l0 : Nat} {l1 : Nat} {l2 : Int} {x0 : Int} : WP m41 28 [.inr (.inl l0), .inr (.inl l1), .inl l2] [.inl x0] σ Q = WP m41 29 [.inr (.inl l0), .inr (.inl l1), .inl l2] [.inr (.inl l1), .inl x0] σ Q := w_ld d41_28 rfl
theorem d41_29 : adec m41 29 = some (.iload_n 2, 1) := by decide +kernel
theorem s41_29 {l0 : Nat} {l1 : Nat} {l2 : Int} {x0 : Int} {x1 : Nat} : WP m41 29 [.inr (.inl l0), .inr (.inl l1), .inl l2] [.inr (.inl x1), .inl x0] σ Q = WP m41 30 [.inr (.inl l0), .inr (.inl l1), .inl l2] [.inl l2, .inr (.inl x1), .inl x0] σ Q := w_ld d41_29 rfl
theorem d41_30 : adec m41 30 = some (.invokevirtual 51, 3) := by decide +kernel
theorem s41_30 {l0 : Nat} {l1 : Nat} {l2 : Int} {x0 : Int} {x1 : Nat} {x2 : Int} : WP m41 30 [.inr (.inl l0), .inr (.inl l1), .inl l2] [.inl x2, .inr (.inl x1), .inl x0] σ Q = (isO x1 3 ∧ CA m30 [.inr (.inl x1), .inl x2] σ (fun v σ2 => WP m41 33 [.inr (.inl l0), .inr (.inl l1), .inl l2] (v ++ [.inl x0]) σ2 Q)) := w_cV (k := 30) d41_30 (by decide +kernel) m30_at rfl rfl ⟨Nat.le_of_ble_eq_true rfl, Nat.le_of_ble_eq_true rfl, Nat.le_of_ble_eq_true rfl⟩ (by decide)
theorem d41_33 : adec m41 33 = some (.if_icmp .eq (5), 3) := by decide +kernel
theorem s41_33 {l0 : Nat} {l1 : Nat} {l2 : Int} {x0 : Int} {x1 : Int} : WP m41 33 [.inr (.inl l0), .inr (.inl l1), .inl l2] [.inl x1, .inl x0] σ Q = (if x0 = x1 then WP m41 38 [.inr (.inl l0), .inr (.inl l1), .inl l2] [] σ Q else WP m41 36 [.inr (.inl l0), .inr (.inl l1), .inl l2] [] σ Q) := w_iceq d41_33 (by decide)
theorem d41_36 : adec m41 36 = some (.iconst (0), 1) := by decide +kernel
theorem s41_36 {l0 : Nat} {l1 : Nat} {l2 : Int} : WP m41 36 [.inr (.inl l0), .inr (.inl l1), .inl l2] [] σ Q = WP m41 37 [.inr (.inl l0), .inr (.inl l1), .inl l2] [.inl (0)] σ Q := w_iconst d41_36 (by decide)
theorem d41_37 : adec m41 37 = some (.ireturn, 1) := by decide +kernel
theorem s41_37 {l0 : Nat} {l1 : Nat} {l2 : Int} {x0 : Int} : WP m41 37 [.inr (.inl l0), .inr (.inl l1), .inl l2] [.inl x0] σ Q = ((x0 = 0 ∨ x0 = 1) ∧ Q [.inl x0] σ) := w_rz d41_37 rfl
theorem d41_38 : adec m41 38 = some (.iinc 2 (1), 3) := by decide +kernel
theorem s41_38 {l0 : Nat} {l1 : Nat} {l2 : Int} : WP m41 38 [.inr (.inl l0), .inr (.inl l1), .inl l2] [] σ Q = (inI (l2 + (1)) ∧ WP m41 41 [.inr (.inl l0), .inr (.inl l1), .inl (l2 + (1))] [] σ Q) := w_iinc d41_38 rfl rfl
theorem d41_41 : adec m41 41 = some (.goto (-26), 3) := by decide +kernel
theorem s41_41 {l0 : Nat} {l1 : Nat} {l2 : Int} : WP m41 41 [.inr (.inl l0), .inr (.inl l1), .inl l2] [] σ Q = WP m41 15 [.inr (.inl l0), .inr (.inl l1), .inl l2] [] σ Q := w_goto d41_41 (by decide)
theorem d41_44 : adec m41 44 = some (.iconst (1), 1) := by decide +kernel
theorem s41_44 {l0 : Nat} {l1 : Nat} {l2 : Int} : WP m41 44 [.inr (.inl l0), .inr (.inl l1), .inl l2] [] σ Q = WP m41 45 [.inr (.inl l0), .inr (.inl l1), .inl l2] [.inl (1)] σ Q := w_iconst d41_44 (by decide)
theorem d41_45 : adec m41 45 = some (.ireturn, 1) := by decide +kernel
theorem s41_45 {l0 : Nat} {l1 : Nat} {l2 : Int} {x0 : Int} : WP m41 45 [.inr (.inl l0), .inr (.inl l1), .inl l2] [.inl x0] σ Q = ((x0 = 0 ∨ x0 = 1) ∧ Q [.inl x0] σ) := w_rz d41_45 rfl
theorem e41 {p0 : Nat} {p1 : Nat} : CA m41 [.inr (.inl p0), .inr (.inl p1)] σ Q = WP m41 0 [.inr (.inl p0), .inr (.inl p1), vU] [] σ Q := rfl
-- BinderPress$Row.howOften(I)I
theorem d42_0 : adec m42 0 = some (.iconst (0), 1) := by decide +kernel
theorem s42_0 {l0 : Nat} {l1 : Int} {l2 : AV} {l3 : AV} : WP m42 0 [.inr (.inl l0), .inl l1, l2, l3] [] σ Q = WP m42 1 [.inr (.inl l0), .inl l1, l2, l3] [.inl (0)] σ Q := w_iconst d42_0 (by decide)
theorem d42_1 : adec m42 1 = some (.istore_n 2, 1) := by decide +kernel
theorem s42_1 {l0 : Nat} {l1 : Int} {l2 : AV} {l3 : AV} {x0 : Int} : WP m42 1 [.inr (.inl l0), .inl l1, l2, l3] [.inl x0] σ Q = WP m42 2 [.inr (.inl l0), .inl l1, .inl x0, l3] [] σ Q := w_st1 (j := 2) d42_1 rfl (Nat.le_of_ble_eq_true rfl) rfl
theorem d42_2 : adec m42 2 = some (.iconst (0), 1) := by decide +kernel
theorem s42_2 {l0 : Nat} {l1 : Int} {l2 : Int} {l3 : AV} : WP m42 2 [.inr (.inl l0), .inl l1, .inl l2, l3] [] σ Q = WP m42 3 [.inr (.inl l0), .inl l1, .inl l2, l3] [.inl (0)] σ Q := w_iconst d42_2 (by decide)
theorem d42_3 : adec m42 3 = some (.istore_n 3, 1) := by decide +kernel
theorem s42_3 {l0 : Nat} {l1 : Int} {l2 : Int} {l3 : AV} {x0 : Int} : WP m42 3 [.inr (.inl l0), .inl l1, .inl l2, l3] [.inl x0] σ Q = WP m42 4 [.inr (.inl l0), .inl l1, .inl l2, .inl x0] [] σ Q := w_st1 (j := 3) d42_3 rfl (Nat.le_of_ble_eq_true rfl) rfl
theorem d42_4 : adec m42 4 = some (.iload_n 3, 1) := by decide +kernel
theorem s42_4 {l0 : Nat} {l1 : Int} {l2 : Int} {l3 : Int} : WP m42 4 [.inr (.inl l0), .inl l1, .inl l2, .inl l3] [] σ Q = WP m42 5 [.inr (.inl l0), .inl l1, .inl l2, .inl l3] [.inl l3] σ Q := w_ld d42_4 rfl
theorem d42_5 : adec m42 5 = some (.aload_n 0, 1) := by decide +kernel
theorem s42_5 {l0 : Nat} {l1 : Int} {l2 : Int} {l3 : Int} {x0 : Int} : WP m42 5 [.inr (.inl l0), .inl l1, .inl l2, .inl l3] [.inl x0] σ Q = WP m42 6 [.inr (.inl l0), .inl l1, .inl l2, .inl l3] [.inr (.inl l0), .inl x0] σ Q := w_ld d42_5 rfl
theorem d42_6 : adec m42 6 = some (.getfield 19, 3) := by decide +kernel
theorem s42_6 {l0 : Nat} {l1 : Int} {l2 : Int} {l3 : Int} {x0 : Int} {x1 : Nat} : WP m42 6 [.inr (.inl l0), .inl l1, .inl l2, .inl l3] [.inr (.inl x1), .inl x0] σ Q = (isO x1 3 ∧ WP m42 9 [.inr (.inl l0), .inl l1, .inl l2, .inl l3] [.inl (σ x1 1), .inl x0] σ Q) := w_getI (c := 3) (n := 1) d42_6 (by decide +kernel) (by decide +kernel)
theorem d42_9 : adec m42 9 = some (.if_icmp .ge (22), 3) := by decide +kernel
theorem s42_9 {l0 : Nat} {l1 : Int} {l2 : Int} {l3 : Int} {x0 : Int} {x1 : Int} : WP m42 9 [.inr (.inl l0), .inl l1, .inl l2, .inl l3] [.inl x1, .inl x0] σ Q = (if x1 ≤ x0 then WP m42 31 [.inr (.inl l0), .inl l1, .inl l2, .inl l3] [] σ Q else WP m42 12 [.inr (.inl l0), .inl l1, .inl l2, .inl l3] [] σ Q) := w_icge d42_9 (by decide)
theorem d42_12 : adec m42 12 = some (.aload_n 0, 1) := by decide +kernel
theorem s42_12 {l0 : Nat} {l1 : Int} {l2 : Int} {l3 : Int} : WP m42 12 [.inr (.inl l0), .inl l1, .inl l2, .inl l3] [] σ Q = WP m42 13 [.inr (.inl l0), .inl l1, .inl l2, .inl l3] [.inr (.inl l0)] σ Q := w_ld d42_12 rfl
theorem d42_13 : adec m42 13 = some (.getfield 13, 3) := by decide +kernel
theorem s42_13 {l0 : Nat} {l1 : Int} {l2 : Int} {l3 : Int} {x0 : Nat} : WP m42 13 [.inr (.inl l0), .inl l1, .inl l2, .inl l3] [.inr (.inl x0)] σ Q = ((isO x0 3 ∧ 0 ≤ PT x0 0) ∧ WP m42 16 [.inr (.inl l0), .inl l1, .inl l2, .inl l3] [.inr (.inl (pt x0 0))] σ Q) := w_getR (c := 3) (n := 0) d42_13 (by decide +kernel) (by decide +kernel)
theorem d42_16 : adec m42 16 = some (.iload_n 3, 1) := by decide +kernel
theorem s42_16 {l0 : Nat} {l1 : Int} {l2 : Int} {l3 : Int} {x0 : Nat} : WP m42 16 [.inr (.inl l0), .inl l1, .inl l2, .inl l3] [.inr (.inl x0)] σ Q = WP m42 17 [.inr (.inl l0), .inl l1, .inl l2, .inl l3] [.inl l3, .inr (.inl x0)] σ Q := w_ld d42_16 rfl
theorem d42_17 : adec m42 17 = some (.iaload, 1) := by decide +kernel
theorem s42_17 {l0 : Nat} {l1 : Int} {l2 : Int} {l3 : Int} {x0 : Nat} {x1 : Int} : WP m42 17 [.inr (.inl l0), .inl l1, .inl l2, .inl l3] [.inl x1, .inr (.inl x0)] σ Q = ((kdS x0 = 20 ∧ 0 ≤ x1 ∧ x1 < ln x0) ∧ WP m42 18 [.inr (.inl l0), .inl l1, .inl l2, .inl l3] [.inl (σ x0 x1.toNat)] σ Q) := w_iald d42_17
theorem d42_18 : adec m42 18 = some (.iload_n 1, 1) := by decide +kernel
theorem s42_18 {l0 : Nat} {l1 : Int} {l2 : Int} {l3 : Int} {x0 : Int} : WP m42 18 [.inr (.inl l0), .inl l1, .inl l2, .inl l3] [.inl x0] σ Q = WP m42 19 [.inr (.inl l0), .inl l1, .inl l2, .inl l3] [.inl l1, .inl x0] σ Q := w_ld d42_18 rfl
theorem d42_19 : adec m42 19 = some (.if_icmp .ne (6), 3) := by decide +kernel
theorem s42_19 {l0 : Nat} {l1 : Int} {l2 : Int} {l3 : Int} {x0 : Int} {x1 : Int} : WP m42 19 [.inr (.inl l0), .inl l1, .inl l2, .inl l3] [.inl x1, .inl x0] σ Q = (if x0 = x1 then WP m42 22 [.inr (.inl l0), .inl l1, .inl l2, .inl l3] [] σ Q else WP m42 25 [.inr (.inl l0), .inl l1, .inl l2, .inl l3] [] σ Q) := w_icne d42_19 (by decide)
theorem d42_22 : adec m42 22 = some (.iinc 2 (1), 3) := by decide +kernel
theorem s42_22 {l0 : Nat} {l1 : Int} {l2 : Int} {l3 : Int} : WP m42 22 [.inr (.inl l0), .inl l1, .inl l2, .inl l3] [] σ Q = (inI (l2 + (1)) ∧ WP m42 25 [.inr (.inl l0), .inl l1, .inl (l2 + (1)), .inl l3] [] σ Q) := w_iinc d42_22 rfl rfl
theorem d42_25 : adec m42 25 = some (.iinc 3 (1), 3) := by decide +kernel
theorem s42_25 {l0 : Nat} {l1 : Int} {l2 : Int} {l3 : Int} : WP m42 25 [.inr (.inl l0), .inl l1, .inl l2, .inl l3] [] σ Q = (inI (l3 + (1)) ∧ WP m42 28 [.inr (.inl l0), .inl l1, .inl l2, .inl (l3 + (1))] [] σ Q) := w_iinc d42_25 rfl rfl
theorem d42_28 : adec m42 28 = some (.goto (-24), 3) := by decide +kernel
theorem s42_28 {l0 : Nat} {l1 : Int} {l2 : Int} {l3 : Int} : WP m42 28 [.inr (.inl l0), .inl l1, .inl l2, .inl l3] [] σ Q = WP m42 4 [.inr (.inl l0), .inl l1, .inl l2, .inl l3] [] σ Q := w_goto d42_28 (by decide)
theorem d42_31 : adec m42 31 = some (.iload_n 2, 1) := by decide +kernel
theorem s42_31 {l0 : Nat} {l1 : Int} {l2 : Int} {l3 : Int} : WP m42 31 [.inr (.inl l0), .inl l1, .inl l2, .inl l3] [] σ Q = WP m42 32 [.inr (.inl l0), .inl l1, .inl l2, .inl l3] [.inl l2] σ Q := w_ld d42_31 rfl
theorem d42_32 : adec m42 32 = some (.ireturn, 1) := by decide +kernel
theorem s42_32 {l0 : Nat} {l1 : Int} {l2 : Int} {l3 : Int} {x0 : Int} : WP m42 32 [.inr (.inl l0), .inl l1, .inl l2, .inl l3] [.inl x0] σ Q = Q [.inl x0] σ := w_ri d42_32 rfl
theorem e42 {p0 : Nat} {p1 : Int} : CA m42 [.inr (.inl p0), .inl p1] σ Q = WP m42 0 [.inr (.inl p0), .inl p1, vU, vU] [] σ Q := rfl
-- BinderPress$Spans.measure(LBinderPress$Row;)V
theorem d67_0 : adec m67 0 = some (.aload_n 0, 1) := by decide +kernel
theorem s67_0 {l0 : Nat} {l1 : Nat} {l2 : AV} {l3 : AV} : WP m67 0 [.inr (.inl l0), .inr (.inl l1), l2, l3] [] σ Q = WP m67 1 [.inr (.inl l0), .inr (.inl l1), l2, l3] [.inr (.inl l0)] σ Q := w_ld d67_0 rfl
theorem d67_1 : adec m67 1 = some (.getfield 14, 3) := by decide +kernel
theorem s67_1 {l0 : Nat} {l1 : Nat} {l2 : AV} {l3 : AV} {x0 : Nat} : WP m67 1 [.inr (.inl l0), .inr (.inl l1), l2, l3] [.inr (.inl x0)] σ Q = ((isO x0 6 ∧ 0 ≤ PT x0 0) ∧ WP m67 4 [.inr (.inl l0), .inr (.inl l1), l2, l3] [.inr (.inl (pt x0 0))] σ Q) := w_getR (c := 6) (n := 0) d67_1 (by decide +kernel) (by decide +kernel)
theorem d67_4 : adec m67 4 = some (.aload_n 1, 1) := by decide +kernel
theorem s67_4 {l0 : Nat} {l1 : Nat} {l2 : AV} {l3 : AV} {x0 : Nat} : WP m67 4 [.inr (.inl l0), .inr (.inl l1), l2, l3] [.inr (.inl x0)] σ Q = WP m67 5 [.inr (.inl l0), .inr (.inl l1), l2, l3] [.inr (.inl l1), .inr (.inl x0)] σ Q := w_ld d67_4 rfl
theorem d67_5 : adec m67 5 = some (.invokevirtual 23, 3) := by decide +kernel
theorem s67_5 {l0 : Nat} {l1 : Nat} {l2 : AV} {l3 : AV} {x0 : Nat} {x1 : Nat} : WP m67 5 [.inr (.inl l0), .inr (.inl l1), l2, l3] [.inr (.inl x1), .inr (.inl x0)] σ Q = (isO x1 3 ∧ CA m28 [.inr (.inl x1)] σ (fun v σ2 => WP m67 8 [.inr (.inl l0), .inr (.inl l1), l2, l3] (v ++ [.inr (.inl x0)]) σ2 Q)) := w_cV (k := 28) d67_5 (by decide +kernel) m28_at rfl rfl ⟨Nat.le_of_ble_eq_true rfl, Nat.le_of_ble_eq_true rfl, Nat.le_of_ble_eq_true rfl⟩ (by decide)
theorem d67_8 : adec m67 8 = some (.iconst (0), 1) := by decide +kernel
theorem s67_8 {l0 : Nat} {l1 : Nat} {l2 : AV} {l3 : AV} {x0 : Nat} {x1 : Int} : WP m67 8 [.inr (.inl l0), .inr (.inl l1), l2, l3] [.inl x1, .inr (.inl x0)] σ Q = WP m67 9 [.inr (.inl l0), .inr (.inl l1), l2, l3] [.inl (0), .inl x1, .inr (.inl x0)] σ Q := w_iconst d67_8 (by decide)
theorem d67_9 : adec m67 9 = some (.invokevirtual 27, 3) := by decide +kernel
theorem s67_9 {l0 : Nat} {l1 : Nat} {l2 : AV} {l3 : AV} {x0 : Nat} {x1 : Int} {x2 : Int} : WP m67 9 [.inr (.inl l0), .inr (.inl l1), l2, l3] [.inl x2, .inl x1, .inr (.inl x0)] σ Q = (isO x0 3 ∧ CA m37 [.inr (.inl x0), .inl x1, .inl x2] σ (fun v σ2 => WP m67 12 [.inr (.inl l0), .inr (.inl l1), l2, l3] (v ++ []) σ2 Q)) := w_cV (k := 37) d67_9 (by decide +kernel) m37_at rfl rfl ⟨Nat.le_of_ble_eq_true rfl, Nat.le_of_ble_eq_true rfl, Nat.le_of_ble_eq_true rfl⟩ (by decide)
theorem d67_12 : adec m67 12 = some (.aload_n 1, 1) := by decide +kernel
theorem s67_12 {l0 : Nat} {l1 : Nat} {l2 : AV} {l3 : AV} : WP m67 12 [.inr (.inl l0), .inr (.inl l1), l2, l3] [] σ Q = WP m67 13 [.inr (.inl l0), .inr (.inl l1), l2, l3] [.inr (.inl l1)] σ Q := w_ld d67_12 rfl
theorem d67_13 : adec m67 13 = some (.invokevirtual 23, 3) := by decide +kernel
theorem s67_13 {l0 : Nat} {l1 : Nat} {l2 : AV} {l3 : AV} {x0 : Nat} : WP m67 13 [.inr (.inl l0), .inr (.inl l1), l2, l3] [.inr (.inl x0)] σ Q = (isO x0 3 ∧ CA m28 [.inr (.inl x0)] σ (fun v σ2 => WP m67 16 [.inr (.inl l0), .inr (.inl l1), l2, l3] (v ++ []) σ2 Q)) := w_cV (k := 28) d67_13 (by decide +kernel) m28_at rfl rfl ⟨Nat.le_of_ble_eq_true rfl, Nat.le_of_ble_eq_true rfl, Nat.le_of_ble_eq_true rfl⟩ (by decide)
theorem d67_16 : adec m67 16 = some (.iconst (1), 1) := by decide +kernel
theorem s67_16 {l0 : Nat} {l1 : Nat} {l2 : AV} {l3 : AV} {x0 : Int} : WP m67 16 [.inr (.inl l0), .inr (.inl l1), l2, l3] [.inl x0] σ Q = WP m67 17 [.inr (.inl l0), .inr (.inl l1), l2, l3] [.inl (1), .inl x0] σ Q := w_iconst d67_16 (by decide)
theorem d67_17 : adec m67 17 = some (.isub, 1) := by decide +kernel
theorem s67_17 {l0 : Nat} {l1 : Nat} {l2 : AV} {l3 : AV} {x0 : Int} {x1 : Int} : WP m67 17 [.inr (.inl l0), .inr (.inl l1), l2, l3] [.inl x1, .inl x0] σ Q = (inI (x0 - x1) ∧ WP m67 18 [.inr (.inl l0), .inr (.inl l1), l2, l3] [.inl (x0 - x1)] σ Q) := w_isub d67_17
theorem d67_18 : adec m67 18 = some (.istore_n 2, 1) := by decide +kernel
theorem s67_18 {l0 : Nat} {l1 : Nat} {l2 : AV} {l3 : AV} {x0 : Int} : WP m67 18 [.inr (.inl l0), .inr (.inl l1), l2, l3] [.inl x0] σ Q = WP m67 19 [.inr (.inl l0), .inr (.inl l1), .inl x0, l3] [] σ Q := w_st1 (j := 2) d67_18 rfl (Nat.le_of_ble_eq_true rfl) rfl
theorem d67_19 : adec m67 19 = some (.iload_n 2, 1) := by decide +kernel
theorem s67_19 {l0 : Nat} {l1 : Nat} {l2 : Int} {l3 : AV} : WP m67 19 [.inr (.inl l0), .inr (.inl l1), .inl l2, l3] [] σ Q = WP m67 20 [.inr (.inl l0), .inr (.inl l1), .inl l2, l3] [.inl l2] σ Q := w_ld d67_19 rfl
theorem d67_20 : adec m67 20 = some (.ifCond .lt (78), 3) := by decide +kernel
theorem s67_20 {l0 : Nat} {l1 : Nat} {l2 : Int} {l3 : AV} {x0 : Int} : WP m67 20 [.inr (.inl l0), .inr (.inl l1), .inl l2, l3] [.inl x0] σ Q = (if x0 < 0 then WP m67 98 [.inr (.inl l0), .inr (.inl l1), .inl l2, l3] [] σ Q else WP m67 23 [.inr (.inl l0), .inr (.inl l1), .inl l2, l3] [] σ Q) := w_iflt d67_20 (by decide)
theorem d67_23 : adec m67 23 = some (.aload_n 1, 1) := by decide +kernel
theorem s67_23 {l0 : Nat} {l1 : Nat} {l2 : Int} {l3 : AV} : WP m67 23 [.inr (.inl l0), .inr (.inl l1), .inl l2, l3] [] σ Q = WP m67 24 [.inr (.inl l0), .inr (.inl l1), .inl l2, l3] [.inr (.inl l1)] σ Q := w_ld d67_23 rfl
theorem d67_24 : adec m67 24 = some (.iload_n 2, 1) := by decide +kernel
theorem s67_24 {l0 : Nat} {l1 : Nat} {l2 : Int} {l3 : AV} {x0 : Nat} : WP m67 24 [.inr (.inl l0), .inr (.inl l1), .inl l2, l3] [.inr (.inl x0)] σ Q = WP m67 25 [.inr (.inl l0), .inr (.inl l1), .inl l2, l3] [.inl l2, .inr (.inl x0)] σ Q := w_ld d67_24 rfl
theorem d67_25 : adec m67 25 = some (.invokevirtual 31, 3) := by decide +kernel
theorem s67_25 {l0 : Nat} {l1 : Nat} {l2 : Int} {l3 : AV} {x0 : Nat} {x1 : Int} : WP m67 25 [.inr (.inl l0), .inr (.inl l1), .inl l2, l3] [.inl x1, .inr (.inl x0)] σ Q = (isO x0 3 ∧ CA m30 [.inr (.inl x0), .inl x1] σ (fun v σ2 => WP m67 28 [.inr (.inl l0), .inr (.inl l1), .inl l2, l3] (v ++ []) σ2 Q)) := w_cV (k := 30) d67_25 (by decide +kernel) m30_at rfl rfl ⟨Nat.le_of_ble_eq_true rfl, Nat.le_of_ble_eq_true rfl, Nat.le_of_ble_eq_true rfl⟩ (by decide)
theorem d67_28 : adec m67 28 = some (.istore_n 3, 1) := by decide +kernel
theorem s67_28 {l0 : Nat} {l1 : Nat} {l2 : Int} {l3 : AV} {x0 : Int} : WP m67 28 [.inr (.inl l0), .inr (.inl l1), .inl l2, l3] [.inl x0] σ Q = WP m67 29 [.inr (.inl l0), .inr (.inl l1), .inl l2, .inl x0] [] σ Q := w_st1 (j := 3) d67_28 rfl (Nat.le_of_ble_eq_true rfl) rfl
theorem d67_29 : adec m67 29 = some (.iload_n 3, 1) := by decide +kernel
theorem s67_29 {l0 : Nat} {l1 : Nat} {l2 : Int} {l3 : Int} : WP m67 29 [.inr (.inl l0), .inr (.inl l1), .inl l2, .inl l3] [] σ Q = WP m67 30 [.inr (.inl l0), .inr (.inl l1), .inl l2, .inl l3] [.inl l3] σ Q := w_ld d67_29 rfl
theorem d67_30 : adec m67 30 = some (.iconst (1), 1) := by decide +kernel
theorem s67_30 {l0 : Nat} {l1 : Nat} {l2 : Int} {l3 : Int} {x0 : Int} : WP m67 30 [.inr (.inl l0), .inr (.inl l1), .inl l2, .inl l3] [.inl x0] σ Q = WP m67 31 [.inr (.inl l0), .inr (.inl l1), .inl l2, .inl l3] [.inl (1), .inl x0] σ Q := w_iconst d67_30 (by decide)
theorem d67_31 : adec m67 31 = some (.if_icmp .ne (25), 3) := by decide +kernel
theorem s67_31 {l0 : Nat} {l1 : Nat} {l2 : Int} {l3 : Int} {x0 : Int} {x1 : Int} : WP m67 31 [.inr (.inl l0), .inr (.inl l1), .inl l2, .inl l3] [.inl x1, .inl x0] σ Q = (if x0 = x1 then WP m67 34 [.inr (.inl l0), .inr (.inl l1), .inl l2, .inl l3] [] σ Q else WP m67 56 [.inr (.inl l0), .inr (.inl l1), .inl l2, .inl l3] [] σ Q) := w_icne d67_31 (by decide)
theorem d67_34 : adec m67 34 = some (.aload_n 0, 1) := by decide +kernel
theorem s67_34 {l0 : Nat} {l1 : Nat} {l2 : Int} {l3 : Int} : WP m67 34 [.inr (.inl l0), .inr (.inl l1), .inl l2, .inl l3] [] σ Q = WP m67 35 [.inr (.inl l0), .inr (.inl l1), .inl l2, .inl l3] [.inr (.inl l0)] σ Q := w_ld d67_34 rfl
theorem d67_35 : adec m67 35 = some (.getfield 14, 3) := by decide +kernel
theorem s67_35 {l0 : Nat} {l1 : Nat} {l2 : Int} {l3 : Int} {x0 : Nat} : WP m67 35 [.inr (.inl l0), .inr (.inl l1), .inl l2, .inl l3] [.inr (.inl x0)] σ Q = ((isO x0 6 ∧ 0 ≤ PT x0 0) ∧ WP m67 38 [.inr (.inl l0), .inr (.inl l1), .inl l2, .inl l3] [.inr (.inl (pt x0 0))] σ Q) := w_getR (c := 6) (n := 0) d67_35 (by decide +kernel) (by decide +kernel)
theorem d67_38 : adec m67 38 = some (.iload_n 2, 1) := by decide +kernel
theorem s67_38 {l0 : Nat} {l1 : Nat} {l2 : Int} {l3 : Int} {x0 : Nat} : WP m67 38 [.inr (.inl l0), .inr (.inl l1), .inl l2, .inl l3] [.inr (.inl x0)] σ Q = WP m67 39 [.inr (.inl l0), .inr (.inl l1), .inl l2, .inl l3] [.inl l2, .inr (.inl x0)] σ Q := w_ld d67_38 rfl
theorem d67_39 : adec m67 39 = some (.aload_n 0, 1) := by decide +kernel
theorem s67_39 {l0 : Nat} {l1 : Nat} {l2 : Int} {l3 : Int} {x0 : Nat} {x1 : Int} : WP m67 39 [.inr (.inl l0), .inr (.inl l1), .inl l2, .inl l3] [.inl x1, .inr (.inl x0)] σ Q = WP m67 40 [.inr (.inl l0), .inr (.inl l1), .inl l2, .inl l3] [.inr (.inl l0), .inl x1, .inr (.inl x0)] σ Q := w_ld d67_39 rfl
theorem d67_40 : adec m67 40 = some (.aload_n 0, 1) := by decide +kernel
theorem s67_40 {l0 : Nat} {l1 : Nat} {l2 : Int} {l3 : Int} {x0 : Nat} {x1 : Int} {x2 : Nat} : WP m67 40 [.inr (.inl l0), .inr (.inl l1), .inl l2, .inl l3] [.inr (.inl x2), .inl x1, .inr (.inl x0)] σ Q = WP m67 41 [.inr (.inl l0), .inr (.inl l1), .inl l2, .inl l3] [.inr (.inl l0), .inr (.inl x2), .inl x1, .inr (.inl x0)] σ Q := w_ld d67_40 rfl
theorem d67_41 : adec m67 41 = some (.iload_n 2, 1) := by decide +kernel
theorem s67_41 {l0 : Nat} {l1 : Nat} {l2 : Int} {l3 : Int} {x0 : Nat} {x1 : Int} {x2 : Nat} {x3 : Nat} : WP m67 41 [.inr (.inl l0), .inr (.inl l1), .inl l2, .inl l3] [.inr (.inl x3), .inr (.inl x2), .inl x1, .inr (.inl x0)] σ Q = WP m67 42 [.inr (.inl l0), .inr (.inl l1), .inl l2, .inl l3] [.inl l2, .inr (.inl x3), .inr (.inl x2), .inl x1, .inr (.inl x0)] σ Q := w_ld d67_41 rfl
theorem d67_42 : adec m67 42 = some (.iconst (1), 1) := by decide +kernel
theorem s67_42 {l0 : Nat} {l1 : Nat} {l2 : Int} {l3 : Int} {x0 : Nat} {x1 : Int} {x2 : Nat} {x3 : Nat} {x4 : Int} : WP m67 42 [.inr (.inl l0), .inr (.inl l1), .inl l2, .inl l3] [.inl x4, .inr (.inl x3), .inr (.inl x2), .inl x1, .inr (.inl x0)] σ Q = WP m67 43 [.inr (.inl l0), .inr (.inl l1), .inl l2, .inl l3] [.inl (1), .inl x4, .inr (.inl x3), .inr (.inl x2), .inl x1, .inr (.inl x0)] σ Q := w_iconst d67_42 (by decide)
theorem d67_43 : adec m67 43 = some (.iadd, 1) := by decide +kernel
theorem s67_43 {l0 : Nat} {l1 : Nat} {l2 : Int} {l3 : Int} {x0 : Nat} {x1 : Int} {x2 : Nat} {x3 : Nat} {x4 : Int} {x5 : Int} : WP m67 43 [.inr (.inl l0), .inr (.inl l1), .inl l2, .inl l3] [.inl x5, .inl x4, .inr (.inl x3), .inr (.inl x2), .inl x1, .inr (.inl x0)] σ Q = (inI (x4 + x5) ∧ WP m67 44 [.inr (.inl l0), .inr (.inl l1), .inl l2, .inl l3] [.inl (x4 + x5), .inr (.inl x3), .inr (.inl x2), .inl x1, .inr (.inl x0)] σ Q) := w_iadd d67_43
theorem d67_44 : adec m67 44 = some (.invokevirtual 35, 3) := by decide +kernel
theorem s67_44 {l0 : Nat} {l1 : Nat} {l2 : Int} {l3 : Int} {x0 : Nat} {x1 : Int} {x2 : Nat} {x3 : Nat} {x4 : Int} : WP m67 44 [.inr (.inl l0), .inr (.inl l1), .inl l2, .inl l3] [.inl x4, .inr (.inl x3), .inr (.inl x2), .inl x1, .inr (.inl x0)] σ Q = (isO x3 6 ∧ CA m68 [.inr (.inl x3), .inl x4] σ (fun v σ2 => WP m67 47 [.inr (.inl l0), .inr (.inl l1), .inl l2, .inl l3] (v ++ [.inr (.inl x2), .inl x1, .inr (.inl x0)]) σ2 Q)) := w_cV (k := 68) d67_44 (by decide +kernel) m68_at rfl rfl ⟨Nat.le_of_ble_eq_true rfl, Nat.le_of_ble_eq_true rfl, Nat.le_of_ble_eq_true rfl⟩ (by decide)
theorem d67_47 : adec m67 47 = some (.invokevirtual 35, 3) := by decide +kernel
theorem s67_47 {l0 : Nat} {l1 : Nat} {l2 : Int} {l3 : Int} {x0 : Nat} {x1 : Int} {x2 : Nat} {x3 : Int} : WP m67 47 [.inr (.inl l0), .inr (.inl l1), .inl l2, .inl l3] [.inl x3, .inr (.inl x2), .inl x1, .inr (.inl x0)] σ Q = (isO x2 6 ∧ CA m68 [.inr (.inl x2), .inl x3] σ (fun v σ2 => WP m67 50 [.inr (.inl l0), .inr (.inl l1), .inl l2, .inl l3] (v ++ [.inl x1, .inr (.inl x0)]) σ2 Q)) := w_cV (k := 68) d67_47 (by decide +kernel) m68_at rfl rfl ⟨Nat.le_of_ble_eq_true rfl, Nat.le_of_ble_eq_true rfl, Nat.le_of_ble_eq_true rfl⟩ (by decide)
theorem d67_50 : adec m67 50 = some (.invokevirtual 38, 3) := by decide +kernel
theorem s67_50 {l0 : Nat} {l1 : Nat} {l2 : Int} {l3 : Int} {x0 : Nat} {x1 : Int} {x2 : Int} : WP m67 50 [.inr (.inl l0), .inr (.inl l1), .inl l2, .inl l3] [.inl x2, .inl x1, .inr (.inl x0)] σ Q = (isO x0 3 ∧ CA m33 [.inr (.inl x0), .inl x1, .inl x2] σ (fun v σ2 => WP m67 53 [.inr (.inl l0), .inr (.inl l1), .inl l2, .inl l3] (v ++ []) σ2 Q)) := w_cV (k := 33) d67_50 (by decide +kernel) m33_at rfl rfl ⟨Nat.le_of_ble_eq_true rfl, Nat.le_of_ble_eq_true rfl, Nat.le_of_ble_eq_true rfl⟩ (by decide)
theorem d67_53 : adec m67 53 = some (.goto (39), 3) := by decide +kernel
theorem s67_53 {l0 : Nat} {l1 : Nat} {l2 : Int} {l3 : Int} : WP m67 53 [.inr (.inl l0), .inr (.inl l1), .inl l2, .inl l3] [] σ Q = WP m67 92 [.inr (.inl l0), .inr (.inl l1), .inl l2, .inl l3] [] σ Q := w_goto d67_53 (by decide)
theorem d67_56 : adec m67 56 = some (.iload_n 3, 1) := by decide +kernel
theorem s67_56 {l0 : Nat} {l1 : Nat} {l2 : Int} {l3 : Int} : WP m67 56 [.inr (.inl l0), .inr (.inl l1), .inl l2, .inl l3] [] σ Q = WP m67 57 [.inr (.inl l0), .inr (.inl l1), .inl l2, .inl l3] [.inl l3] σ Q := w_ld d67_56 rfl
theorem d67_57 : adec m67 57 = some (.invokestatic 41, 3) := by decide +kernel
theorem s67_57 {l0 : Nat} {l1 : Nat} {l2 : Int} {l3 : Int} {x0 : Int} : WP m67 57 [.inr (.inl l0), .inr (.inl l1), .inl l2, .inl l3] [.inl x0] σ Q = CA m117 [.inl x0] σ (fun v σ2 => WP m67 60 [.inr (.inl l0), .inr (.inl l1), .inl l2, .inl l3] (v ++ []) σ2 Q) := w_cS (k := 117) d67_57 (by decide +kernel) (md := 2) (by decide +kernel) m117_at rfl rfl ⟨Nat.le_of_ble_eq_true rfl, Nat.le_of_ble_eq_true rfl, Nat.le_of_ble_eq_true rfl⟩ (by decide)
theorem d67_60 : adec m67 60 = some (.ifCond .eq (21), 3) := by decide +kernel
theorem s67_60 {l0 : Nat} {l1 : Nat} {l2 : Int} {l3 : Int} {x0 : Int} : WP m67 60 [.inr (.inl l0), .inr (.inl l1), .inl l2, .inl l3] [.inl x0] σ Q = (if x0 = 0 then WP m67 81 [.inr (.inl l0), .inr (.inl l1), .inl l2, .inl l3] [] σ Q else WP m67 63 [.inr (.inl l0), .inr (.inl l1), .inl l2, .inl l3] [] σ Q) := w_ifeq d67_60 (by decide)
theorem d67_63 : adec m67 63 = some (.aload_n 0, 1) := by decide +kernel
theorem s67_63 {l0 : Nat} {l1 : Nat} {l2 : Int} {l3 : Int} : WP m67 63 [.inr (.inl l0), .inr (.inl l1), .inl l2, .inl l3] [] σ Q = WP m67 64 [.inr (.inl l0), .inr (.inl l1), .inl l2, .inl l3] [.inr (.inl l0)] σ Q := w_ld d67_63 rfl
theorem d67_64 : adec m67 64 = some (.getfield 14, 3) := by decide +kernel
theorem s67_64 {l0 : Nat} {l1 : Nat} {l2 : Int} {l3 : Int} {x0 : Nat} : WP m67 64 [.inr (.inl l0), .inr (.inl l1), .inl l2, .inl l3] [.inr (.inl x0)] σ Q = ((isO x0 6 ∧ 0 ≤ PT x0 0) ∧ WP m67 67 [.inr (.inl l0), .inr (.inl l1), .inl l2, .inl l3] [.inr (.inl (pt x0 0))] σ Q) := w_getR (c := 6) (n := 0) d67_64 (by decide +kernel) (by decide +kernel)
theorem d67_67 : adec m67 67 = some (.iload_n 2, 1) := by decide +kernel
theorem s67_67 {l0 : Nat} {l1 : Nat} {l2 : Int} {l3 : Int} {x0 : Nat} : WP m67 67 [.inr (.inl l0), .inr (.inl l1), .inl l2, .inl l3] [.inr (.inl x0)] σ Q = WP m67 68 [.inr (.inl l0), .inr (.inl l1), .inl l2, .inl l3] [.inl l2, .inr (.inl x0)] σ Q := w_ld d67_67 rfl
theorem d67_68 : adec m67 68 = some (.aload_n 0, 1) := by decide +kernel
theorem s67_68 {l0 : Nat} {l1 : Nat} {l2 : Int} {l3 : Int} {x0 : Nat} {x1 : Int} : WP m67 68 [.inr (.inl l0), .inr (.inl l1), .inl l2, .inl l3] [.inl x1, .inr (.inl x0)] σ Q = WP m67 69 [.inr (.inl l0), .inr (.inl l1), .inl l2, .inl l3] [.inr (.inl l0), .inl x1, .inr (.inl x0)] σ Q := w_ld d67_68 rfl
theorem d67_69 : adec m67 69 = some (.iload_n 2, 1) := by decide +kernel
theorem s67_69 {l0 : Nat} {l1 : Nat} {l2 : Int} {l3 : Int} {x0 : Nat} {x1 : Int} {x2 : Nat} : WP m67 69 [.inr (.inl l0), .inr (.inl l1), .inl l2, .inl l3] [.inr (.inl x2), .inl x1, .inr (.inl x0)] σ Q = WP m67 70 [.inr (.inl l0), .inr (.inl l1), .inl l2, .inl l3] [.inl l2, .inr (.inl x2), .inl x1, .inr (.inl x0)] σ Q := w_ld d67_69 rfl
theorem d67_70 : adec m67 70 = some (.iconst (1), 1) := by decide +kernel
theorem s67_70 {l0 : Nat} {l1 : Nat} {l2 : Int} {l3 : Int} {x0 : Nat} {x1 : Int} {x2 : Nat} {x3 : Int} : WP m67 70 [.inr (.inl l0), .inr (.inl l1), .inl l2, .inl l3] [.inl x3, .inr (.inl x2), .inl x1, .inr (.inl x0)] σ Q = WP m67 71 [.inr (.inl l0), .inr (.inl l1), .inl l2, .inl l3] [.inl (1), .inl x3, .inr (.inl x2), .inl x1, .inr (.inl x0)] σ Q := w_iconst d67_70 (by decide)
theorem d67_71 : adec m67 71 = some (.iadd, 1) := by decide +kernel
theorem s67_71 {l0 : Nat} {l1 : Nat} {l2 : Int} {l3 : Int} {x0 : Nat} {x1 : Int} {x2 : Nat} {x3 : Int} {x4 : Int} : WP m67 71 [.inr (.inl l0), .inr (.inl l1), .inl l2, .inl l3] [.inl x4, .inl x3, .inr (.inl x2), .inl x1, .inr (.inl x0)] σ Q = (inI (x3 + x4) ∧ WP m67 72 [.inr (.inl l0), .inr (.inl l1), .inl l2, .inl l3] [.inl (x3 + x4), .inr (.inl x2), .inl x1, .inr (.inl x0)] σ Q) := w_iadd d67_71
theorem d67_72 : adec m67 72 = some (.invokevirtual 35, 3) := by decide +kernel
theorem s67_72 {l0 : Nat} {l1 : Nat} {l2 : Int} {l3 : Int} {x0 : Nat} {x1 : Int} {x2 : Nat} {x3 : Int} : WP m67 72 [.inr (.inl l0), .inr (.inl l1), .inl l2, .inl l3] [.inl x3, .inr (.inl x2), .inl x1, .inr (.inl x0)] σ Q = (isO x2 6 ∧ CA m68 [.inr (.inl x2), .inl x3] σ (fun v σ2 => WP m67 75 [.inr (.inl l0), .inr (.inl l1), .inl l2, .inl l3] (v ++ [.inl x1, .inr (.inl x0)]) σ2 Q)) := w_cV (k := 68) d67_72 (by decide +kernel) m68_at rfl rfl ⟨Nat.le_of_ble_eq_true rfl, Nat.le_of_ble_eq_true rfl, Nat.le_of_ble_eq_true rfl⟩ (by decide)
theorem d67_75 : adec m67 75 = some (.invokevirtual 38, 3) := by decide +kernel
theorem s67_75 {l0 : Nat} {l1 : Nat} {l2 : Int} {l3 : Int} {x0 : Nat} {x1 : Int} {x2 : Int} : WP m67 75 [.inr (.inl l0), .inr (.inl l1), .inl l2, .inl l3] [.inl x2, .inl x1, .inr (.inl x0)] σ Q = (isO x0 3 ∧ CA m33 [.inr (.inl x0), .inl x1, .inl x2] σ (fun v σ2 => WP m67 78 [.inr (.inl l0), .inr (.inl l1), .inl l2, .inl l3] (v ++ []) σ2 Q)) := w_cV (k := 33) d67_75 (by decide +kernel) m33_at rfl rfl ⟨Nat.le_of_ble_eq_true rfl, Nat.le_of_ble_eq_true rfl, Nat.le_of_ble_eq_true rfl⟩ (by decide)
theorem d67_78 : adec m67 78 = some (.goto (14), 3) := by decide +kernel
theorem s67_78 {l0 : Nat} {l1 : Nat} {l2 : Int} {l3 : Int} : WP m67 78 [.inr (.inl l0), .inr (.inl l1), .inl l2, .inl l3] [] σ Q = WP m67 92 [.inr (.inl l0), .inr (.inl l1), .inl l2, .inl l3] [] σ Q := w_goto d67_78 (by decide)
theorem d67_81 : adec m67 81 = some (.aload_n 0, 1) := by decide +kernel
theorem s67_81 {l0 : Nat} {l1 : Nat} {l2 : Int} {l3 : Int} : WP m67 81 [.inr (.inl l0), .inr (.inl l1), .inl l2, .inl l3] [] σ Q = WP m67 82 [.inr (.inl l0), .inr (.inl l1), .inl l2, .inl l3] [.inr (.inl l0)] σ Q := w_ld d67_81 rfl
theorem d67_82 : adec m67 82 = some (.getfield 14, 3) := by decide +kernel
theorem s67_82 {l0 : Nat} {l1 : Nat} {l2 : Int} {l3 : Int} {x0 : Nat} : WP m67 82 [.inr (.inl l0), .inr (.inl l1), .inl l2, .inl l3] [.inr (.inl x0)] σ Q = ((isO x0 6 ∧ 0 ≤ PT x0 0) ∧ WP m67 85 [.inr (.inl l0), .inr (.inl l1), .inl l2, .inl l3] [.inr (.inl (pt x0 0))] σ Q) := w_getR (c := 6) (n := 0) d67_82 (by decide +kernel) (by decide +kernel)
theorem d67_85 : adec m67 85 = some (.iload_n 2, 1) := by decide +kernel
theorem s67_85 {l0 : Nat} {l1 : Nat} {l2 : Int} {l3 : Int} {x0 : Nat} : WP m67 85 [.inr (.inl l0), .inr (.inl l1), .inl l2, .inl l3] [.inr (.inl x0)] σ Q = WP m67 86 [.inr (.inl l0), .inr (.inl l1), .inl l2, .inl l3] [.inl l2, .inr (.inl x0)] σ Q := w_ld d67_85 rfl
theorem d67_86 : adec m67 86 = some (.iload_n 2, 1) := by decide +kernel
theorem s67_86 {l0 : Nat} {l1 : Nat} {l2 : Int} {l3 : Int} {x0 : Nat} {x1 : Int} : WP m67 86 [.inr (.inl l0), .inr (.inl l1), .inl l2, .inl l3] [.inl x1, .inr (.inl x0)] σ Q = WP m67 87 [.inr (.inl l0), .inr (.inl l1), .inl l2, .inl l3] [.inl l2, .inl x1, .inr (.inl x0)] σ Q := w_ld d67_86 rfl
theorem d67_87 : adec m67 87 = some (.iconst (1), 1) := by decide +kernel
theorem s67_87 {l0 : Nat} {l1 : Nat} {l2 : Int} {l3 : Int} {x0 : Nat} {x1 : Int} {x2 : Int} : WP m67 87 [.inr (.inl l0), .inr (.inl l1), .inl l2, .inl l3] [.inl x2, .inl x1, .inr (.inl x0)] σ Q = WP m67 88 [.inr (.inl l0), .inr (.inl l1), .inl l2, .inl l3] [.inl (1), .inl x2, .inl x1, .inr (.inl x0)] σ Q := w_iconst d67_87 (by decide)
theorem d67_88 : adec m67 88 = some (.iadd, 1) := by decide +kernel
theorem s67_88 {l0 : Nat} {l1 : Nat} {l2 : Int} {l3 : Int} {x0 : Nat} {x1 : Int} {x2 : Int} {x3 : Int} : WP m67 88 [.inr (.inl l0), .inr (.inl l1), .inl l2, .inl l3] [.inl x3, .inl x2, .inl x1, .inr (.inl x0)] σ Q = (inI (x2 + x3) ∧ WP m67 89 [.inr (.inl l0), .inr (.inl l1), .inl l2, .inl l3] [.inl (x2 + x3), .inl x1, .inr (.inl x0)] σ Q) := w_iadd d67_88
theorem d67_89 : adec m67 89 = some (.invokevirtual 38, 3) := by decide +kernel
theorem s67_89 {l0 : Nat} {l1 : Nat} {l2 : Int} {l3 : Int} {x0 : Nat} {x1 : Int} {x2 : Int} : WP m67 89 [.inr (.inl l0), .inr (.inl l1), .inl l2, .inl l3] [.inl x2, .inl x1, .inr (.inl x0)] σ Q = (isO x0 3 ∧ CA m33 [.inr (.inl x0), .inl x1, .inl x2] σ (fun v σ2 => WP m67 92 [.inr (.inl l0), .inr (.inl l1), .inl l2, .inl l3] (v ++ []) σ2 Q)) := w_cV (k := 33) d67_89 (by decide +kernel) m33_at rfl rfl ⟨Nat.le_of_ble_eq_true rfl, Nat.le_of_ble_eq_true rfl, Nat.le_of_ble_eq_true rfl⟩ (by decide)
theorem d67_92 : adec m67 92 = some (.iinc 2 (-1), 3) := by decide +kernel
theorem s67_92 {l0 : Nat} {l1 : Nat} {l2 : Int} {l3 : Int} : WP m67 92 [.inr (.inl l0), .inr (.inl l1), .inl l2, .inl l3] [] σ Q = (inI (l2 + (-1)) ∧ WP m67 95 [.inr (.inl l0), .inr (.inl l1), .inl (l2 + (-1)), .inl l3] [] σ Q) := w_iinc d67_92 rfl rfl
theorem d67_95 : adec m67 95 = some (.goto (-76), 3) := by decide +kernel
theorem s67_95 {l0 : Nat} {l1 : Nat} {l2 : Int} {l3 : Int} : WP m67 95 [.inr (.inl l0), .inr (.inl l1), .inl l2, .inl l3] [] σ Q = WP m67 19 [.inr (.inl l0), .inr (.inl l1), .inl l2, .inl l3] [] σ Q := w_goto d67_95 (by decide)
theorem d67_98 : adec m67 98 = some (.return_, 1) := by decide +kernel
theorem s67_98 {l0 : Nat} {l1 : Nat} {l2 : Int} {l3 : AV} : WP m67 98 [.inr (.inl l0), .inr (.inl l1), .inl l2, l3] [] σ Q = Q [] σ := w_rv d67_98 rfl
theorem e67 {p0 : Nat} {p1 : Nat} : CA m67 [.inr (.inl p0), .inr (.inl p1)] σ Q = WP m67 0 [.inr (.inl p0), .inr (.inl p1), vU, vU] [] σ Q := rfl
-- BinderPress$Spans.end(I)I
theorem d68_0 : adec m68 0 = some (.aload_n 0, 1) := by decide +kernel
theorem s68_0 {l0 : Nat} {l1 : Int} : WP m68 0 [.inr (.inl l0), .inl l1] [] σ Q = WP m68 1 [.inr (.inl l0), .inl l1] [.inr (.inl l0)] σ Q := w_ld d68_0 rfl
theorem d68_1 : adec m68 1 = some (.getfield 14, 3) := by decide +kernel
theorem s68_1 {l0 : Nat} {l1 : Int} {x0 : Nat} : WP m68 1 [.inr (.inl l0), .inl l1] [.inr (.inl x0)] σ Q = ((isO x0 6 ∧ 0 ≤ PT x0 0) ∧ WP m68 4 [.inr (.inl l0), .inl l1] [.inr (.inl (pt x0 0))] σ Q) := w_getR (c := 6) (n := 0) d68_1 (by decide +kernel) (by decide +kernel)
theorem d68_4 : adec m68 4 = some (.iload_n 1, 1) := by decide +kernel
theorem s68_4 {l0 : Nat} {l1 : Int} {x0 : Nat} : WP m68 4 [.inr (.inl l0), .inl l1] [.inr (.inl x0)] σ Q = WP m68 5 [.inr (.inl l0), .inl l1] [.inl l1, .inr (.inl x0)] σ Q := w_ld d68_4 rfl
theorem d68_5 : adec m68 5 = some (.invokevirtual 31, 3) := by decide +kernel
theorem s68_5 {l0 : Nat} {l1 : Int} {x0 : Nat} {x1 : Int} : WP m68 5 [.inr (.inl l0), .inl l1] [.inl x1, .inr (.inl x0)] σ Q = (isO x0 3 ∧ CA m30 [.inr (.inl x0), .inl x1] σ (fun v σ2 => WP m68 8 [.inr (.inl l0), .inl l1] (v ++ []) σ2 Q)) := w_cV (k := 30) d68_5 (by decide +kernel) m30_at rfl rfl ⟨Nat.le_of_ble_eq_true rfl, Nat.le_of_ble_eq_true rfl, Nat.le_of_ble_eq_true rfl⟩ (by decide)
theorem d68_8 : adec m68 8 = some (.ireturn, 1) := by decide +kernel
theorem s68_8 {l0 : Nat} {l1 : Int} {x0 : Int} : WP m68 8 [.inr (.inl l0), .inl l1] [.inl x0] σ Q = Q [.inl x0] σ := w_ri d68_8 rfl
theorem e68 {p0 : Nat} {p1 : Int} : CA m68 [.inr (.inl p0), .inl p1] σ Q = WP m68 0 [.inr (.inl p0), .inl p1] [] σ Q := rfl
-- BinderPress$Spans.freeNames(LBinderPress$Row;)I
theorem d69_0 : adec m69 0 = some (.aload_n 0, 1) := by decide +kernel
theorem s69_0 {l0 : Nat} {l1 : Nat} {l2 : AV} : WP m69 0 [.inr (.inl l0), .inr (.inl l1), l2] [] σ Q = WP m69 1 [.inr (.inl l0), .inr (.inl l1), l2] [.inr (.inl l0)] σ Q := w_ld d69_0 rfl
theorem d69_1 : adec m69 1 = some (.aload_n 1, 1) := by decide +kernel
theorem s69_1 {l0 : Nat} {l1 : Nat} {l2 : AV} {x0 : Nat} : WP m69 1 [.inr (.inl l0), .inr (.inl l1), l2] [.inr (.inl x0)] σ Q = WP m69 2 [.inr (.inl l0), .inr (.inl l1), l2] [.inr (.inl l1), .inr (.inl x0)] σ Q := w_ld d69_1 rfl
theorem d69_2 : adec m69 2 = some (.invokevirtual 45, 3) := by decide +kernel
theorem s69_2 {l0 : Nat} {l1 : Nat} {l2 : AV} {x0 : Nat} {x1 : Nat} : WP m69 2 [.inr (.inl l0), .inr (.inl l1), l2] [.inr (.inl x1), .inr (.inl x0)] σ Q = (isO x0 6 ∧ CA m67 [.inr (.inl x0), .inr (.inl x1)] σ (fun v σ2 => WP m69 5 [.inr (.inl l0), .inr (.inl l1), l2] (v ++ []) σ2 Q)) := w_cV (k := 67) d69_2 (by decide +kernel) m67_at rfl rfl ⟨Nat.le_of_ble_eq_true rfl, Nat.le_of_ble_eq_true rfl, Nat.le_of_ble_eq_true rfl⟩ (by decide)
theorem d69_5 : adec m69 5 = some (.aload_n 0, 1) := by decide +kernel
theorem s69_5 {l0 : Nat} {l1 : Nat} {l2 : AV} : WP m69 5 [.inr (.inl l0), .inr (.inl l1), l2] [] σ Q = WP m69 6 [.inr (.inl l0), .inr (.inl l1), l2] [.inr (.inl l0)] σ Q := w_ld d69_5 rfl
theorem d69_6 : adec m69 6 = some (.getfield 20, 3) := by decide +kernel
theorem s69_6 {l0 : Nat} {l1 : Nat} {l2 : AV} {x0 : Nat} : WP m69 6 [.inr (.inl l0), .inr (.inl l1), l2] [.inr (.inl x0)] σ Q = ((isO x0 6 ∧ 0 ≤ PT x0 1) ∧ WP m69 9 [.inr (.inl l0), .inr (.inl l1), l2] [.inr (.inl (pt x0 1))] σ Q) := w_getR (c := 6) (n := 1) d69_6 (by decide +kernel) (by decide +kernel)
theorem d69_9 : adec m69 9 = some (.aload_n 1, 1) := by decide +kernel
theorem s69_9 {l0 : Nat} {l1 : Nat} {l2 : AV} {x0 : Nat} : WP m69 9 [.inr (.inl l0), .inr (.inl l1), l2] [.inr (.inl x0)] σ Q = WP m69 10 [.inr (.inl l0), .inr (.inl l1), l2] [.inr (.inl l1), .inr (.inl x0)] σ Q := w_ld d69_9 rfl
theorem d69_10 : adec m69 10 = some (.invokevirtual 23, 3) := by decide +kernel
theorem s69_10 {l0 : Nat} {l1 : Nat} {l2 : AV} {x0 : Nat} {x1 : Nat} : WP m69 10 [.inr (.inl l0), .inr (.inl l1), l2] [.inr (.inl x1), .inr (.inl x0)] σ Q = (isO x1 3 ∧ CA m28 [.inr (.inl x1)] σ (fun v σ2 => WP m69 13 [.inr (.inl l0), .inr (.inl l1), l2] (v ++ [.inr (.inl x0)]) σ2 Q)) := w_cV (k := 28) d69_10 (by decide +kernel) m28_at rfl rfl ⟨Nat.le_of_ble_eq_true rfl, Nat.le_of_ble_eq_true rfl, Nat.le_of_ble_eq_true rfl⟩ (by decide)
theorem d69_13 : adec m69 13 = some (.iconst (0), 1) := by decide +kernel
theorem s69_13 {l0 : Nat} {l1 : Nat} {l2 : AV} {x0 : Nat} {x1 : Int} : WP m69 13 [.inr (.inl l0), .inr (.inl l1), l2] [.inl x1, .inr (.inl x0)] σ Q = WP m69 14 [.inr (.inl l0), .inr (.inl l1), l2] [.inl (0), .inl x1, .inr (.inl x0)] σ Q := w_iconst d69_13 (by decide)
theorem d69_14 : adec m69 14 = some (.invokevirtual 27, 3) := by decide +kernel
theorem s69_14 {l0 : Nat} {l1 : Nat} {l2 : AV} {x0 : Nat} {x1 : Int} {x2 : Int} : WP m69 14 [.inr (.inl l0), .inr (.inl l1), l2] [.inl x2, .inl x1, .inr (.inl x0)] σ Q = (isO x0 3 ∧ CA m37 [.inr (.inl x0), .inl x1, .inl x2] σ (fun v σ2 => WP m69 17 [.inr (.inl l0), .inr (.inl l1), l2] (v ++ []) σ2 Q)) := w_cV (k := 37) d69_14 (by decide +kernel) m37_at rfl rfl ⟨Nat.le_of_ble_eq_true rfl, Nat.le_of_ble_eq_true rfl, Nat.le_of_ble_eq_true rfl⟩ (by decide)
theorem d69_17 : adec m69 17 = some (.aload_n 1, 1) := by decide +kernel
theorem s69_17 {l0 : Nat} {l1 : Nat} {l2 : AV} : WP m69 17 [.inr (.inl l0), .inr (.inl l1), l2] [] σ Q = WP m69 18 [.inr (.inl l0), .inr (.inl l1), l2] [.inr (.inl l1)] σ Q := w_ld d69_17 rfl
theorem d69_18 : adec m69 18 = some (.invokevirtual 23, 3) := by decide +kernel
theorem s69_18 {l0 : Nat} {l1 : Nat} {l2 : AV} {x0 : Nat} : WP m69 18 [.inr (.inl l0), .inr (.inl l1), l2] [.inr (.inl x0)] σ Q = (isO x0 3 ∧ CA m28 [.inr (.inl x0)] σ (fun v σ2 => WP m69 21 [.inr (.inl l0), .inr (.inl l1), l2] (v ++ []) σ2 Q)) := w_cV (k := 28) d69_18 (by decide +kernel) m28_at rfl rfl ⟨Nat.le_of_ble_eq_true rfl, Nat.le_of_ble_eq_true rfl, Nat.le_of_ble_eq_true rfl⟩ (by decide)
theorem d69_21 : adec m69 21 = some (.iconst (1), 1) := by decide +kernel
theorem s69_21 {l0 : Nat} {l1 : Nat} {l2 : AV} {x0 : Int} : WP m69 21 [.inr (.inl l0), .inr (.inl l1), l2] [.inl x0] σ Q = WP m69 22 [.inr (.inl l0), .inr (.inl l1), l2] [.inl (1), .inl x0] σ Q := w_iconst d69_21 (by decide)
theorem d69_22 : adec m69 22 = some (.isub, 1) := by decide +kernel
theorem s69_22 {l0 : Nat} {l1 : Nat} {l2 : AV} {x0 : Int} {x1 : Int} : WP m69 22 [.inr (.inl l0), .inr (.inl l1), l2] [.inl x1, .inl x0] σ Q = (inI (x0 - x1) ∧ WP m69 23 [.inr (.inl l0), .inr (.inl l1), l2] [.inl (x0 - x1)] σ Q) := w_isub d69_22
theorem d69_23 : adec m69 23 = some (.istore_n 2, 1) := by decide +kernel
theorem s69_23 {l0 : Nat} {l1 : Nat} {l2 : AV} {x0 : Int} : WP m69 23 [.inr (.inl l0), .inr (.inl l1), l2] [.inl x0] σ Q = WP m69 24 [.inr (.inl l0), .inr (.inl l1), .inl x0] [] σ Q := w_st1 (j := 2) d69_23 rfl (Nat.le_of_ble_eq_true rfl) rfl
theorem d69_24 : adec m69 24 = some (.iload_n 2, 1) := by decide +kernel
theorem s69_24 {l0 : Nat} {l1 : Nat} {l2 : Int} : WP m69 24 [.inr (.inl l0), .inr (.inl l1), .inl l2] [] σ Q = WP m69 25 [.inr (.inl l0), .inr (.inl l1), .inl l2] [.inl l2] σ Q := w_ld d69_24 rfl
theorem d69_25 : adec m69 25 = some (.ifCond .lt (27), 3) := by decide +kernel
theorem s69_25 {l0 : Nat} {l1 : Nat} {l2 : Int} {x0 : Int} : WP m69 25 [.inr (.inl l0), .inr (.inl l1), .inl l2] [.inl x0] σ Q = (if x0 < 0 then WP m69 52 [.inr (.inl l0), .inr (.inl l1), .inl l2] [] σ Q else WP m69 28 [.inr (.inl l0), .inr (.inl l1), .inl l2] [] σ Q) := w_iflt d69_25 (by decide)
theorem d69_28 : adec m69 28 = some (.aload_n 0, 1) := by decide +kernel
theorem s69_28 {l0 : Nat} {l1 : Nat} {l2 : Int} : WP m69 28 [.inr (.inl l0), .inr (.inl l1), .inl l2] [] σ Q = WP m69 29 [.inr (.inl l0), .inr (.inl l1), .inl l2] [.inr (.inl l0)] σ Q := w_ld d69_28 rfl
theorem d69_29 : adec m69 29 = some (.getfield 20, 3) := by decide +kernel
theorem s69_29 {l0 : Nat} {l1 : Nat} {l2 : Int} {x0 : Nat} : WP m69 29 [.inr (.inl l0), .inr (.inl l1), .inl l2] [.inr (.inl x0)] σ Q = ((isO x0 6 ∧ 0 ≤ PT x0 1) ∧ WP m69 32 [.inr (.inl l0), .inr (.inl l1), .inl l2] [.inr (.inl (pt x0 1))] σ Q) := w_getR (c := 6) (n := 1) d69_29 (by decide +kernel) (by decide +kernel)
theorem d69_32 : adec m69 32 = some (.iload_n 2, 1) := by decide +kernel
theorem s69_32 {l0 : Nat} {l1 : Nat} {l2 : Int} {x0 : Nat} : WP m69 32 [.inr (.inl l0), .inr (.inl l1), .inl l2] [.inr (.inl x0)] σ Q = WP m69 33 [.inr (.inl l0), .inr (.inl l1), .inl l2] [.inl l2, .inr (.inl x0)] σ Q := w_ld d69_32 rfl
theorem d69_33 : adec m69 33 = some (.aload_n 0, 1) := by decide +kernel
theorem s69_33 {l0 : Nat} {l1 : Nat} {l2 : Int} {x0 : Nat} {x1 : Int} : WP m69 33 [.inr (.inl l0), .inr (.inl l1), .inl l2] [.inl x1, .inr (.inl x0)] σ Q = WP m69 34 [.inr (.inl l0), .inr (.inl l1), .inl l2] [.inr (.inl l0), .inl x1, .inr (.inl x0)] σ Q := w_ld d69_33 rfl
theorem d69_34 : adec m69 34 = some (.aload_n 1, 1) := by decide +kernel
theorem s69_34 {l0 : Nat} {l1 : Nat} {l2 : Int} {x0 : Nat} {x1 : Int} {x2 : Nat} : WP m69 34 [.inr (.inl l0), .inr (.inl l1), .inl l2] [.inr (.inl x2), .inl x1, .inr (.inl x0)] σ Q = WP m69 35 [.inr (.inl l0), .inr (.inl l1), .inl l2] [.inr (.inl l1), .inr (.inl x2), .inl x1, .inr (.inl x0)] σ Q := w_ld d69_34 rfl
theorem d69_35 : adec m69 35 = some (.iload_n 2, 1) := by decide +kernel
theorem s69_35 {l0 : Nat} {l1 : Nat} {l2 : Int} {x0 : Nat} {x1 : Int} {x2 : Nat} {x3 : Nat} : WP m69 35 [.inr (.inl l0), .inr (.inl l1), .inl l2] [.inr (.inl x3), .inr (.inl x2), .inl x1, .inr (.inl x0)] σ Q = WP m69 36 [.inr (.inl l0), .inr (.inl l1), .inl l2] [.inl l2, .inr (.inl x3), .inr (.inl x2), .inl x1, .inr (.inl x0)] σ Q := w_ld d69_35 rfl
theorem d69_36 : adec m69 36 = some (.invokevirtual 31, 3) := by decide +kernel
theorem s69_36 {l0 : Nat} {l1 : Nat} {l2 : Int} {x0 : Nat} {x1 : Int} {x2 : Nat} {x3 : Nat} {x4 : Int} : WP m69 36 [.inr (.inl l0), .inr (.inl l1), .inl l2] [.inl x4, .inr (.inl x3), .inr (.inl x2), .inl x1, .inr (.inl x0)] σ Q = (isO x3 3 ∧ CA m30 [.inr (.inl x3), .inl x4] σ (fun v σ2 => WP m69 39 [.inr (.inl l0), .inr (.inl l1), .inl l2] (v ++ [.inr (.inl x2), .inl x1, .inr (.inl x0)]) σ2 Q)) := w_cV (k := 30) d69_36 (by decide +kernel) m30_at rfl rfl ⟨Nat.le_of_ble_eq_true rfl, Nat.le_of_ble_eq_true rfl, Nat.le_of_ble_eq_true rfl⟩ (by decide)
theorem d69_39 : adec m69 39 = some (.iload_n 2, 1) := by decide +kernel
theorem s69_39 {l0 : Nat} {l1 : Nat} {l2 : Int} {x0 : Nat} {x1 : Int} {x2 : Nat} {x3 : Int} : WP m69 39 [.inr (.inl l0), .inr (.inl l1), .inl l2] [.inl x3, .inr (.inl x2), .inl x1, .inr (.inl x0)] σ Q = WP m69 40 [.inr (.inl l0), .inr (.inl l1), .inl l2] [.inl l2, .inl x3, .inr (.inl x2), .inl x1, .inr (.inl x0)] σ Q := w_ld d69_39 rfl
theorem d69_40 : adec m69 40 = some (.invokevirtual 49, 3) := by decide +kernel
theorem s69_40 {l0 : Nat} {l1 : Nat} {l2 : Int} {x0 : Nat} {x1 : Int} {x2 : Nat} {x3 : Int} {x4 : Int} : WP m69 40 [.inr (.inl l0), .inr (.inl l1), .inl l2] [.inl x4, .inl x3, .inr (.inl x2), .inl x1, .inr (.inl x0)] σ Q = (isO x2 6 ∧ CA m70 [.inr (.inl x2), .inl x3, .inl x4] σ (fun v σ2 => WP m69 43 [.inr (.inl l0), .inr (.inl l1), .inl l2] (v ++ [.inl x1, .inr (.inl x0)]) σ2 Q)) := w_cV (k := 70) d69_40 (by decide +kernel) m70_at rfl rfl ⟨Nat.le_of_ble_eq_true rfl, Nat.le_of_ble_eq_true rfl, Nat.le_of_ble_eq_true rfl⟩ (by decide)
theorem d69_43 : adec m69 43 = some (.invokevirtual 38, 3) := by decide +kernel
theorem s69_43 {l0 : Nat} {l1 : Nat} {l2 : Int} {x0 : Nat} {x1 : Int} {x2 : Int} : WP m69 43 [.inr (.inl l0), .inr (.inl l1), .inl l2] [.inl x2, .inl x1, .inr (.inl x0)] σ Q = (isO x0 3 ∧ CA m33 [.inr (.inl x0), .inl x1, .inl x2] σ (fun v σ2 => WP m69 46 [.inr (.inl l0), .inr (.inl l1), .inl l2] (v ++ []) σ2 Q)) := w_cV (k := 33) d69_43 (by decide +kernel) m33_at rfl rfl ⟨Nat.le_of_ble_eq_true rfl, Nat.le_of_ble_eq_true rfl, Nat.le_of_ble_eq_true rfl⟩ (by decide)
theorem d69_46 : adec m69 46 = some (.iinc 2 (-1), 3) := by decide +kernel
theorem s69_46 {l0 : Nat} {l1 : Nat} {l2 : Int} : WP m69 46 [.inr (.inl l0), .inr (.inl l1), .inl l2] [] σ Q = (inI (l2 + (-1)) ∧ WP m69 49 [.inr (.inl l0), .inr (.inl l1), .inl (l2 + (-1))] [] σ Q) := w_iinc d69_46 rfl rfl
theorem d69_49 : adec m69 49 = some (.goto (-25), 3) := by decide +kernel
theorem s69_49 {l0 : Nat} {l1 : Nat} {l2 : Int} : WP m69 49 [.inr (.inl l0), .inr (.inl l1), .inl l2] [] σ Q = WP m69 24 [.inr (.inl l0), .inr (.inl l1), .inl l2] [] σ Q := w_goto d69_49 (by decide)
theorem d69_52 : adec m69 52 = some (.aload_n 0, 1) := by decide +kernel
theorem s69_52 {l0 : Nat} {l1 : Nat} {l2 : Int} : WP m69 52 [.inr (.inl l0), .inr (.inl l1), .inl l2] [] σ Q = WP m69 53 [.inr (.inl l0), .inr (.inl l1), .inl l2] [.inr (.inl l0)] σ Q := w_ld d69_52 rfl
theorem d69_53 : adec m69 53 = some (.getfield 20, 3) := by decide +kernel
theorem s69_53 {l0 : Nat} {l1 : Nat} {l2 : Int} {x0 : Nat} : WP m69 53 [.inr (.inl l0), .inr (.inl l1), .inl l2] [.inr (.inl x0)] σ Q = ((isO x0 6 ∧ 0 ≤ PT x0 1) ∧ WP m69 56 [.inr (.inl l0), .inr (.inl l1), .inl l2] [.inr (.inl (pt x0 1))] σ Q) := w_getR (c := 6) (n := 1) d69_53 (by decide +kernel) (by decide +kernel)
theorem d69_56 : adec m69 56 = some (.iconst (0), 1) := by decide +kernel
theorem s69_56 {l0 : Nat} {l1 : Nat} {l2 : Int} {x0 : Nat} : WP m69 56 [.inr (.inl l0), .inr (.inl l1), .inl l2] [.inr (.inl x0)] σ Q = WP m69 57 [.inr (.inl l0), .inr (.inl l1), .inl l2] [.inl (0), .inr (.inl x0)] σ Q := w_iconst d69_56 (by decide)
theorem d69_57 : adec m69 57 = some (.invokevirtual 31, 3) := by decide +kernel
theorem s69_57 {l0 : Nat} {l1 : Nat} {l2 : Int} {x0 : Nat} {x1 : Int} : WP m69 57 [.inr (.inl l0), .inr (.inl l1), .inl l2] [.inl x1, .inr (.inl x0)] σ Q = (isO x0 3 ∧ CA m30 [.inr (.inl x0), .inl x1] σ (fun v σ2 => WP m69 60 [.inr (.inl l0), .inr (.inl l1), .inl l2] (v ++ []) σ2 Q)) := w_cV (k := 30) d69_57 (by decide +kernel) m30_at rfl rfl ⟨Nat.le_of_ble_eq_true rfl, Nat.le_of_ble_eq_true rfl, Nat.le_of_ble_eq_true rfl⟩ (by decide)
theorem d69_60 : adec m69 60 = some (.ireturn, 1) := by decide +kernel
theorem s69_60 {l0 : Nat} {l1 : Nat} {l2 : Int} {x0 : Int} : WP m69 60 [.inr (.inl l0), .inr (.inl l1), .inl l2] [.inl x0] σ Q = Q [.inl x0] σ := w_ri d69_60 rfl
theorem e69 {p0 : Nat} {p1 : Nat} : CA m69 [.inr (.inl p0), .inr (.inl p1)] σ Q = WP m69 0 [.inr (.inl p0), .inr (.inl p1), vU] [] σ Q := rfl
-- BinderPress$Spans.freeAt(II)I
theorem d70_0 : adec m70 0 = some (.iload_n 1, 1) := by decide +kernel
theorem s70_0 {l0 : Nat} {l1 : Int} {l2 : Int} : WP m70 0 [.inr (.inl l0), .inl l1, .inl l2] [] σ Q = WP m70 1 [.inr (.inl l0), .inl l1, .inl l2] [.inl l1] σ Q := w_ld d70_0 rfl
theorem d70_1 : adec m70 1 = some (.iconst (1), 1) := by decide +kernel
theorem s70_1 {l0 : Nat} {l1 : Int} {l2 : Int} {x0 : Int} : WP m70 1 [.inr (.inl l0), .inl l1, .inl l2] [.inl x0] σ Q = WP m70 2 [.inr (.inl l0), .inl l1, .inl l2] [.inl (1), .inl x0] σ Q := w_iconst d70_1 (by decide)
theorem d70_2 : adec m70 2 = some (.if_icmp .ne (29), 3) := by decide +kernel
theorem s70_2 {l0 : Nat} {l1 : Int} {l2 : Int} {x0 : Int} {x1 : Int} : WP m70 2 [.inr (.inl l0), .inl l1, .inl l2] [.inl x1, .inl x0] σ Q = (if x0 = x1 then WP m70 5 [.inr (.inl l0), .inl l1, .inl l2] [] σ Q else WP m70 31 [.inr (.inl l0), .inl l1, .inl l2] [] σ Q) := w_icne d70_2 (by decide)
theorem d70_5 : adec m70 5 = some (.aload_n 0, 1) := by decide +kernel
theorem s70_5 {l0 : Nat} {l1 : Int} {l2 : Int} : WP m70 5 [.inr (.inl l0), .inl l1, .inl l2] [] σ Q = WP m70 6 [.inr (.inl l0), .inl l1, .inl l2] [.inr (.inl l0)] σ Q := w_ld d70_5 rfl
theorem d70_6 : adec m70 6 = some (.getfield 20, 3) := by decide +kernel
theorem s70_6 {l0 : Nat} {l1 : Int} {l2 : Int} {x0 : Nat} : WP m70 6 [.inr (.inl l0), .inl l1, .inl l2] [.inr (.inl x0)] σ Q = ((isO x0 6 ∧ 0 ≤ PT x0 1) ∧ WP m70 9 [.inr (.inl l0), .inl l1, .inl l2] [.inr (.inl (pt x0 1))] σ Q) := w_getR (c := 6) (n := 1) d70_6 (by decide +kernel) (by decide +kernel)
theorem d70_9 : adec m70 9 = some (.iload_n 2, 1) := by decide +kernel
theorem s70_9 {l0 : Nat} {l1 : Int} {l2 : Int} {x0 : Nat} : WP m70 9 [.inr (.inl l0), .inl l1, .inl l2] [.inr (.inl x0)] σ Q = WP m70 10 [.inr (.inl l0), .inl l1, .inl l2] [.inl l2, .inr (.inl x0)] σ Q := w_ld d70_9 rfl
theorem d70_10 : adec m70 10 = some (.iconst (1), 1) := by decide +kernel
theorem s70_10 {l0 : Nat} {l1 : Int} {l2 : Int} {x0 : Nat} {x1 : Int} : WP m70 10 [.inr (.inl l0), .inl l1, .inl l2] [.inl x1, .inr (.inl x0)] σ Q = WP m70 11 [.inr (.inl l0), .inl l1, .inl l2] [.inl (1), .inl x1, .inr (.inl x0)] σ Q := w_iconst d70_10 (by decide)
theorem d70_11 : adec m70 11 = some (.iadd, 1) := by decide +kernel
theorem s70_11 {l0 : Nat} {l1 : Int} {l2 : Int} {x0 : Nat} {x1 : Int} {x2 : Int} : WP m70 11 [.inr (.inl l0), .inl l1, .inl l2] [.inl x2, .inl x1, .inr (.inl x0)] σ Q = (inI (x1 + x2) ∧ WP m70 12 [.inr (.inl l0), .inl l1, .inl l2] [.inl (x1 + x2), .inr (.inl x0)] σ Q) := w_iadd d70_11
theorem d70_12 : adec m70 12 = some (.invokevirtual 31, 3) := by decide +kernel
theorem s70_12 {l0 : Nat} {l1 : Int} {l2 : Int} {x0 : Nat} {x1 : Int} : WP m70 12 [.inr (.inl l0), .inl l1, .inl l2] [.inl x1, .inr (.inl x0)] σ Q = (isO x0 3 ∧ CA m30 [.inr (.inl x0), .inl x1] σ (fun v σ2 => WP m70 15 [.inr (.inl l0), .inl l1, .inl l2] (v ++ []) σ2 Q)) := w_cV (k := 30) d70_12 (by decide +kernel) m30_at rfl rfl ⟨Nat.le_of_ble_eq_true rfl, Nat.le_of_ble_eq_true rfl, Nat.le_of_ble_eq_true rfl⟩ (by decide)
theorem d70_15 : adec m70 15 = some (.aload_n 0, 1) := by decide +kernel
theorem s70_15 {l0 : Nat} {l1 : Int} {l2 : Int} {x0 : Int} : WP m70 15 [.inr (.inl l0), .inl l1, .inl l2] [.inl x0] σ Q = WP m70 16 [.inr (.inl l0), .inl l1, .inl l2] [.inr (.inl l0), .inl x0] σ Q := w_ld d70_15 rfl
theorem d70_16 : adec m70 16 = some (.getfield 20, 3) := by decide +kernel
theorem s70_16 {l0 : Nat} {l1 : Int} {l2 : Int} {x0 : Int} {x1 : Nat} : WP m70 16 [.inr (.inl l0), .inl l1, .inl l2] [.inr (.inl x1), .inl x0] σ Q = ((isO x1 6 ∧ 0 ≤ PT x1 1) ∧ WP m70 19 [.inr (.inl l0), .inl l1, .inl l2] [.inr (.inl (pt x1 1)), .inl x0] σ Q) := w_getR (c := 6) (n := 1) d70_16 (by decide +kernel) (by decide +kernel)
theorem d70_19 : adec m70 19 = some (.aload_n 0, 1) := by decide +kernel
theorem s70_19 {l0 : Nat} {l1 : Int} {l2 : Int} {x0 : Int} {x1 : Nat} : WP m70 19 [.inr (.inl l0), .inl l1, .inl l2] [.inr (.inl x1), .inl x0] σ Q = WP m70 20 [.inr (.inl l0), .inl l1, .inl l2] [.inr (.inl l0), .inr (.inl x1), .inl x0] σ Q := w_ld d70_19 rfl
theorem d70_20 : adec m70 20 = some (.iload_n 2, 1) := by decide +kernel
theorem s70_20 {l0 : Nat} {l1 : Int} {l2 : Int} {x0 : Int} {x1 : Nat} {x2 : Nat} : WP m70 20 [.inr (.inl l0), .inl l1, .inl l2] [.inr (.inl x2), .inr (.inl x1), .inl x0] σ Q = WP m70 21 [.inr (.inl l0), .inl l1, .inl l2] [.inl l2, .inr (.inl x2), .inr (.inl x1), .inl x0] σ Q := w_ld d70_20 rfl
theorem d70_21 : adec m70 21 = some (.iconst (1), 1) := by decide +kernel
theorem s70_21 {l0 : Nat} {l1 : Int} {l2 : Int} {x0 : Int} {x1 : Nat} {x2 : Nat} {x3 : Int} : WP m70 21 [.inr (.inl l0), .inl l1, .inl l2] [.inl x3, .inr (.inl x2), .inr (.inl x1), .inl x0] σ Q = WP m70 22 [.inr (.inl l0), .inl l1, .inl l2] [.inl (1), .inl x3, .inr (.inl x2), .inr (.inl x1), .inl x0] σ Q := w_iconst d70_21 (by decide)
theorem d70_22 : adec m70 22 = some (.iadd, 1) := by decide +kernel
theorem s70_22 {l0 : Nat} {l1 : Int} {l2 : Int} {x0 : Int} {x1 : Nat} {x2 : Nat} {x3 : Int} {x4 : Int} : WP m70 22 [.inr (.inl l0), .inl l1, .inl l2] [.inl x4, .inl x3, .inr (.inl x2), .inr (.inl x1), .inl x0] σ Q = (inI (x3 + x4) ∧ WP m70 23 [.inr (.inl l0), .inl l1, .inl l2] [.inl (x3 + x4), .inr (.inl x2), .inr (.inl x1), .inl x0] σ Q) := w_iadd d70_22
theorem d70_23 : adec m70 23 = some (.invokevirtual 35, 3) := by decide +kernel
theorem s70_23 {l0 : Nat} {l1 : Int} {l2 : Int} {x0 : Int} {x1 : Nat} {x2 : Nat} {x3 : Int} : WP m70 23 [.inr (.inl l0), .inl l1, .inl l2] [.inl x3, .inr (.inl x2), .inr (.inl x1), .inl x0] σ Q = (isO x2 6 ∧ CA m68 [.inr (.inl x2), .inl x3] σ (fun v σ2 => WP m70 26 [.inr (.inl l0), .inl l1, .inl l2] (v ++ [.inr (.inl x1), .inl x0]) σ2 Q)) := w_cV (k := 68) d70_23 (by decide +kernel) m68_at rfl rfl ⟨Nat.le_of_ble_eq_true rfl, Nat.le_of_ble_eq_true rfl, Nat.le_of_ble_eq_true rfl⟩ (by decide)
theorem d70_26 : adec m70 26 = some (.invokevirtual 31, 3) := by decide +kernel
theorem s70_26 {l0 : Nat} {l1 : Int} {l2 : Int} {x0 : Int} {x1 : Nat} {x2 : Int} : WP m70 26 [.inr (.inl l0), .inl l1, .inl l2] [.inl x2, .inr (.inl x1), .inl x0] σ Q = (isO x1 3 ∧ CA m30 [.inr (.inl x1), .inl x2] σ (fun v σ2 => WP m70 29 [.inr (.inl l0), .inl l1, .inl l2] (v ++ [.inl x0]) σ2 Q)) := w_cV (k := 30) d70_26 (by decide +kernel) m30_at rfl rfl ⟨Nat.le_of_ble_eq_true rfl, Nat.le_of_ble_eq_true rfl, Nat.le_of_ble_eq_true rfl⟩ (by decide)
theorem d70_29 : adec m70 29 = some (.ior, 1) := by decide +kernel
theorem s70_29 {l0 : Nat} {l1 : Int} {l2 : Int} {x0 : Int} {x1 : Int} : WP m70 29 [.inr (.inl l0), .inl l1, .inl l2] [.inl x1, .inl x0] σ Q = WP m70 30 [.inr (.inl l0), .inl l1, .inl l2] [.inl (bitA (· ||| ·) x0 x1)] σ Q := w_ior d70_29
theorem d70_30 : adec m70 30 = some (.ireturn, 1) := by decide +kernel
theorem s70_30 {l0 : Nat} {l1 : Int} {l2 : Int} {x0 : Int} : WP m70 30 [.inr (.inl l0), .inl l1, .inl l2] [.inl x0] σ Q = Q [.inl x0] σ := w_ri d70_30 rfl
theorem d70_31 : adec m70 31 = some (.iload_n 1, 1) := by decide +kernel
theorem s70_31 {l0 : Nat} {l1 : Int} {l2 : Int} : WP m70 31 [.inr (.inl l0), .inl l1, .inl l2] [] σ Q = WP m70 32 [.inr (.inl l0), .inl l1, .inl l2] [.inl l1] σ Q := w_ld d70_31 rfl
theorem d70_32 : adec m70 32 = some (.invokestatic 41, 3) := by decide +kernel
theorem s70_32 {l0 : Nat} {l1 : Int} {l2 : Int} {x0 : Int} : WP m70 32 [.inr (.inl l0), .inl l1, .inl l2] [.inl x0] σ Q = CA m117 [.inl x0] σ (fun v σ2 => WP m70 35 [.inr (.inl l0), .inl l1, .inl l2] (v ++ []) σ2 Q) := w_cS (k := 117) d70_32 (by decide +kernel) (md := 2) (by decide +kernel) m117_at rfl rfl ⟨Nat.le_of_ble_eq_true rfl, Nat.le_of_ble_eq_true rfl, Nat.le_of_ble_eq_true rfl⟩ (by decide)
theorem d70_35 : adec m70 35 = some (.ifCond .eq (26), 3) := by decide +kernel
theorem s70_35 {l0 : Nat} {l1 : Int} {l2 : Int} {x0 : Int} : WP m70 35 [.inr (.inl l0), .inl l1, .inl l2] [.inl x0] σ Q = (if x0 = 0 then WP m70 61 [.inr (.inl l0), .inl l1, .inl l2] [] σ Q else WP m70 38 [.inr (.inl l0), .inl l1, .inl l2] [] σ Q) := w_ifeq d70_35 (by decide)
theorem d70_38 : adec m70 38 = some (.aload_n 0, 1) := by decide +kernel
theorem s70_38 {l0 : Nat} {l1 : Int} {l2 : Int} : WP m70 38 [.inr (.inl l0), .inl l1, .inl l2] [] σ Q = WP m70 39 [.inr (.inl l0), .inl l1, .inl l2] [.inr (.inl l0)] σ Q := w_ld d70_38 rfl
theorem d70_39 : adec m70 39 = some (.getfield 20, 3) := by decide +kernel
theorem s70_39 {l0 : Nat} {l1 : Int} {l2 : Int} {x0 : Nat} : WP m70 39 [.inr (.inl l0), .inl l1, .inl l2] [.inr (.inl x0)] σ Q = ((isO x0 6 ∧ 0 ≤ PT x0 1) ∧ WP m70 42 [.inr (.inl l0), .inl l1, .inl l2] [.inr (.inl (pt x0 1))] σ Q) := w_getR (c := 6) (n := 1) d70_39 (by decide +kernel) (by decide +kernel)
theorem d70_42 : adec m70 42 = some (.iload_n 2, 1) := by decide +kernel
theorem s70_42 {l0 : Nat} {l1 : Int} {l2 : Int} {x0 : Nat} : WP m70 42 [.inr (.inl l0), .inl l1, .inl l2] [.inr (.inl x0)] σ Q = WP m70 43 [.inr (.inl l0), .inl l1, .inl l2] [.inl l2, .inr (.inl x0)] σ Q := w_ld d70_42 rfl
theorem d70_43 : adec m70 43 = some (.iconst (1), 1) := by decide +kernel
theorem s70_43 {l0 : Nat} {l1 : Int} {l2 : Int} {x0 : Nat} {x1 : Int} : WP m70 43 [.inr (.inl l0), .inl l1, .inl l2] [.inl x1, .inr (.inl x0)] σ Q = WP m70 44 [.inr (.inl l0), .inl l1, .inl l2] [.inl (1), .inl x1, .inr (.inl x0)] σ Q := w_iconst d70_43 (by decide)
theorem d70_44 : adec m70 44 = some (.iadd, 1) := by decide +kernel
theorem s70_44 {l0 : Nat} {l1 : Int} {l2 : Int} {x0 : Nat} {x1 : Int} {x2 : Int} : WP m70 44 [.inr (.inl l0), .inl l1, .inl l2] [.inl x2, .inl x1, .inr (.inl x0)] σ Q = (inI (x1 + x2) ∧ WP m70 45 [.inr (.inl l0), .inl l1, .inl l2] [.inl (x1 + x2), .inr (.inl x0)] σ Q) := w_iadd d70_44
theorem d70_45 : adec m70 45 = some (.invokevirtual 31, 3) := by decide +kernel
theorem s70_45 {l0 : Nat} {l1 : Int} {l2 : Int} {x0 : Nat} {x1 : Int} : WP m70 45 [.inr (.inl l0), .inl l1, .inl l2] [.inl x1, .inr (.inl x0)] σ Q = (isO x0 3 ∧ CA m30 [.inr (.inl x0), .inl x1] σ (fun v σ2 => WP m70 48 [.inr (.inl l0), .inl l1, .inl l2] (v ++ []) σ2 Q)) := w_cV (k := 30) d70_45 (by decide +kernel) m30_at rfl rfl ⟨Nat.le_of_ble_eq_true rfl, Nat.le_of_ble_eq_true rfl, Nat.le_of_ble_eq_true rfl⟩ (by decide)
theorem d70_48 : adec m70 48 = some (.iconst (1), 1) := by decide +kernel
theorem s70_48 {l0 : Nat} {l1 : Int} {l2 : Int} {x0 : Int} : WP m70 48 [.inr (.inl l0), .inl l1, .inl l2] [.inl x0] σ Q = WP m70 49 [.inr (.inl l0), .inl l1, .inl l2] [.inl (1), .inl x0] σ Q := w_iconst d70_48 (by decide)
theorem d70_49 : adec m70 49 = some (.iload_n 1, 1) := by decide +kernel
theorem s70_49 {l0 : Nat} {l1 : Int} {l2 : Int} {x0 : Int} {x1 : Int} : WP m70 49 [.inr (.inl l0), .inl l1, .inl l2] [.inl x1, .inl x0] σ Q = WP m70 50 [.inr (.inl l0), .inl l1, .inl l2] [.inl l1, .inl x1, .inl x0] σ Q := w_ld d70_49 rfl
theorem d70_50 : adec m70 50 = some (.invokestatic 53, 3) := by decide +kernel
theorem s70_50 {l0 : Nat} {l1 : Int} {l2 : Int} {x0 : Int} {x1 : Int} {x2 : Int} : WP m70 50 [.inr (.inl l0), .inl l1, .inl l2] [.inl x2, .inl x1, .inl x0] σ Q = CA m118 [.inl x2] σ (fun v σ2 => WP m70 53 [.inr (.inl l0), .inl l1, .inl l2] (v ++ [.inl x1, .inl x0]) σ2 Q) := w_cS (k := 118) d70_50 (by decide +kernel) (md := 2) (by decide +kernel) m118_at rfl rfl ⟨Nat.le_of_ble_eq_true rfl, Nat.le_of_ble_eq_true rfl, Nat.le_of_ble_eq_true rfl⟩ (by decide)
theorem d70_53 : adec m70 53 = some (.bipush (97), 2) := by decide +kernel
theorem s70_53 {l0 : Nat} {l1 : Int} {l2 : Int} {x0 : Int} {x1 : Int} {x2 : Int} : WP m70 53 [.inr (.inl l0), .inl l1, .inl l2] [.inl x2, .inl x1, .inl x0] σ Q = WP m70 55 [.inr (.inl l0), .inl l1, .inl l2] [.inl (97), .inl x2, .inl x1, .inl x0] σ Q := w_bipush d70_53 (by decide)
theorem d70_55 : adec m70 55 = some (.isub, 1) := by decide +kernel
theorem s70_55 {l0 : Nat} {l1 : Int} {l2 : Int} {x0 : Int} {x1 : Int} {x2 : Int} {x3 : Int} : WP m70 55 [.inr (.inl l0), .inl l1, .inl l2] [.inl x3, .inl x2, .inl x1, .inl x0] σ Q = (inI (x2 - x3) ∧ WP m70 56 [.inr (.inl l0), .inl l1, .inl l2] [.inl (x2 - x3), .inl x1, .inl x0] σ Q) := w_isub d70_55
theorem d70_56 : adec m70 56 = some (.ishl, 1) := by decide +kernel
theorem s70_56 {l0 : Nat} {l1 : Int} {l2 : Int} {x0 : Int} {x1 : Int} {x2 : Int} : WP m70 56 [.inr (.inl l0), .inl l1, .inl l2] [.inl x2, .inl x1, .inl x0] σ Q = (((0 ≤ x1 ∧ 0 ≤ x2 ∧ x2 ≤ 30) ∧ inI (x1 * 2 ^ x2.toNat)) ∧ WP m70 57 [.inr (.inl l0), .inl l1, .inl l2] [.inl (x1 * 2 ^ x2.toNat), .inl x0] σ Q) := w_ishl d70_56
theorem d70_57 : adec m70 57 = some (.iconst (-1), 1) := by decide +kernel
theorem s70_57 {l0 : Nat} {l1 : Int} {l2 : Int} {x0 : Int} {x1 : Int} : WP m70 57 [.inr (.inl l0), .inl l1, .inl l2] [.inl x1, .inl x0] σ Q = WP m70 58 [.inr (.inl l0), .inl l1, .inl l2] [.inl (-1), .inl x1, .inl x0] σ Q := w_iconst d70_57 (by decide)
theorem d70_58 : adec m70 58 = some (.ixor, 1) := by decide +kernel
theorem s70_58 {l0 : Nat} {l1 : Int} {l2 : Int} {x0 : Int} {x1 : Int} {x2 : Int} : WP m70 58 [.inr (.inl l0), .inl l1, .inl l2] [.inl x2, .inl x1, .inl x0] σ Q = WP m70 59 [.inr (.inl l0), .inl l1, .inl l2] [.inl (bitA (· ^^^ ·) x1 x2), .inl x0] σ Q := w_ixor d70_58
theorem d70_59 : adec m70 59 = some (.iand, 1) := by decide +kernel
theorem s70_59 {l0 : Nat} {l1 : Int} {l2 : Int} {x0 : Int} {x1 : Int} : WP m70 59 [.inr (.inl l0), .inl l1, .inl l2] [.inl x1, .inl x0] σ Q = WP m70 60 [.inr (.inl l0), .inl l1, .inl l2] [.inl (bitA (· &&& ·) x0 x1)] σ Q := w_iand d70_59
theorem d70_60 : adec m70 60 = some (.ireturn, 1) := by decide +kernel
theorem s70_60 {l0 : Nat} {l1 : Int} {l2 : Int} {x0 : Int} : WP m70 60 [.inr (.inl l0), .inl l1, .inl l2] [.inl x0] σ Q = Q [.inl x0] σ := w_ri d70_60 rfl
theorem d70_61 : adec m70 61 = some (.iload_n 1, 1) := by decide +kernel
theorem s70_61 {l0 : Nat} {l1 : Int} {l2 : Int} : WP m70 61 [.inr (.inl l0), .inl l1, .inl l2] [] σ Q = WP m70 62 [.inr (.inl l0), .inl l1, .inl l2] [.inl l1] σ Q := w_ld d70_61 rfl
theorem d70_62 : adec m70 62 = some (.invokestatic 56, 3) := by decide +kernel
theorem s70_62 {l0 : Nat} {l1 : Int} {l2 : Int} {x0 : Int} : WP m70 62 [.inr (.inl l0), .inl l1, .inl l2] [.inl x0] σ Q = CA m116 [.inl x0] σ (fun v σ2 => WP m70 65 [.inr (.inl l0), .inl l1, .inl l2] (v ++ []) σ2 Q) := w_cS (k := 116) d70_62 (by decide +kernel) (md := 2) (by decide +kernel) m116_at rfl rfl ⟨Nat.le_of_ble_eq_true rfl, Nat.le_of_ble_eq_true rfl, Nat.le_of_ble_eq_true rfl⟩ (by decide)
theorem d70_65 : adec m70 65 = some (.ifCond .eq (12), 3) := by decide +kernel
theorem s70_65 {l0 : Nat} {l1 : Int} {l2 : Int} {x0 : Int} : WP m70 65 [.inr (.inl l0), .inl l1, .inl l2] [.inl x0] σ Q = (if x0 = 0 then WP m70 77 [.inr (.inl l0), .inl l1, .inl l2] [] σ Q else WP m70 68 [.inr (.inl l0), .inl l1, .inl l2] [] σ Q) := w_ifeq d70_65 (by decide)
theorem d70_68 : adec m70 68 = some (.iconst (1), 1) := by decide +kernel
theorem s70_68 {l0 : Nat} {l1 : Int} {l2 : Int} : WP m70 68 [.inr (.inl l0), .inl l1, .inl l2] [] σ Q = WP m70 69 [.inr (.inl l0), .inl l1, .inl l2] [.inl (1)] σ Q := w_iconst d70_68 (by decide)
theorem d70_69 : adec m70 69 = some (.iload_n 1, 1) := by decide +kernel
theorem s70_69 {l0 : Nat} {l1 : Int} {l2 : Int} {x0 : Int} : WP m70 69 [.inr (.inl l0), .inl l1, .inl l2] [.inl x0] σ Q = WP m70 70 [.inr (.inl l0), .inl l1, .inl l2] [.inl l1, .inl x0] σ Q := w_ld d70_69 rfl
theorem d70_70 : adec m70 70 = some (.bipush (97), 2) := by decide +kernel
theorem s70_70 {l0 : Nat} {l1 : Int} {l2 : Int} {x0 : Int} {x1 : Int} : WP m70 70 [.inr (.inl l0), .inl l1, .inl l2] [.inl x1, .inl x0] σ Q = WP m70 72 [.inr (.inl l0), .inl l1, .inl l2] [.inl (97), .inl x1, .inl x0] σ Q := w_bipush d70_70 (by decide)
theorem d70_72 : adec m70 72 = some (.isub, 1) := by decide +kernel
theorem s70_72 {l0 : Nat} {l1 : Int} {l2 : Int} {x0 : Int} {x1 : Int} {x2 : Int} : WP m70 72 [.inr (.inl l0), .inl l1, .inl l2] [.inl x2, .inl x1, .inl x0] σ Q = (inI (x1 - x2) ∧ WP m70 73 [.inr (.inl l0), .inl l1, .inl l2] [.inl (x1 - x2), .inl x0] σ Q) := w_isub d70_72
theorem d70_73 : adec m70 73 = some (.ishl, 1) := by decide +kernel
theorem s70_73 {l0 : Nat} {l1 : Int} {l2 : Int} {x0 : Int} {x1 : Int} : WP m70 73 [.inr (.inl l0), .inl l1, .inl l2] [.inl x1, .inl x0] σ Q = (((0 ≤ x0 ∧ 0 ≤ x1 ∧ x1 ≤ 30) ∧ inI (x0 * 2 ^ x1.toNat)) ∧ WP m70 74 [.inr (.inl l0), .inl l1, .inl l2] [.inl (x0 * 2 ^ x1.toNat)] σ Q) := w_ishl d70_73
theorem d70_74 : adec m70 74 = some (.goto (4), 3) := by decide +kernel
theorem s70_74 {l0 : Nat} {l1 : Int} {l2 : Int} {x0 : Int} : WP m70 74 [.inr (.inl l0), .inl l1, .inl l2] [.inl x0] σ Q = WP m70 78 [.inr (.inl l0), .inl l1, .inl l2] [.inl x0] σ Q := w_goto d70_74 (by decide)
theorem d70_77 : adec m70 77 = some (.iconst (0), 1) := by decide +kernel
theorem s70_77 {l0 : Nat} {l1 : Int} {l2 : Int} : WP m70 77 [.inr (.inl l0), .inl l1, .inl l2] [] σ Q = WP m70 78 [.inr (.inl l0), .inl l1, .inl l2] [.inl (0)] σ Q := w_iconst d70_77 (by decide)
theorem d70_78 : adec m70 78 = some (.ireturn, 1) := by decide +kernel
theorem s70_78 {l0 : Nat} {l1 : Int} {l2 : Int} {x0 : Int} : WP m70 78 [.inr (.inl l0), .inl l1, .inl l2] [.inl x0] σ Q = Q [.inl x0] σ := w_ri d70_78 rfl
theorem e70 {p0 : Nat} {p1 : Int} {p2 : Int} : CA m70 [.inr (.inl p0), .inl p1, .inl p2] σ Q = WP m70 0 [.inr (.inl p0), .inl p1, .inl p2] [] σ Q := rfl
-- BinderPress$Spans.longestRow(LBinderPress$Row;)I
theorem d71_0 : adec m71 0 = some (.aload_n 0, 1) := by decide +kernel
theorem s71_0 {l0 : Nat} {l1 : Nat} {l2 : AV} {l3 : AV} : WP m71 0 [.inr (.inl l0), .inr (.inl l1), l2, l3] [] σ Q = WP m71 1 [.inr (.inl l0), .inr (.inl l1), l2, l3] [.inr (.inl l0)] σ Q := w_ld d71_0 rfl
theorem d71_1 : adec m71 1 = some (.aload_n 1, 1) := by decide +kernel
theorem s71_1 {l0 : Nat} {l1 : Nat} {l2 : AV} {l3 : AV} {x0 : Nat} : WP m71 1 [.inr (.inl l0), .inr (.inl l1), l2, l3] [.inr (.inl x0)] σ Q = WP m71 2 [.inr (.inl l0), .inr (.inl l1), l2, l3] [.inr (.inl l1), .inr (.inl x0)] σ Q := w_ld d71_1 rfl
theorem d71_2 : adec m71 2 = some (.invokevirtual 45, 3) := by decide +kernel
theorem s71_2 {l0 : Nat} {l1 : Nat} {l2 : AV} {l3 : AV} {x0 : Nat} {x1 : Nat} : WP m71 2 [.inr (.inl l0), .inr (.inl l1), l2, l3] [.inr (.inl x1), .inr (.inl x0)] σ Q = (isO x0 6 ∧ CA m67 [.inr (.inl x0), .inr (.inl x1)] σ (fun v σ2 => WP m71 5 [.inr (.inl l0), .inr (.inl l1), l2, l3] (v ++ []) σ2 Q)) := w_cV (k := 67) d71_2 (by decide +kernel) m67_at rfl rfl ⟨Nat.le_of_ble_eq_true rfl, Nat.le_of_ble_eq_true rfl, Nat.le_of_ble_eq_true rfl⟩ (by decide)
theorem d71_5 : adec m71 5 = some (.aload_n 0, 1) := by decide +kernel
theorem s71_5 {l0 : Nat} {l1 : Nat} {l2 : AV} {l3 : AV} : WP m71 5 [.inr (.inl l0), .inr (.inl l1), l2, l3] [] σ Q = WP m71 6 [.inr (.inl l0), .inr (.inl l1), l2, l3] [.inr (.inl l0)] σ Q := w_ld d71_5 rfl
theorem d71_6 : adec m71 6 = some (.getfield 20, 3) := by decide +kernel
theorem s71_6 {l0 : Nat} {l1 : Nat} {l2 : AV} {l3 : AV} {x0 : Nat} : WP m71 6 [.inr (.inl l0), .inr (.inl l1), l2, l3] [.inr (.inl x0)] σ Q = ((isO x0 6 ∧ 0 ≤ PT x0 1) ∧ WP m71 9 [.inr (.inl l0), .inr (.inl l1), l2, l3] [.inr (.inl (pt x0 1))] σ Q) := w_getR (c := 6) (n := 1) d71_6 (by decide +kernel) (by decide +kernel)
theorem d71_9 : adec m71 9 = some (.aload_n 1, 1) := by decide +kernel
theorem s71_9 {l0 : Nat} {l1 : Nat} {l2 : AV} {l3 : AV} {x0 : Nat} : WP m71 9 [.inr (.inl l0), .inr (.inl l1), l2, l3] [.inr (.inl x0)] σ Q = WP m71 10 [.inr (.inl l0), .inr (.inl l1), l2, l3] [.inr (.inl l1), .inr (.inl x0)] σ Q := w_ld d71_9 rfl
theorem d71_10 : adec m71 10 = some (.invokevirtual 23, 3) := by decide +kernel
theorem s71_10 {l0 : Nat} {l1 : Nat} {l2 : AV} {l3 : AV} {x0 : Nat} {x1 : Nat} : WP m71 10 [.inr (.inl l0), .inr (.inl l1), l2, l3] [.inr (.inl x1), .inr (.inl x0)] σ Q = (isO x1 3 ∧ CA m28 [.inr (.inl x1)] σ (fun v σ2 => WP m71 13 [.inr (.inl l0), .inr (.inl l1), l2, l3] (v ++ [.inr (.inl x0)]) σ2 Q)) := w_cV (k := 28) d71_10 (by decide +kernel) m28_at rfl rfl ⟨Nat.le_of_ble_eq_true rfl, Nat.le_of_ble_eq_true rfl, Nat.le_of_ble_eq_true rfl⟩ (by decide)
theorem d71_13 : adec m71 13 = some (.iconst (1), 1) := by decide +kernel
theorem s71_13 {l0 : Nat} {l1 : Nat} {l2 : AV} {l3 : AV} {x0 : Nat} {x1 : Int} : WP m71 13 [.inr (.inl l0), .inr (.inl l1), l2, l3] [.inl x1, .inr (.inl x0)] σ Q = WP m71 14 [.inr (.inl l0), .inr (.inl l1), l2, l3] [.inl (1), .inl x1, .inr (.inl x0)] σ Q := w_iconst d71_13 (by decide)
theorem d71_14 : adec m71 14 = some (.invokevirtual 27, 3) := by decide +kernel
theorem s71_14 {l0 : Nat} {l1 : Nat} {l2 : AV} {l3 : AV} {x0 : Nat} {x1 : Int} {x2 : Int} : WP m71 14 [.inr (.inl l0), .inr (.inl l1), l2, l3] [.inl x2, .inl x1, .inr (.inl x0)] σ Q = (isO x0 3 ∧ CA m37 [.inr (.inl x0), .inl x1, .inl x2] σ (fun v σ2 => WP m71 17 [.inr (.inl l0), .inr (.inl l1), l2, l3] (v ++ []) σ2 Q)) := w_cV (k := 37) d71_14 (by decide +kernel) m37_at rfl rfl ⟨Nat.le_of_ble_eq_true rfl, Nat.le_of_ble_eq_true rfl, Nat.le_of_ble_eq_true rfl⟩ (by decide)
theorem d71_17 : adec m71 17 = some (.aload_n 1, 1) := by decide +kernel
theorem s71_17 {l0 : Nat} {l1 : Nat} {l2 : AV} {l3 : AV} : WP m71 17 [.inr (.inl l0), .inr (.inl l1), l2, l3] [] σ Q = WP m71 18 [.inr (.inl l0), .inr (.inl l1), l2, l3] [.inr (.inl l1)] σ Q := w_ld d71_17 rfl
theorem d71_18 : adec m71 18 = some (.invokevirtual 23, 3) := by decide +kernel
theorem s71_18 {l0 : Nat} {l1 : Nat} {l2 : AV} {l3 : AV} {x0 : Nat} : WP m71 18 [.inr (.inl l0), .inr (.inl l1), l2, l3] [.inr (.inl x0)] σ Q = (isO x0 3 ∧ CA m28 [.inr (.inl x0)] σ (fun v σ2 => WP m71 21 [.inr (.inl l0), .inr (.inl l1), l2, l3] (v ++ []) σ2 Q)) := w_cV (k := 28) d71_18 (by decide +kernel) m28_at rfl rfl ⟨Nat.le_of_ble_eq_true rfl, Nat.le_of_ble_eq_true rfl, Nat.le_of_ble_eq_true rfl⟩ (by decide)
theorem d71_21 : adec m71 21 = some (.iconst (1), 1) := by decide +kernel
theorem s71_21 {l0 : Nat} {l1 : Nat} {l2 : AV} {l3 : AV} {x0 : Int} : WP m71 21 [.inr (.inl l0), .inr (.inl l1), l2, l3] [.inl x0] σ Q = WP m71 22 [.inr (.inl l0), .inr (.inl l1), l2, l3] [.inl (1), .inl x0] σ Q := w_iconst d71_21 (by decide)
theorem d71_22 : adec m71 22 = some (.isub, 1) := by decide +kernel
theorem s71_22 {l0 : Nat} {l1 : Nat} {l2 : AV} {l3 : AV} {x0 : Int} {x1 : Int} : WP m71 22 [.inr (.inl l0), .inr (.inl l1), l2, l3] [.inl x1, .inl x0] σ Q = (inI (x0 - x1) ∧ WP m71 23 [.inr (.inl l0), .inr (.inl l1), l2, l3] [.inl (x0 - x1)] σ Q) := w_isub d71_22
theorem d71_23 : adec m71 23 = some (.istore_n 2, 1) := by decide +kernel
theorem s71_23 {l0 : Nat} {l1 : Nat} {l2 : AV} {l3 : AV} {x0 : Int} : WP m71 23 [.inr (.inl l0), .inr (.inl l1), l2, l3] [.inl x0] σ Q = WP m71 24 [.inr (.inl l0), .inr (.inl l1), .inl x0, l3] [] σ Q := w_st1 (j := 2) d71_23 rfl (Nat.le_of_ble_eq_true rfl) rfl
theorem d71_24 : adec m71 24 = some (.iload_n 2, 1) := by decide +kernel
theorem s71_24 {l0 : Nat} {l1 : Nat} {l2 : Int} {l3 : AV} : WP m71 24 [.inr (.inl l0), .inr (.inl l1), .inl l2, l3] [] σ Q = WP m71 25 [.inr (.inl l0), .inr (.inl l1), .inl l2, l3] [.inl l2] σ Q := w_ld d71_24 rfl
theorem d71_25 : adec m71 25 = some (.ifCond .lt (87), 3) := by decide +kernel
theorem s71_25 {l0 : Nat} {l1 : Nat} {l2 : Int} {l3 : AV} {x0 : Int} : WP m71 25 [.inr (.inl l0), .inr (.inl l1), .inl l2, l3] [.inl x0] σ Q = (if x0 < 0 then WP m71 112 [.inr (.inl l0), .inr (.inl l1), .inl l2, l3] [] σ Q else WP m71 28 [.inr (.inl l0), .inr (.inl l1), .inl l2, l3] [] σ Q) := w_iflt d71_25 (by decide)
theorem d71_28 : adec m71 28 = some (.aload_n 1, 1) := by decide +kernel
theorem s71_28 {l0 : Nat} {l1 : Nat} {l2 : Int} {l3 : AV} : WP m71 28 [.inr (.inl l0), .inr (.inl l1), .inl l2, l3] [] σ Q = WP m71 29 [.inr (.inl l0), .inr (.inl l1), .inl l2, l3] [.inr (.inl l1)] σ Q := w_ld d71_28 rfl
theorem d71_29 : adec m71 29 = some (.iload_n 2, 1) := by decide +kernel
theorem s71_29 {l0 : Nat} {l1 : Nat} {l2 : Int} {l3 : AV} {x0 : Nat} : WP m71 29 [.inr (.inl l0), .inr (.inl l1), .inl l2, l3] [.inr (.inl x0)] σ Q = WP m71 30 [.inr (.inl l0), .inr (.inl l1), .inl l2, l3] [.inl l2, .inr (.inl x0)] σ Q := w_ld d71_29 rfl
theorem d71_30 : adec m71 30 = some (.invokevirtual 31, 3) := by decide +kernel
theorem s71_30 {l0 : Nat} {l1 : Nat} {l2 : Int} {l3 : AV} {x0 : Nat} {x1 : Int} : WP m71 30 [.inr (.inl l0), .inr (.inl l1), .inl l2, l3] [.inl x1, .inr (.inl x0)] σ Q = (isO x0 3 ∧ CA m30 [.inr (.inl x0), .inl x1] σ (fun v σ2 => WP m71 33 [.inr (.inl l0), .inr (.inl l1), .inl l2, l3] (v ++ []) σ2 Q)) := w_cV (k := 30) d71_30 (by decide +kernel) m30_at rfl rfl ⟨Nat.le_of_ble_eq_true rfl, Nat.le_of_ble_eq_true rfl, Nat.le_of_ble_eq_true rfl⟩ (by decide)
theorem d71_33 : adec m71 33 = some (.istore_n 3, 1) := by decide +kernel
theorem s71_33 {l0 : Nat} {l1 : Nat} {l2 : Int} {l3 : AV} {x0 : Int} : WP m71 33 [.inr (.inl l0), .inr (.inl l1), .inl l2, l3] [.inl x0] σ Q = WP m71 34 [.inr (.inl l0), .inr (.inl l1), .inl l2, .inl x0] [] σ Q := w_st1 (j := 3) d71_33 rfl (Nat.le_of_ble_eq_true rfl) rfl
theorem d71_34 : adec m71 34 = some (.iload_n 3, 1) := by decide +kernel
theorem s71_34 {l0 : Nat} {l1 : Nat} {l2 : Int} {l3 : Int} : WP m71 34 [.inr (.inl l0), .inr (.inl l1), .inl l2, .inl l3] [] σ Q = WP m71 35 [.inr (.inl l0), .inr (.inl l1), .inl l2, .inl l3] [.inl l3] σ Q := w_ld d71_34 rfl
theorem d71_35 : adec m71 35 = some (.iconst (1), 1) := by decide +kernel
theorem s71_35 {l0 : Nat} {l1 : Nat} {l2 : Int} {l3 : Int} {x0 : Int} : WP m71 35 [.inr (.inl l0), .inr (.inl l1), .inl l2, .inl l3] [.inl x0] σ Q = WP m71 36 [.inr (.inl l0), .inr (.inl l1), .inl l2, .inl l3] [.inl (1), .inl x0] σ Q := w_iconst d71_35 (by decide)
theorem d71_36 : adec m71 36 = some (.if_icmp .ne (43), 3) := by decide +kernel
theorem s71_36 {l0 : Nat} {l1 : Nat} {l2 : Int} {l3 : Int} {x0 : Int} {x1 : Int} : WP m71 36 [.inr (.inl l0), .inr (.inl l1), .inl l2, .inl l3] [.inl x1, .inl x0] σ Q = (if x0 = x1 then WP m71 39 [.inr (.inl l0), .inr (.inl l1), .inl l2, .inl l3] [] σ Q else WP m71 79 [.inr (.inl l0), .inr (.inl l1), .inl l2, .inl l3] [] σ Q) := w_icne d71_36 (by decide)
theorem d71_39 : adec m71 39 = some (.aload_n 0, 1) := by decide +kernel
theorem s71_39 {l0 : Nat} {l1 : Nat} {l2 : Int} {l3 : Int} : WP m71 39 [.inr (.inl l0), .inr (.inl l1), .inl l2, .inl l3] [] σ Q = WP m71 40 [.inr (.inl l0), .inr (.inl l1), .inl l2, .inl l3] [.inr (.inl l0)] σ Q := w_ld d71_39 rfl
theorem d71_40 : adec m71 40 = some (.getfield 20, 3) := by decide +kernel
theorem s71_40 {l0 : Nat} {l1 : Nat} {l2 : Int} {l3 : Int} {x0 : Nat} : WP m71 40 [.inr (.inl l0), .inr (.inl l1), .inl l2, .inl l3] [.inr (.inl x0)] σ Q = ((isO x0 6 ∧ 0 ≤ PT x0 1) ∧ WP m71 43 [.inr (.inl l0), .inr (.inl l1), .inl l2, .inl l3] [.inr (.inl (pt x0 1))] σ Q) := w_getR (c := 6) (n := 1) d71_40 (by decide +kernel) (by decide +kernel)
theorem d71_43 : adec m71 43 = some (.iload_n 2, 1) := by decide +kernel
theorem s71_43 {l0 : Nat} {l1 : Nat} {l2 : Int} {l3 : Int} {x0 : Nat} : WP m71 43 [.inr (.inl l0), .inr (.inl l1), .inl l2, .inl l3] [.inr (.inl x0)] σ Q = WP m71 44 [.inr (.inl l0), .inr (.inl l1), .inl l2, .inl l3] [.inl l2, .inr (.inl x0)] σ Q := w_ld d71_43 rfl
theorem d71_44 : adec m71 44 = some (.iconst (1), 1) := by decide +kernel
theorem s71_44 {l0 : Nat} {l1 : Nat} {l2 : Int} {l3 : Int} {x0 : Nat} {x1 : Int} : WP m71 44 [.inr (.inl l0), .inr (.inl l1), .inl l2, .inl l3] [.inl x1, .inr (.inl x0)] σ Q = WP m71 45 [.inr (.inl l0), .inr (.inl l1), .inl l2, .inl l3] [.inl (1), .inl x1, .inr (.inl x0)] σ Q := w_iconst d71_44 (by decide)
theorem d71_45 : adec m71 45 = some (.aload_n 0, 1) := by decide +kernel
theorem s71_45 {l0 : Nat} {l1 : Nat} {l2 : Int} {l3 : Int} {x0 : Nat} {x1 : Int} {x2 : Int} : WP m71 45 [.inr (.inl l0), .inr (.inl l1), .inl l2, .inl l3] [.inl x2, .inl x1, .inr (.inl x0)] σ Q = WP m71 46 [.inr (.inl l0), .inr (.inl l1), .inl l2, .inl l3] [.inr (.inl l0), .inl x2, .inl x1, .inr (.inl x0)] σ Q := w_ld d71_45 rfl
theorem d71_46 : adec m71 46 = some (.getfield 20, 3) := by decide +kernel
theorem s71_46 {l0 : Nat} {l1 : Nat} {l2 : Int} {l3 : Int} {x0 : Nat} {x1 : Int} {x2 : Int} {x3 : Nat} : WP m71 46 [.inr (.inl l0), .inr (.inl l1), .inl l2, .inl l3] [.inr (.inl x3), .inl x2, .inl x1, .inr (.inl x0)] σ Q = ((isO x3 6 ∧ 0 ≤ PT x3 1) ∧ WP m71 49 [.inr (.inl l0), .inr (.inl l1), .inl l2, .inl l3] [.inr (.inl (pt x3 1)), .inl x2, .inl x1, .inr (.inl x0)] σ Q) := w_getR (c := 6) (n := 1) d71_46 (by decide +kernel) (by decide +kernel)
theorem d71_49 : adec m71 49 = some (.iload_n 2, 1) := by decide +kernel
theorem s71_49 {l0 : Nat} {l1 : Nat} {l2 : Int} {l3 : Int} {x0 : Nat} {x1 : Int} {x2 : Int} {x3 : Nat} : WP m71 49 [.inr (.inl l0), .inr (.inl l1), .inl l2, .inl l3] [.inr (.inl x3), .inl x2, .inl x1, .inr (.inl x0)] σ Q = WP m71 50 [.inr (.inl l0), .inr (.inl l1), .inl l2, .inl l3] [.inl l2, .inr (.inl x3), .inl x2, .inl x1, .inr (.inl x0)] σ Q := w_ld d71_49 rfl
theorem d71_50 : adec m71 50 = some (.iconst (1), 1) := by decide +kernel
theorem s71_50 {l0 : Nat} {l1 : Nat} {l2 : Int} {l3 : Int} {x0 : Nat} {x1 : Int} {x2 : Int} {x3 : Nat} {x4 : Int} : WP m71 50 [.inr (.inl l0), .inr (.inl l1), .inl l2, .inl l3] [.inl x4, .inr (.inl x3), .inl x2, .inl x1, .inr (.inl x0)] σ Q = WP m71 51 [.inr (.inl l0), .inr (.inl l1), .inl l2, .inl l3] [.inl (1), .inl x4, .inr (.inl x3), .inl x2, .inl x1, .inr (.inl x0)] σ Q := w_iconst d71_50 (by decide)
theorem d71_51 : adec m71 51 = some (.iadd, 1) := by decide +kernel
theorem s71_51 {l0 : Nat} {l1 : Nat} {l2 : Int} {l3 : Int} {x0 : Nat} {x1 : Int} {x2 : Int} {x3 : Nat} {x4 : Int} {x5 : Int} : WP m71 51 [.inr (.inl l0), .inr (.inl l1), .inl l2, .inl l3] [.inl x5, .inl x4, .inr (.inl x3), .inl x2, .inl x1, .inr (.inl x0)] σ Q = (inI (x4 + x5) ∧ WP m71 52 [.inr (.inl l0), .inr (.inl l1), .inl l2, .inl l3] [.inl (x4 + x5), .inr (.inl x3), .inl x2, .inl x1, .inr (.inl x0)] σ Q) := w_iadd d71_51
theorem d71_52 : adec m71 52 = some (.invokevirtual 31, 3) := by decide +kernel
theorem s71_52 {l0 : Nat} {l1 : Nat} {l2 : Int} {l3 : Int} {x0 : Nat} {x1 : Int} {x2 : Int} {x3 : Nat} {x4 : Int} : WP m71 52 [.inr (.inl l0), .inr (.inl l1), .inl l2, .inl l3] [.inl x4, .inr (.inl x3), .inl x2, .inl x1, .inr (.inl x0)] σ Q = (isO x3 3 ∧ CA m30 [.inr (.inl x3), .inl x4] σ (fun v σ2 => WP m71 55 [.inr (.inl l0), .inr (.inl l1), .inl l2, .inl l3] (v ++ [.inl x2, .inl x1, .inr (.inl x0)]) σ2 Q)) := w_cV (k := 30) d71_52 (by decide +kernel) m30_at rfl rfl ⟨Nat.le_of_ble_eq_true rfl, Nat.le_of_ble_eq_true rfl, Nat.le_of_ble_eq_true rfl⟩ (by decide)
theorem d71_55 : adec m71 55 = some (.aload_n 0, 1) := by decide +kernel
theorem s71_55 {l0 : Nat} {l1 : Nat} {l2 : Int} {l3 : Int} {x0 : Nat} {x1 : Int} {x2 : Int} {x3 : Int} : WP m71 55 [.inr (.inl l0), .inr (.inl l1), .inl l2, .inl l3] [.inl x3, .inl x2, .inl x1, .inr (.inl x0)] σ Q = WP m71 56 [.inr (.inl l0), .inr (.inl l1), .inl l2, .inl l3] [.inr (.inl l0), .inl x3, .inl x2, .inl x1, .inr (.inl x0)] σ Q := w_ld d71_55 rfl
theorem d71_56 : adec m71 56 = some (.getfield 20, 3) := by decide +kernel
theorem s71_56 {l0 : Nat} {l1 : Nat} {l2 : Int} {l3 : Int} {x0 : Nat} {x1 : Int} {x2 : Int} {x3 : Int} {x4 : Nat} : WP m71 56 [.inr (.inl l0), .inr (.inl l1), .inl l2, .inl l3] [.inr (.inl x4), .inl x3, .inl x2, .inl x1, .inr (.inl x0)] σ Q = ((isO x4 6 ∧ 0 ≤ PT x4 1) ∧ WP m71 59 [.inr (.inl l0), .inr (.inl l1), .inl l2, .inl l3] [.inr (.inl (pt x4 1)), .inl x3, .inl x2, .inl x1, .inr (.inl x0)] σ Q) := w_getR (c := 6) (n := 1) d71_56 (by decide +kernel) (by decide +kernel)
theorem d71_59 : adec m71 59 = some (.aload_n 0, 1) := by decide +kernel
theorem s71_59 {l0 : Nat} {l1 : Nat} {l2 : Int} {l3 : Int} {x0 : Nat} {x1 : Int} {x2 : Int} {x3 : Int} {x4 : Nat} : WP m71 59 [.inr (.inl l0), .inr (.inl l1), .inl l2, .inl l3] [.inr (.inl x4), .inl x3, .inl x2, .inl x1, .inr (.inl x0)] σ Q = WP m71 60 [.inr (.inl l0), .inr (.inl l1), .inl l2, .inl l3] [.inr (.inl l0), .inr (.inl x4), .inl x3, .inl x2, .inl x1, .inr (.inl x0)] σ Q := w_ld d71_59 rfl
theorem d71_60 : adec m71 60 = some (.iload_n 2, 1) := by decide +kernel
theorem s71_60 {l0 : Nat} {l1 : Nat} {l2 : Int} {l3 : Int} {x0 : Nat} {x1 : Int} {x2 : Int} {x3 : Int} {x4 : Nat} {x5 : Nat} : WP m71 60 [.inr (.inl l0), .inr (.inl l1), .inl l2, .inl l3] [.inr (.inl x5), .inr (.inl x4), .inl x3, .inl x2, .inl x1, .inr (.inl x0)] σ Q = WP m71 61 [.inr (.inl l0), .inr (.inl l1), .inl l2, .inl l3] [.inl l2, .inr (.inl x5), .inr (.inl x4), .inl x3, .inl x2, .inl x1, .inr (.inl x0)] σ Q := w_ld d71_60 rfl
theorem d71_61 : adec m71 61 = some (.iconst (1), 1) := by decide +kernel
theorem s71_61 {l0 : Nat} {l1 : Nat} {l2 : Int} {l3 : Int} {x0 : Nat} {x1 : Int} {x2 : Int} {x3 : Int} {x4 : Nat} {x5 : Nat} {x6 : Int} : WP m71 61 [.inr (.inl l0), .inr (.inl l1), .inl l2, .inl l3] [.inl x6, .inr (.inl x5), .inr (.inl x4), .inl x3, .inl x2, .inl x1, .inr (.inl x0)] σ Q = WP m71 62 [.inr (.inl l0), .inr (.inl l1), .inl l2, .inl l3] [.inl (1), .inl x6, .inr (.inl x5), .inr (.inl x4), .inl x3, .inl x2, .inl x1, .inr (.inl x0)] σ Q := w_iconst d71_61 (by decide)
theorem d71_62 : adec m71 62 = some (.iadd, 1) := by decide +kernel
theorem s71_62 {l0 : Nat} {l1 : Nat} {l2 : Int} {l3 : Int} {x0 : Nat} {x1 : Int} {x2 : Int} {x3 : Int} {x4 : Nat} {x5 : Nat} {x6 : Int} {x7 : Int} : WP m71 62 [.inr (.inl l0), .inr (.inl l1), .inl l2, .inl l3] [.inl x7, .inl x6, .inr (.inl x5), .inr (.inl x4), .inl x3, .inl x2, .inl x1, .inr (.inl x0)] σ Q = (inI (x6 + x7) ∧ WP m71 63 [.inr (.inl l0), .inr (.inl l1), .inl l2, .inl l3] [.inl (x6 + x7), .inr (.inl x5), .inr (.inl x4), .inl x3, .inl x2, .inl x1, .inr (.inl x0)] σ Q) := w_iadd d71_62
theorem d71_63 : adec m71 63 = some (.invokevirtual 35, 3) := by decide +kernel
theorem s71_63 {l0 : Nat} {l1 : Nat} {l2 : Int} {l3 : Int} {x0 : Nat} {x1 : Int} {x2 : Int} {x3 : Int} {x4 : Nat} {x5 : Nat} {x6 : Int} : WP m71 63 [.inr (.inl l0), .inr (.inl l1), .inl l2, .inl l3] [.inl x6, .inr (.inl x5), .inr (.inl x4), .inl x3, .inl x2, .inl x1, .inr (.inl x0)] σ Q = (isO x5 6 ∧ CA m68 [.inr (.inl x5), .inl x6] σ (fun v σ2 => WP m71 66 [.inr (.inl l0), .inr (.inl l1), .inl l2, .inl l3] (v ++ [.inr (.inl x4), .inl x3, .inl x2, .inl x1, .inr (.inl x0)]) σ2 Q)) := w_cV (k := 68) d71_63 (by decide +kernel) m68_at rfl rfl ⟨Nat.le_of_ble_eq_true rfl, Nat.le_of_ble_eq_true rfl, Nat.le_of_ble_eq_true rfl⟩ (by decide)
theorem d71_66 : adec m71 66 = some (.invokevirtual 31, 3) := by decide +kernel
theorem s71_66 {l0 : Nat} {l1 : Nat} {l2 : Int} {l3 : Int} {x0 : Nat} {x1 : Int} {x2 : Int} {x3 : Int} {x4 : Nat} {x5 : Int} : WP m71 66 [.inr (.inl l0), .inr (.inl l1), .inl l2, .inl l3] [.inl x5, .inr (.inl x4), .inl x3, .inl x2, .inl x1, .inr (.inl x0)] σ Q = (isO x4 3 ∧ CA m30 [.inr (.inl x4), .inl x5] σ (fun v σ2 => WP m71 69 [.inr (.inl l0), .inr (.inl l1), .inl l2, .inl l3] (v ++ [.inl x3, .inl x2, .inl x1, .inr (.inl x0)]) σ2 Q)) := w_cV (k := 30) d71_66 (by decide +kernel) m30_at rfl rfl ⟨Nat.le_of_ble_eq_true rfl, Nat.le_of_ble_eq_true rfl, Nat.le_of_ble_eq_true rfl⟩ (by decide)
theorem d71_69 : adec m71 69 = some (.invokestatic 59, 3) := by decide +kernel
theorem s71_69 {l0 : Nat} {l1 : Nat} {l2 : Int} {l3 : Int} {x0 : Nat} {x1 : Int} {x2 : Int} {x3 : Int} {x4 : Int} : WP m71 69 [.inr (.inl l0), .inr (.inl l1), .inl l2, .inl l3] [.inl x4, .inl x3, .inl x2, .inl x1, .inr (.inl x0)] σ Q = WP m71 72 [.inr (.inl l0), .inr (.inl l1), .inl l2, .inl l3] [.inl (max x3 x4), .inl x2, .inl x1, .inr (.inl x0)] σ Q := w_max d71_69 (by decide +kernel) ⟨Nat.le_of_ble_eq_true rfl, Nat.le_of_ble_eq_true rfl⟩
theorem d71_72 : adec m71 72 = some (.iadd, 1) := by decide +kernel
theorem s71_72 {l0 : Nat} {l1 : Nat} {l2 : Int} {l3 : Int} {x0 : Nat} {x1 : Int} {x2 : Int} {x3 : Int} : WP m71 72 [.inr (.inl l0), .inr (.inl l1), .inl l2, .inl l3] [.inl x3, .inl x2, .inl x1, .inr (.inl x0)] σ Q = (inI (x2 + x3) ∧ WP m71 73 [.inr (.inl l0), .inr (.inl l1), .inl l2, .inl l3] [.inl (x2 + x3), .inl x1, .inr (.inl x0)] σ Q) := w_iadd d71_72
theorem d71_73 : adec m71 73 = some (.invokevirtual 38, 3) := by decide +kernel
theorem s71_73 {l0 : Nat} {l1 : Nat} {l2 : Int} {l3 : Int} {x0 : Nat} {x1 : Int} {x2 : Int} : WP m71 73 [.inr (.inl l0), .inr (.inl l1), .inl l2, .inl l3] [.inl x2, .inl x1, .inr (.inl x0)] σ Q = (isO x0 3 ∧ CA m33 [.inr (.inl x0), .inl x1, .inl x2] σ (fun v σ2 => WP m71 76 [.inr (.inl l0), .inr (.inl l1), .inl l2, .inl l3] (v ++ []) σ2 Q)) := w_cV (k := 33) d71_73 (by decide +kernel) m33_at rfl rfl ⟨Nat.le_of_ble_eq_true rfl, Nat.le_of_ble_eq_true rfl, Nat.le_of_ble_eq_true rfl⟩ (by decide)
theorem d71_76 : adec m71 76 = some (.goto (30), 3) := by decide +kernel
theorem s71_76 {l0 : Nat} {l1 : Nat} {l2 : Int} {l3 : Int} : WP m71 76 [.inr (.inl l0), .inr (.inl l1), .inl l2, .inl l3] [] σ Q = WP m71 106 [.inr (.inl l0), .inr (.inl l1), .inl l2, .inl l3] [] σ Q := w_goto d71_76 (by decide)
theorem d71_79 : adec m71 79 = some (.iload_n 3, 1) := by decide +kernel
theorem s71_79 {l0 : Nat} {l1 : Nat} {l2 : Int} {l3 : Int} : WP m71 79 [.inr (.inl l0), .inr (.inl l1), .inl l2, .inl l3] [] σ Q = WP m71 80 [.inr (.inl l0), .inr (.inl l1), .inl l2, .inl l3] [.inl l3] σ Q := w_ld d71_79 rfl
theorem d71_80 : adec m71 80 = some (.invokestatic 41, 3) := by decide +kernel
theorem s71_80 {l0 : Nat} {l1 : Nat} {l2 : Int} {l3 : Int} {x0 : Int} : WP m71 80 [.inr (.inl l0), .inr (.inl l1), .inl l2, .inl l3] [.inl x0] σ Q = CA m117 [.inl x0] σ (fun v σ2 => WP m71 83 [.inr (.inl l0), .inr (.inl l1), .inl l2, .inl l3] (v ++ []) σ2 Q) := w_cS (k := 117) d71_80 (by decide +kernel) (md := 2) (by decide +kernel) m117_at rfl rfl ⟨Nat.le_of_ble_eq_true rfl, Nat.le_of_ble_eq_true rfl, Nat.le_of_ble_eq_true rfl⟩ (by decide)
theorem d71_83 : adec m71 83 = some (.ifCond .eq (23), 3) := by decide +kernel
theorem s71_83 {l0 : Nat} {l1 : Nat} {l2 : Int} {l3 : Int} {x0 : Int} : WP m71 83 [.inr (.inl l0), .inr (.inl l1), .inl l2, .inl l3] [.inl x0] σ Q = (if x0 = 0 then WP m71 106 [.inr (.inl l0), .inr (.inl l1), .inl l2, .inl l3] [] σ Q else WP m71 86 [.inr (.inl l0), .inr (.inl l1), .inl l2, .inl l3] [] σ Q) := w_ifeq d71_83 (by decide)
theorem d71_86 : adec m71 86 = some (.aload_n 0, 1) := by decide +kernel
theorem s71_86 {l0 : Nat} {l1 : Nat} {l2 : Int} {l3 : Int} : WP m71 86 [.inr (.inl l0), .inr (.inl l1), .inl l2, .inl l3] [] σ Q = WP m71 87 [.inr (.inl l0), .inr (.inl l1), .inl l2, .inl l3] [.inr (.inl l0)] σ Q := w_ld d71_86 rfl
theorem d71_87 : adec m71 87 = some (.getfield 20, 3) := by decide +kernel
theorem s71_87 {l0 : Nat} {l1 : Nat} {l2 : Int} {l3 : Int} {x0 : Nat} : WP m71 87 [.inr (.inl l0), .inr (.inl l1), .inl l2, .inl l3] [.inr (.inl x0)] σ Q = ((isO x0 6 ∧ 0 ≤ PT x0 1) ∧ WP m71 90 [.inr (.inl l0), .inr (.inl l1), .inl l2, .inl l3] [.inr (.inl (pt x0 1))] σ Q) := w_getR (c := 6) (n := 1) d71_87 (by decide +kernel) (by decide +kernel)
theorem d71_90 : adec m71 90 = some (.iload_n 2, 1) := by decide +kernel
theorem s71_90 {l0 : Nat} {l1 : Nat} {l2 : Int} {l3 : Int} {x0 : Nat} : WP m71 90 [.inr (.inl l0), .inr (.inl l1), .inl l2, .inl l3] [.inr (.inl x0)] σ Q = WP m71 91 [.inr (.inl l0), .inr (.inl l1), .inl l2, .inl l3] [.inl l2, .inr (.inl x0)] σ Q := w_ld d71_90 rfl
theorem d71_91 : adec m71 91 = some (.iconst (1), 1) := by decide +kernel
theorem s71_91 {l0 : Nat} {l1 : Nat} {l2 : Int} {l3 : Int} {x0 : Nat} {x1 : Int} : WP m71 91 [.inr (.inl l0), .inr (.inl l1), .inl l2, .inl l3] [.inl x1, .inr (.inl x0)] σ Q = WP m71 92 [.inr (.inl l0), .inr (.inl l1), .inl l2, .inl l3] [.inl (1), .inl x1, .inr (.inl x0)] σ Q := w_iconst d71_91 (by decide)
theorem d71_92 : adec m71 92 = some (.aload_n 0, 1) := by decide +kernel
theorem s71_92 {l0 : Nat} {l1 : Nat} {l2 : Int} {l3 : Int} {x0 : Nat} {x1 : Int} {x2 : Int} : WP m71 92 [.inr (.inl l0), .inr (.inl l1), .inl l2, .inl l3] [.inl x2, .inl x1, .inr (.inl x0)] σ Q = WP m71 93 [.inr (.inl l0), .inr (.inl l1), .inl l2, .inl l3] [.inr (.inl l0), .inl x2, .inl x1, .inr (.inl x0)] σ Q := w_ld d71_92 rfl
theorem d71_93 : adec m71 93 = some (.getfield 20, 3) := by decide +kernel
theorem s71_93 {l0 : Nat} {l1 : Nat} {l2 : Int} {l3 : Int} {x0 : Nat} {x1 : Int} {x2 : Int} {x3 : Nat} : WP m71 93 [.inr (.inl l0), .inr (.inl l1), .inl l2, .inl l3] [.inr (.inl x3), .inl x2, .inl x1, .inr (.inl x0)] σ Q = ((isO x3 6 ∧ 0 ≤ PT x3 1) ∧ WP m71 96 [.inr (.inl l0), .inr (.inl l1), .inl l2, .inl l3] [.inr (.inl (pt x3 1)), .inl x2, .inl x1, .inr (.inl x0)] σ Q) := w_getR (c := 6) (n := 1) d71_93 (by decide +kernel) (by decide +kernel)
theorem d71_96 : adec m71 96 = some (.iload_n 2, 1) := by decide +kernel
theorem s71_96 {l0 : Nat} {l1 : Nat} {l2 : Int} {l3 : Int} {x0 : Nat} {x1 : Int} {x2 : Int} {x3 : Nat} : WP m71 96 [.inr (.inl l0), .inr (.inl l1), .inl l2, .inl l3] [.inr (.inl x3), .inl x2, .inl x1, .inr (.inl x0)] σ Q = WP m71 97 [.inr (.inl l0), .inr (.inl l1), .inl l2, .inl l3] [.inl l2, .inr (.inl x3), .inl x2, .inl x1, .inr (.inl x0)] σ Q := w_ld d71_96 rfl
theorem d71_97 : adec m71 97 = some (.iconst (1), 1) := by decide +kernel
theorem s71_97 {l0 : Nat} {l1 : Nat} {l2 : Int} {l3 : Int} {x0 : Nat} {x1 : Int} {x2 : Int} {x3 : Nat} {x4 : Int} : WP m71 97 [.inr (.inl l0), .inr (.inl l1), .inl l2, .inl l3] [.inl x4, .inr (.inl x3), .inl x2, .inl x1, .inr (.inl x0)] σ Q = WP m71 98 [.inr (.inl l0), .inr (.inl l1), .inl l2, .inl l3] [.inl (1), .inl x4, .inr (.inl x3), .inl x2, .inl x1, .inr (.inl x0)] σ Q := w_iconst d71_97 (by decide)
theorem d71_98 : adec m71 98 = some (.iadd, 1) := by decide +kernel
theorem s71_98 {l0 : Nat} {l1 : Nat} {l2 : Int} {l3 : Int} {x0 : Nat} {x1 : Int} {x2 : Int} {x3 : Nat} {x4 : Int} {x5 : Int} : WP m71 98 [.inr (.inl l0), .inr (.inl l1), .inl l2, .inl l3] [.inl x5, .inl x4, .inr (.inl x3), .inl x2, .inl x1, .inr (.inl x0)] σ Q = (inI (x4 + x5) ∧ WP m71 99 [.inr (.inl l0), .inr (.inl l1), .inl l2, .inl l3] [.inl (x4 + x5), .inr (.inl x3), .inl x2, .inl x1, .inr (.inl x0)] σ Q) := w_iadd d71_98
theorem d71_99 : adec m71 99 = some (.invokevirtual 31, 3) := by decide +kernel
theorem s71_99 {l0 : Nat} {l1 : Nat} {l2 : Int} {l3 : Int} {x0 : Nat} {x1 : Int} {x2 : Int} {x3 : Nat} {x4 : Int} : WP m71 99 [.inr (.inl l0), .inr (.inl l1), .inl l2, .inl l3] [.inl x4, .inr (.inl x3), .inl x2, .inl x1, .inr (.inl x0)] σ Q = (isO x3 3 ∧ CA m30 [.inr (.inl x3), .inl x4] σ (fun v σ2 => WP m71 102 [.inr (.inl l0), .inr (.inl l1), .inl l2, .inl l3] (v ++ [.inl x2, .inl x1, .inr (.inl x0)]) σ2 Q)) := w_cV (k := 30) d71_99 (by decide +kernel) m30_at rfl rfl ⟨Nat.le_of_ble_eq_true rfl, Nat.le_of_ble_eq_true rfl, Nat.le_of_ble_eq_true rfl⟩ (by decide)
theorem d71_102 : adec m71 102 = some (.iadd, 1) := by decide +kernel
theorem s71_102 {l0 : Nat} {l1 : Nat} {l2 : Int} {l3 : Int} {x0 : Nat} {x1 : Int} {x2 : Int} {x3 : Int} : WP m71 102 [.inr (.inl l0), .inr (.inl l1), .inl l2, .inl l3] [.inl x3, .inl x2, .inl x1, .inr (.inl x0)] σ Q = (inI (x2 + x3) ∧ WP m71 103 [.inr (.inl l0), .inr (.inl l1), .inl l2, .inl l3] [.inl (x2 + x3), .inl x1, .inr (.inl x0)] σ Q) := w_iadd d71_102
theorem d71_103 : adec m71 103 = some (.invokevirtual 38, 3) := by decide +kernel
theorem s71_103 {l0 : Nat} {l1 : Nat} {l2 : Int} {l3 : Int} {x0 : Nat} {x1 : Int} {x2 : Int} : WP m71 103 [.inr (.inl l0), .inr (.inl l1), .inl l2, .inl l3] [.inl x2, .inl x1, .inr (.inl x0)] σ Q = (isO x0 3 ∧ CA m33 [.inr (.inl x0), .inl x1, .inl x2] σ (fun v σ2 => WP m71 106 [.inr (.inl l0), .inr (.inl l1), .inl l2, .inl l3] (v ++ []) σ2 Q)) := w_cV (k := 33) d71_103 (by decide +kernel) m33_at rfl rfl ⟨Nat.le_of_ble_eq_true rfl, Nat.le_of_ble_eq_true rfl, Nat.le_of_ble_eq_true rfl⟩ (by decide)
theorem d71_106 : adec m71 106 = some (.iinc 2 (-1), 3) := by decide +kernel
theorem s71_106 {l0 : Nat} {l1 : Nat} {l2 : Int} {l3 : Int} : WP m71 106 [.inr (.inl l0), .inr (.inl l1), .inl l2, .inl l3] [] σ Q = (inI (l2 + (-1)) ∧ WP m71 109 [.inr (.inl l0), .inr (.inl l1), .inl (l2 + (-1)), .inl l3] [] σ Q) := w_iinc d71_106 rfl rfl
theorem d71_109 : adec m71 109 = some (.goto (-85), 3) := by decide +kernel
theorem s71_109 {l0 : Nat} {l1 : Nat} {l2 : Int} {l3 : Int} : WP m71 109 [.inr (.inl l0), .inr (.inl l1), .inl l2, .inl l3] [] σ Q = WP m71 24 [.inr (.inl l0), .inr (.inl l1), .inl l2, .inl l3] [] σ Q := w_goto d71_109 (by decide)
theorem d71_112 : adec m71 112 = some (.aload_n 0, 1) := by decide +kernel
theorem s71_112 {l0 : Nat} {l1 : Nat} {l2 : Int} {l3 : AV} : WP m71 112 [.inr (.inl l0), .inr (.inl l1), .inl l2, l3] [] σ Q = WP m71 113 [.inr (.inl l0), .inr (.inl l1), .inl l2, l3] [.inr (.inl l0)] σ Q := w_ld d71_112 rfl
theorem d71_113 : adec m71 113 = some (.getfield 20, 3) := by decide +kernel
theorem s71_113 {l0 : Nat} {l1 : Nat} {l2 : Int} {l3 : AV} {x0 : Nat} : WP m71 113 [.inr (.inl l0), .inr (.inl l1), .inl l2, l3] [.inr (.inl x0)] σ Q = ((isO x0 6 ∧ 0 ≤ PT x0 1) ∧ WP m71 116 [.inr (.inl l0), .inr (.inl l1), .inl l2, l3] [.inr (.inl (pt x0 1))] σ Q) := w_getR (c := 6) (n := 1) d71_113 (by decide +kernel) (by decide +kernel)
theorem d71_116 : adec m71 116 = some (.iconst (0), 1) := by decide +kernel
theorem s71_116 {l0 : Nat} {l1 : Nat} {l2 : Int} {l3 : AV} {x0 : Nat} : WP m71 116 [.inr (.inl l0), .inr (.inl l1), .inl l2, l3] [.inr (.inl x0)] σ Q = WP m71 117 [.inr (.inl l0), .inr (.inl l1), .inl l2, l3] [.inl (0), .inr (.inl x0)] σ Q := w_iconst d71_116 (by decide)
theorem d71_117 : adec m71 117 = some (.invokevirtual 31, 3) := by decide +kernel
theorem s71_117 {l0 : Nat} {l1 : Nat} {l2 : Int} {l3 : AV} {x0 : Nat} {x1 : Int} : WP m71 117 [.inr (.inl l0), .inr (.inl l1), .inl l2, l3] [.inl x1, .inr (.inl x0)] σ Q = (isO x0 3 ∧ CA m30 [.inr (.inl x0), .inl x1] σ (fun v σ2 => WP m71 120 [.inr (.inl l0), .inr (.inl l1), .inl l2, l3] (v ++ []) σ2 Q)) := w_cV (k := 30) d71_117 (by decide +kernel) m30_at rfl rfl ⟨Nat.le_of_ble_eq_true rfl, Nat.le_of_ble_eq_true rfl, Nat.le_of_ble_eq_true rfl⟩ (by decide)
theorem d71_120 : adec m71 120 = some (.ireturn, 1) := by decide +kernel
theorem s71_120 {l0 : Nat} {l1 : Nat} {l2 : Int} {l3 : AV} {x0 : Int} : WP m71 120 [.inr (.inl l0), .inr (.inl l1), .inl l2, l3] [.inl x0] σ Q = Q [.inl x0] σ := w_ri d71_120 rfl
theorem e71 {p0 : Nat} {p1 : Nat} : CA m71 [.inr (.inl p0), .inr (.inl p1)] σ Q = WP m71 0 [.inr (.inl p0), .inr (.inl p1), vU, vU] [] σ Q := rfl
end
