/-! the law: its loop -/
section LWL
variable {p : Program} {l : Launch} {e : Env} {s : State} {m : MethodId} {below : List Frame} {meth : Method} {c : Code} {b L : Nat} {xs : Nat → Int32} {D : va_G}
theorem lw_step {I : Nat} {H : Heap} {locs : List Loc} {ad : Nat → Nat} {ca : Nat → ClassId} {tys : List (ClassId × FieldType)} {σ : aSg} {S : SS} {ls : Array Slot} {Q : State → Prop} (C0 : lw_At p s m meth c b L xs) (hAmb : Amb (fun q => s.heap.size ≤ q) s s.heap) (hL : L ≤ 2048) (hI : I + 4 ≤ L) (hW : Wd D (fun q => s.heap.size ≤ q) s H locs ad ca tys SH (mkM σ)) (hC : RepC σ S) (hM : RepM σ S) (hl : lv_has ls 4 [(3, .int (Int32.ofInt (I : Int))), (2, .ref (ad 130)), (1, .ref (ad 0)), (0, .ref b)]) (next : lw_Nx p l e s m below meth c b Q D ad ls) (x : Int32) : W p l e room_1 s m #[Value.ref b] below meth c H locs 154 (ssz SH) Q (F0 m 32 ls [.int x]) := by
  obtain ⟨hx, hb, hr, hml, hown, hts0, hX, hbl, hlocks, hgv⟩ := id C0
  by_cases g : x.toInt < 0 ∨ 19 < x.toInt
  · refine lv_tableOut (tgt := 718) hx hb dL_32 g (by decide) ?_
    exact next σ S H locs ad ca tys hW hC hM rfl rfl
  · obtain ⟨k, hk⟩ : ∃ k : Nat, x.toInt = (k : Int) := ⟨x.toInt.toNat, by omega⟩
    have hk2 : k < 20 := by omega
    have z1 : ¬ x.toInt < 0 := by omega
    have z2 : ¬ (19 : Int) < x.toInt := by omega
    match k, hk, hk2 with
    | 0, hk, _ =>
      refine lv_tableIn (tgt := 128) (off := 96) hx hb dL_32 z1 z2 (by rw [hk]; rfl) (by decide) ?_
      exact lwc_0 C0 hAmb hL hI hW hC hM hl next
    | 1, hk, _ =>
      refine lv_tableIn (tgt := 151) (off := 119) hx hb dL_32 z1 z2 (by rw [hk]; rfl) (by decide) ?_
      exact lwc_1 C0 hAmb hL hI hW hC hM hl next
    | 2, hk, _ =>
      refine lv_tableIn (tgt := 174) (off := 142) hx hb dL_32 z1 z2 (by rw [hk]; rfl) (by decide) ?_
      exact lwc_2 C0 hAmb hL hI hW hC hM hl next
    | 3, hk, _ =>
      refine lv_tableIn (tgt := 187) (off := 155) hx hb dL_32 z1 z2 (by rw [hk]; rfl) (by decide) ?_
      exact lwc_3 C0 hAmb hL hI hW hC hM hl next
    | 4, hk, _ =>
      refine lv_tableIn (tgt := 210) (off := 178) hx hb dL_32 z1 z2 (by rw [hk]; rfl) (by decide) ?_
      exact lwc_4 C0 hAmb hL hI hW hC hM hl next
    | 5, hk, _ =>
      refine lv_tableIn (tgt := 243) (off := 211) hx hb dL_32 z1 z2 (by rw [hk]; rfl) (by decide) ?_
      exact lwc_5 C0 hAmb hL hI hW hC hM hl next
    | 6, hk, _ =>
      refine lv_tableIn (tgt := 286) (off := 254) hx hb dL_32 z1 z2 (by rw [hk]; rfl) (by decide) ?_
      exact lwc_6 C0 hAmb hL hI hW hC hM hl next
    | 7, hk, _ =>
      refine lv_tableIn (tgt := 329) (off := 297) hx hb dL_32 z1 z2 (by rw [hk]; rfl) (by decide) ?_
      exact lwc_7 C0 hAmb hL hI hW hC hM hl next
    | 8, hk, _ =>
      refine lv_tableIn (tgt := 372) (off := 340) hx hb dL_32 z1 z2 (by rw [hk]; rfl) (by decide) ?_
      exact lwc_8 C0 hAmb hL hI hW hC hM hl next
    | 9, hk, _ =>
      refine lv_tableIn (tgt := 395) (off := 363) hx hb dL_32 z1 z2 (by rw [hk]; rfl) (by decide) ?_
      exact lwc_9 C0 hAmb hL hI hW hC hM hl next
    | 10, hk, _ =>
      refine lv_tableIn (tgt := 438) (off := 406) hx hb dL_32 z1 z2 (by rw [hk]; rfl) (by decide) ?_
      exact lwc_10 C0 hAmb hL hI hW hC hM hl next
    | 11, hk, _ =>
      refine lv_tableIn (tgt := 451) (off := 419) hx hb dL_32 z1 z2 (by rw [hk]; rfl) (by decide) ?_
      exact lwc_11 C0 hAmb hL hI hW hC hM hl next
    | 12, hk, _ =>
      refine lv_tableIn (tgt := 474) (off := 442) hx hb dL_32 z1 z2 (by rw [hk]; rfl) (by decide) ?_
      exact lwc_12 C0 hAmb hL hI hW hC hM hl next
    | 13, hk, _ =>
      refine lv_tableIn (tgt := 507) (off := 475) hx hb dL_32 z1 z2 (by rw [hk]; rfl) (by decide) ?_
      exact lwc_13 C0 hAmb hL hI hW hC hM hl next
    | 14, hk, _ =>
      refine lv_tableIn (tgt := 540) (off := 508) hx hb dL_32 z1 z2 (by rw [hk]; rfl) (by decide) ?_
      exact lwc_14 C0 hAmb hL hI hW hC hM hl next
    | 15, hk, _ =>
      refine lv_tableIn (tgt := 573) (off := 541) hx hb dL_32 z1 z2 (by rw [hk]; rfl) (by decide) ?_
      exact lwc_15 C0 hAmb hL hI hW hC hM hl next
    | 16, hk, _ =>
      refine lv_tableIn (tgt := 606) (off := 574) hx hb dL_32 z1 z2 (by rw [hk]; rfl) (by decide) ?_
      exact lwc_16 C0 hAmb hL hI hW hC hM hl next
    | 17, hk, _ =>
      refine lv_tableIn (tgt := 639) (off := 607) hx hb dL_32 z1 z2 (by rw [hk]; rfl) (by decide) ?_
      exact lwc_17 C0 hAmb hL hI hW hC hM hl next
    | 18, hk, _ =>
      refine lv_tableIn (tgt := 672) (off := 640) hx hb dL_32 z1 z2 (by rw [hk]; rfl) (by decide) ?_
      exact lwc_18 C0 hAmb hL hI hW hC hM hl next
    | 19, hk, _ =>
      refine lv_tableIn (tgt := 695) (off := 663) hx hb dL_32 z1 z2 (by rw [hk]; rfl) (by decide) ?_
      exact lwc_19 C0 hAmb hL hI hW hC hM hl next
    | k + 20, _, hk2 => omega
theorem lw_loop (C0 : lw_At p s m meth c b L xs) (hAmb : Amb (fun q => s.heap.size ≤ q) s s.heap) (hL : L ≤ 2048) : ∀ (n I : Nat) (H : Heap) (locs : List Loc) (ad : Nat → Nat) (ca : Nat → ClassId) (tys : List (ClassId × FieldType)) (σ : aSg) (S : SS) (ls : Array Slot), L < I + 4 + 4 * n → I ≤ 2048 → Wd D (fun q => s.heap.size ≤ q) s H locs ad ca tys SH (mkM σ) → RepC σ S → RepM σ S → lv_has ls 4 [(3, .int (Int32.ofInt (I : Int))), (2, .ref (ad 130)), (1, .ref (ad 0)), (0, .ref b)] → W p l e room_1 s m #[Value.ref b] below meth c H locs 154 (ssz SH) (lw_Z below #[Value.ref b] s) (F0 m 18 ls []) := by
  obtain ⟨hx, hb, hr, hml, hown, hts0, hX, hbl, hlocks, hgv⟩ := id C0
  have hbA : ¬ (fun q : Nat => s.heap.size ≤ q) b := Nat.not_le.mpr hbl
  intro n
  induction n with
  | zero =>
    intro I H locs ad ca tys σ S ls hn hI hW hC hM hl
    refine lv_iload_n hx hb dL_18 rfl (lv_at hl 0 rfl) ?_
    refine lv_aload_n hx hb dL_19 rfl (lv_at hl 3 rfl) ?_
    refine va_slen hx hb hX hbl hbA hW.2.2.2.1 dL_20 ?_
    refine lv_iconst (v := Int32.ofInt 4) hx hb dL_21 rfl ?_
    refine lv_isub hx hb dL_22 ?_
    have e1 : Int32.ofNat L - Int32.ofInt 4 = Int32.ofInt ((L : Int) - 4) := by
      rw [show Int32.ofNat L = Int32.ofInt (L : Int) from (Int32.ofInt_eq_ofNat).symm, ← Int32.ofInt_sub]
    rw [e1]
    refine lv_icmp_gt (tgt := 724) hx hb dL_23 (by decide) (fun q => ?_) (fun q => ?_)
    · refine lv_iconst (v := 1) hx hb dL_724 (by decide) ?_
      refine va_forget (fun q hq => hW.2.2.2.1.2.2 q hq) ?_
      refine W.widen (k := 600000) (n := 7302250) (by omega) sz_ok ?_
      exact lw_ret hx hb hr hlocks dL_725
    · exfalso
      rw [o32_lt (⟨by omega, by omega⟩) (⟨by omega, by omega⟩)] at q
      omega
  | succ n ih =>
    intro I H locs ad ca tys σ S ls hn hI hW hC hM hl
    refine lv_iload_n hx hb dL_18 rfl (lv_at hl 0 rfl) ?_
    refine lv_aload_n hx hb dL_19 rfl (lv_at hl 3 rfl) ?_
    refine va_slen hx hb hX hbl hbA hW.2.2.2.1 dL_20 ?_
    refine lv_iconst (v := Int32.ofInt 4) hx hb dL_21 rfl ?_
    refine lv_isub hx hb dL_22 ?_
    have e1 : Int32.ofNat L - Int32.ofInt 4 = Int32.ofInt ((L : Int) - 4) := by
      rw [show Int32.ofNat L = Int32.ofInt (L : Int) from (Int32.ofInt_eq_ofNat).symm, ← Int32.ofInt_sub]
    rw [e1]
    refine lv_icmp_gt (tgt := 724) hx hb dL_23 (by decide) (fun q => ?_) (fun q => ?_)
    · refine lv_iconst (v := 1) hx hb dL_724 (by decide) ?_
      refine va_forget (fun q hq => hW.2.2.2.1.2.2 q hq) ?_
      refine W.widen (k := 600000) (n := 7302250) (by omega) sz_ok ?_
      exact lw_ret hx hb hr hlocks dL_725
    · rw [o32_lt (⟨by omega, by omega⟩) (⟨by omega, by omega⟩)] at q
      have hI4 : I + 4 ≤ L := by omega
      refine lv_aload_n hx hb dL_26 rfl (lv_at hl 3 rfl) ?_
      refine lv_iload_n hx hb dL_27 rfl (lv_at hl 0 rfl) ?_
      obtain ⟨v1, v2⟩ := vin (i := (I : Int)) (n := L) (by omega) (by omega) (by omega)
      refine va_sld hx hb hX hbl hbA hW.2.2.2.1 v1 dL_28 ?_
      refine lv_bipush (v := 31) hx hb dL_29 (by decide) ?_
      refine lv_iand hx hb dL_31 ?_
      refine lw_step C0 hAmb hL hI4 hW hC hM hl (fun σ' S' H' locs' ad' ca' tys' hW' hC' hM' a0 a130 => ?_) _
      have ei : Int32.ofInt (I : Int) + Int32.ofInt 4 = Int32.ofInt ((I + 4 : Nat) : Int) := by
        rw [← Int32.ofInt_add]; congr 1
      refine lv_iinc (k := 0) (lv' := [(3, .int (Int32.ofInt ((I + 4 : Nat) : Int))), (2, .ref (ad 130)), (1, .ref (ad 0)), (0, .ref b)]) hx hb dL_718 hl rfl ei (by decide) rfl (fun ls' hl' => ?_)
      refine lv_goto (tgt := 18) hx hb dL_721 (by decide) ?_
      exact ih (I + 4) H' locs' ad' ca' tys' σ' S' ls' (by omega) (by omega) hW' hC' hM' (by rw [a0, a130]; exact hl')
end LWL
