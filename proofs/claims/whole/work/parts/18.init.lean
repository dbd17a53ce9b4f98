set_option maxHeartbeats 4000000 in
set_option maxRecDepth 100000 in
theorem c_init (l : Launch) (dC : Nat → ClassId) (dI : Nat → Nat → Nat) (h : Nat) (sz : Nat) : Met l yX0_init wsX0_init ({ frames := 1, cells := 6, slots := 5980, locals := 12 }) (kPre (dC, dI) vwCl ([(h, .inr (0, [.null, .int 0, .null, .int 0, .null, .null, .int 0, .null, .null]))]) [] sz [.ref h]) (kQc (dC, dI) vwCl ([(h, .inr (0, [.null, .int 0, .null, .int 0, .null, .null, .int 0, .null, .null]))]) sz (fun u : Nat × Nat × Nat × Nat × Nat × Nat × ClassId × ClassId => wB h u.1 u.2.1 u.2.2.1 u.2.2.2.1 u.2.2.2.2.1 u.2.2.2.2.2.1 u.2.2.2.2.2.2.1 u.2.2.2.2.2.2.2 (fun _ => 0) 0 (iniV 80) 0 (fun _ => 0) (fun _ => 0) 0 (fun _ => 0) (fun _ => 0)) (fun u => tB u.2.2.2.2.2.2.1 u.2.2.2.2.2.2.2)) 6 5980 (va_A ([(h, .inr (0, [.null, .int 0, .null, .int 0, .null, .null, .int 0, .null, .null]))]) sz) := by
  refine kM_c (cc := cX0_init) (maxL := 2) (by decide) rfl rfl (Nat.le_of_ble_eq_true rfl) ?_
  intro p e s m below meth c A Q ls H locs S hin hP hK hD hS hA hl hret
  obtain ⟨hx, hb, hml, hown, hts⟩ := id S
  have hin0 : ∀ w ∈ u_ws RX0 TX0 9, w ∈ wsX0_init := fun _ h => List.mem_cons_of_mem _ (List.mem_append_right _ h)
  have lkf9 := hts (.fieldLink RX0 9 "BlockTape" "tape" "[B") (by decide +kernel)
  have lkf13 := hts (.fieldLink RX0 13 "BlockTape" "volume" "[B") (by decide +kernel)
  have lkf16 := hts (.fieldLink RX0 16 "BlockTape" "rowPlace" "[I") (by decide +kernel)
  have lkf20 := hts (.fieldLink RX0 20 "BlockTape" "rowLength" "[I") (by decide +kernel)
  have lkf23 := hts (.fieldLink RX0 23 "BlockTape" "spoiltBy" "[I") (by decide +kernel)
  have lkf26 := hts (.fieldLink RX0 26 "BlockTape" "spoiltAt" "[I") (by decide +kernel)
  have hl : lv_has ls 2 [(0, .ref h)] := hl
  refine lv_aload_n hx hb dX0_init_0 rfl (lv_at hl 0 rfl) ?_
  refine W.objInit hx hb hown (hts (.methodLink RX0 3 objectInit) (by decide +kernel)) (hts (.instanceMethod objectInit) (by decide +kernel)) (hts _ (List.mem_of_getElem? (i := 3) rfl)) rfl (by rw [hml]; exact hl.1) rfl dX0_init_1 (Nat.le_of_ble_eq_true rfl) (Nat.le_of_ble_eq_true rfl) ?_
  refine W.eq (g2 := F0 m 4 ls []) rfl ?_
  refine lv_aload_n hx hb dX0_init_4 rfl (lv_at hl 0 rfl) ?_
  refine lv_sipush (v := nI 300) hx hb dX0_init_5 (by decide) ?_
  refine va_newa (atype := .byte) (ty := .byte) (N' := 300) (a0 := (300, .inl (fun _ => 0))) (n := nI 300) hx hb (hts (.arrayClass .byte) (by decide +kernel)) rfl hK hP hD hS hA (fun _ => rfl) (nI_pos (by decide)) (nI_clamp (by decide)) (Nat.le_of_ble_eq_true rfl) (Nat.le_of_ble_eq_true rfl) (Nat.le_of_ble_eq_true rfl) dX0_init_8 (fun a1 c1 H hK hP hD hS => ?_)
  refine W.widen (k := 1) (n := 300) (Nat.le_of_ble_eq_true rfl) (Nat.le_of_ble_eq_true rfl) ?_
  have hP : va_P (dC, dI) vwCl ([(h, .inr (0, [.null, .int 0, .null, .int 0, .null, .null, .int 0, .null, .null])), (a1, .inl (c1, 300, .inl (fun _ => 0)))]) H := hP
  have hD : va_D A ([(h, .inr (0, [.null, .int 0, .null, .int 0, .null, .null, .int 0, .null, .null])), (a1, .inl (c1, 300, .inl (fun _ => 0)))]) := hD
  refine va_putF (D := (dC, dI)) (ci := 0) (v := .ref a1) (ty := .array .byte) (C := RX0) (T := TX0) (N := 9) hx hb hts hin0 tyX0 tyX0_ok nmX0 hown hK hP hD hS 0 rfl rfl 0 (by decide) lkf9 (fun _ h9 => h9) rfl hin rfl (by decide +kernel) rfl rfl (Nat.le_of_ble_eq_true rfl) dX0_init_10 (fun H locs hP hD hS => ?_)
  have hP : va_P (dC, dI) vwCl ([(h, .inr (0, [.ref a1, .int 0, .null, .int 0, .null, .null, .int 0, .null, .null])), (a1, .inl (c1, 300, .inl (fun _ => 0)))]) H := hP
  have hD : va_D A ([(h, .inr (0, [.ref a1, .int 0, .null, .int 0, .null, .null, .int 0, .null, .null])), (a1, .inl (c1, 300, .inl (fun _ => 0)))]) := hD
  refine lv_aload_n hx hb dX0_init_13 rfl (lv_at hl 0 rfl) ?_
  refine lv_sipush (v := nI 5120) hx hb dX0_init_14 (by decide) ?_
  refine va_newa (atype := .byte) (ty := .byte) (N' := 5120) (a0 := (5120, .inl (fun _ => 0))) (n := nI 5120) hx hb (hts (.arrayClass .byte) (by decide +kernel)) rfl hK hP hD hS hA (fun _ => rfl) (nI_pos (by decide)) (nI_clamp (by decide)) (Nat.le_of_ble_eq_true rfl) (Nat.le_of_ble_eq_true rfl) (Nat.le_of_ble_eq_true rfl) dX0_init_17 (fun a2 c2 H hK hP hD hS => ?_)
  refine W.widen (k := 2) (n := 5420) (Nat.le_of_ble_eq_true rfl) (Nat.le_of_ble_eq_true rfl) ?_
  have hP : va_P (dC, dI) vwCl ([(h, .inr (0, [.ref a1, .int 0, .null, .int 0, .null, .null, .int 0, .null, .null])), (a1, .inl (c1, 300, .inl (fun _ => 0))), (a2, .inl (c2, 5120, .inl (fun _ => 0)))]) H := hP
  have hD : va_D A ([(h, .inr (0, [.ref a1, .int 0, .null, .int 0, .null, .null, .int 0, .null, .null])), (a1, .inl (c1, 300, .inl (fun _ => 0))), (a2, .inl (c2, 5120, .inl (fun _ => 0)))]) := hD
  refine va_putF (D := (dC, dI)) (ci := 0) (v := .ref a2) (ty := .array .byte) (C := RX0) (T := TX0) (N := 9) hx hb hts hin0 tyX0 tyX0_ok nmX0 hown hK hP hD hS 0 rfl rfl 2 (by decide) lkf13 (fun _ h9 => h9) rfl hin rfl (by decide +kernel) rfl rfl (Nat.le_of_ble_eq_true rfl) dX0_init_19 (fun H locs hP hD hS => ?_)
  have hP : va_P (dC, dI) vwCl ([(h, .inr (0, [.ref a1, .int 0, .ref a2, .int 0, .null, .null, .int 0, .null, .null])), (a1, .inl (c1, 300, .inl (fun _ => 0))), (a2, .inl (c2, 5120, .inl (fun _ => 0)))]) H := hP
  have hD : va_D A ([(h, .inr (0, [.ref a1, .int 0, .ref a2, .int 0, .null, .null, .int 0, .null, .null])), (a1, .inl (c1, 300, .inl (fun _ => 0))), (a2, .inl (c2, 5120, .inl (fun _ => 0)))]) := hD
  refine lv_aload_n hx hb dX0_init_22 rfl (lv_at hl 0 rfl) ?_
  refine lv_sipush (v := nI 200) hx hb dX0_init_23 (by decide) ?_
  refine va_newa (atype := .int) (ty := .int) (N' := 200) (a0 := (200, .inl (fun _ => 0))) (n := nI 200) hx hb (hts (.arrayClass .int) (by decide +kernel)) rfl hK hP hD hS hA (fun _ => rfl) (nI_pos (by decide)) (nI_clamp (by decide)) (Nat.le_of_ble_eq_true rfl) (Nat.le_of_ble_eq_true rfl) (Nat.le_of_ble_eq_true rfl) dX0_init_26 (fun a3 c3 H hK hP hD hS => ?_)
  refine W.widen (k := 3) (n := 5620) (Nat.le_of_ble_eq_true rfl) (Nat.le_of_ble_eq_true rfl) ?_
  have hP : va_P (dC, dI) vwCl ([(h, .inr (0, [.ref a1, .int 0, .ref a2, .int 0, .null, .null, .int 0, .null, .null])), (a1, .inl (c1, 300, .inl (fun _ => 0))), (a2, .inl (c2, 5120, .inl (fun _ => 0))), (a3, .inl (c3, 200, .inl (fun _ => 0)))]) H := hP
  have hD : va_D A ([(h, .inr (0, [.ref a1, .int 0, .ref a2, .int 0, .null, .null, .int 0, .null, .null])), (a1, .inl (c1, 300, .inl (fun _ => 0))), (a2, .inl (c2, 5120, .inl (fun _ => 0))), (a3, .inl (c3, 200, .inl (fun _ => 0)))]) := hD
  refine va_putF (D := (dC, dI)) (ci := 0) (v := .ref a3) (ty := .array .int) (C := RX0) (T := TX0) (N := 9) hx hb hts hin0 tyX0 tyX0_ok nmX0 hown hK hP hD hS 0 rfl rfl 4 (by decide) lkf16 (fun _ h9 => h9) rfl hin rfl (by decide +kernel) rfl rfl (Nat.le_of_ble_eq_true rfl) dX0_init_28 (fun H locs hP hD hS => ?_)
  have hP : va_P (dC, dI) vwCl ([(h, .inr (0, [.ref a1, .int 0, .ref a2, .int 0, .ref a3, .null, .int 0, .null, .null])), (a1, .inl (c1, 300, .inl (fun _ => 0))), (a2, .inl (c2, 5120, .inl (fun _ => 0))), (a3, .inl (c3, 200, .inl (fun _ => 0)))]) H := hP
  have hD : va_D A ([(h, .inr (0, [.ref a1, .int 0, .ref a2, .int 0, .ref a3, .null, .int 0, .null, .null])), (a1, .inl (c1, 300, .inl (fun _ => 0))), (a2, .inl (c2, 5120, .inl (fun _ => 0))), (a3, .inl (c3, 200, .inl (fun _ => 0)))]) := hD
  refine lv_aload_n hx hb dX0_init_31 rfl (lv_at hl 0 rfl) ?_
  refine lv_sipush (v := nI 200) hx hb dX0_init_32 (by decide) ?_
  refine va_newa (atype := .int) (ty := .int) (N' := 200) (a0 := (200, .inl (fun _ => 0))) (n := nI 200) hx hb (hts (.arrayClass .int) (by decide +kernel)) rfl hK hP hD hS hA (fun _ => rfl) (nI_pos (by decide)) (nI_clamp (by decide)) (Nat.le_of_ble_eq_true rfl) (Nat.le_of_ble_eq_true rfl) (Nat.le_of_ble_eq_true rfl) dX0_init_35 (fun a4 c4 H hK hP hD hS => ?_)
  refine W.widen (k := 4) (n := 5820) (Nat.le_of_ble_eq_true rfl) (Nat.le_of_ble_eq_true rfl) ?_
  have hP : va_P (dC, dI) vwCl ([(h, .inr (0, [.ref a1, .int 0, .ref a2, .int 0, .ref a3, .null, .int 0, .null, .null])), (a1, .inl (c1, 300, .inl (fun _ => 0))), (a2, .inl (c2, 5120, .inl (fun _ => 0))), (a3, .inl (c3, 200, .inl (fun _ => 0))), (a4, .inl (c4, 200, .inl (fun _ => 0)))]) H := hP
  have hD : va_D A ([(h, .inr (0, [.ref a1, .int 0, .ref a2, .int 0, .ref a3, .null, .int 0, .null, .null])), (a1, .inl (c1, 300, .inl (fun _ => 0))), (a2, .inl (c2, 5120, .inl (fun _ => 0))), (a3, .inl (c3, 200, .inl (fun _ => 0))), (a4, .inl (c4, 200, .inl (fun _ => 0)))]) := hD
  refine va_putF (D := (dC, dI)) (ci := 0) (v := .ref a4) (ty := .array .int) (C := RX0) (T := TX0) (N := 9) hx hb hts hin0 tyX0 tyX0_ok nmX0 hown hK hP hD hS 0 rfl rfl 5 (by decide) lkf20 (fun _ h9 => h9) rfl hin rfl (by decide +kernel) rfl rfl (Nat.le_of_ble_eq_true rfl) dX0_init_37 (fun H locs hP hD hS => ?_)
  have hP : va_P (dC, dI) vwCl ([(h, .inr (0, [.ref a1, .int 0, .ref a2, .int 0, .ref a3, .ref a4, .int 0, .null, .null])), (a1, .inl (c1, 300, .inl (fun _ => 0))), (a2, .inl (c2, 5120, .inl (fun _ => 0))), (a3, .inl (c3, 200, .inl (fun _ => 0))), (a4, .inl (c4, 200, .inl (fun _ => 0)))]) H := hP
  have hD : va_D A ([(h, .inr (0, [.ref a1, .int 0, .ref a2, .int 0, .ref a3, .ref a4, .int 0, .null, .null])), (a1, .inl (c1, 300, .inl (fun _ => 0))), (a2, .inl (c2, 5120, .inl (fun _ => 0))), (a3, .inl (c3, 200, .inl (fun _ => 0))), (a4, .inl (c4, 200, .inl (fun _ => 0)))]) := hD
  refine lv_aload_n hx hb dX0_init_40 rfl (lv_at hl 0 rfl) ?_
  refine lv_bipush (v := nI 80) hx hb dX0_init_41 (by decide) ?_
  refine va_newa (atype := .int) (ty := .int) (N' := 80) (a0 := (80, .inl (fun _ => 0))) (n := nI 80) hx hb (hts (.arrayClass .int) (by decide +kernel)) rfl hK hP hD hS hA (fun _ => rfl) (nI_pos (by decide)) (nI_clamp (by decide)) (Nat.le_of_ble_eq_true rfl) (Nat.le_of_ble_eq_true rfl) (Nat.le_of_ble_eq_true rfl) dX0_init_43 (fun a5 c5 H hK hP hD hS => ?_)
  refine W.widen (k := 5) (n := 5900) (Nat.le_of_ble_eq_true rfl) (Nat.le_of_ble_eq_true rfl) ?_
  have hP : va_P (dC, dI) vwCl ([(h, .inr (0, [.ref a1, .int 0, .ref a2, .int 0, .ref a3, .ref a4, .int 0, .null, .null])), (a1, .inl (c1, 300, .inl (fun _ => 0))), (a2, .inl (c2, 5120, .inl (fun _ => 0))), (a3, .inl (c3, 200, .inl (fun _ => 0))), (a4, .inl (c4, 200, .inl (fun _ => 0))), (a5, .inl (c5, 80, .inl (fun _ => 0)))]) H := hP
  have hD : va_D A ([(h, .inr (0, [.ref a1, .int 0, .ref a2, .int 0, .ref a3, .ref a4, .int 0, .null, .null])), (a1, .inl (c1, 300, .inl (fun _ => 0))), (a2, .inl (c2, 5120, .inl (fun _ => 0))), (a3, .inl (c3, 200, .inl (fun _ => 0))), (a4, .inl (c4, 200, .inl (fun _ => 0))), (a5, .inl (c5, 80, .inl (fun _ => 0)))]) := hD
  refine va_putF (D := (dC, dI)) (ci := 0) (v := .ref a5) (ty := .array .int) (C := RX0) (T := TX0) (N := 9) hx hb hts hin0 tyX0 tyX0_ok nmX0 hown hK hP hD hS 0 rfl rfl 7 (by decide) lkf23 (fun _ h9 => h9) rfl hin rfl (by decide +kernel) rfl rfl (Nat.le_of_ble_eq_true rfl) dX0_init_45 (fun H locs hP hD hS => ?_)
  have hP : va_P (dC, dI) vwCl ([(h, .inr (0, [.ref a1, .int 0, .ref a2, .int 0, .ref a3, .ref a4, .int 0, .ref a5, .null])), (a1, .inl (c1, 300, .inl (fun _ => 0))), (a2, .inl (c2, 5120, .inl (fun _ => 0))), (a3, .inl (c3, 200, .inl (fun _ => 0))), (a4, .inl (c4, 200, .inl (fun _ => 0))), (a5, .inl (c5, 80, .inl (fun _ => 0)))]) H := hP
  have hD : va_D A ([(h, .inr (0, [.ref a1, .int 0, .ref a2, .int 0, .ref a3, .ref a4, .int 0, .ref a5, .null])), (a1, .inl (c1, 300, .inl (fun _ => 0))), (a2, .inl (c2, 5120, .inl (fun _ => 0))), (a3, .inl (c3, 200, .inl (fun _ => 0))), (a4, .inl (c4, 200, .inl (fun _ => 0))), (a5, .inl (c5, 80, .inl (fun _ => 0)))]) := hD
  refine lv_aload_n hx hb dX0_init_48 rfl (lv_at hl 0 rfl) ?_
  refine lv_bipush (v := nI 80) hx hb dX0_init_49 (by decide) ?_
  refine va_newa (atype := .int) (ty := .int) (N' := 80) (a0 := (80, .inl (fun _ => 0))) (n := nI 80) hx hb (hts (.arrayClass .int) (by decide +kernel)) rfl hK hP hD hS hA (fun _ => rfl) (nI_pos (by decide)) (nI_clamp (by decide)) (Nat.le_of_ble_eq_true rfl) (Nat.le_of_ble_eq_true rfl) (Nat.le_of_ble_eq_true rfl) dX0_init_51 (fun a6 c6 H hK hP hD hS => ?_)
  refine W.widen (k := 6) (n := 5980) (Nat.le_of_ble_eq_true rfl) (Nat.le_of_ble_eq_true rfl) ?_
  have hP : va_P (dC, dI) vwCl ([(h, .inr (0, [.ref a1, .int 0, .ref a2, .int 0, .ref a3, .ref a4, .int 0, .ref a5, .null])), (a1, .inl (c1, 300, .inl (fun _ => 0))), (a2, .inl (c2, 5120, .inl (fun _ => 0))), (a3, .inl (c3, 200, .inl (fun _ => 0))), (a4, .inl (c4, 200, .inl (fun _ => 0))), (a5, .inl (c5, 80, .inl (fun _ => 0))), (a6, .inl (c6, 80, .inl (fun _ => 0)))]) H := hP
  have hD : va_D A ([(h, .inr (0, [.ref a1, .int 0, .ref a2, .int 0, .ref a3, .ref a4, .int 0, .ref a5, .null])), (a1, .inl (c1, 300, .inl (fun _ => 0))), (a2, .inl (c2, 5120, .inl (fun _ => 0))), (a3, .inl (c3, 200, .inl (fun _ => 0))), (a4, .inl (c4, 200, .inl (fun _ => 0))), (a5, .inl (c5, 80, .inl (fun _ => 0))), (a6, .inl (c6, 80, .inl (fun _ => 0)))]) := hD
  refine va_putF (D := (dC, dI)) (ci := 0) (v := .ref a6) (ty := .array .int) (C := RX0) (T := TX0) (N := 9) hx hb hts hin0 tyX0 tyX0_ok nmX0 hown hK hP hD hS 0 rfl rfl 8 (by decide) lkf26 (fun _ h9 => h9) rfl hin rfl (by decide +kernel) rfl rfl (Nat.le_of_ble_eq_true rfl) dX0_init_53 (fun H locs hP hD hS => ?_)
  have hP : va_P (dC, dI) vwCl ([(h, .inr (0, [.ref a1, .int 0, .ref a2, .int 0, .ref a3, .ref a4, .int 0, .ref a5, .ref a6])), (a1, .inl (c1, 300, .inl (fun _ => 0))), (a2, .inl (c2, 5120, .inl (fun _ => 0))), (a3, .inl (c3, 200, .inl (fun _ => 0))), (a4, .inl (c4, 200, .inl (fun _ => 0))), (a5, .inl (c5, 80, .inl (fun _ => 0))), (a6, .inl (c6, 80, .inl (fun _ => 0)))]) H := hP
  have hD : va_D A ([(h, .inr (0, [.ref a1, .int 0, .ref a2, .int 0, .ref a3, .ref a4, .int 0, .ref a5, .ref a6])), (a1, .inl (c1, 300, .inl (fun _ => 0))), (a2, .inl (c2, 5120, .inl (fun _ => 0))), (a3, .inl (c3, 200, .inl (fun _ => 0))), (a4, .inl (c4, 200, .inl (fun _ => 0))), (a5, .inl (c5, 80, .inl (fun _ => 0))), (a6, .inl (c6, 80, .inl (fun _ => 0)))]) := hD
  obtain rfl : c1 = c2 := kCl_b hK 0 1 rfl rfl
  obtain rfl : c3 = c4 := kCl_i hK 2 3 rfl rfl
  obtain rfl : c3 = c5 := kCl_i hK 2 4 rfl rfl
  obtain rfl : c3 = c6 := kCl_i hK 2 5 rfl rfl
  have hK : va_K (dC, dI) vwCl (tB c1 c3) s := hK.sub [0, 2] rfl
  have hP : va_P (dC, dI) vwCl (wB h a1 a2 a3 a4 a5 a6 c1 c3 (fun _ => 0) 0 (iniV 0) 0 (fun _ => 0) (fun _ => 0) 0 (fun _ => 0) (fun _ => 0)) H := hP
  have hD : va_D A (wB h a1 a2 a3 a4 a5 a6 c1 c3 (fun _ => 0) 0 (iniV 0) 0 (fun _ => 0) (fun _ => 0) 0 (fun _ => 0) (fun _ => 0)) := hD
  refine lv_iconst (v := nI 0) hx hb dX0_init_56 (by decide) ?_
  refine lv_istore_n (lv' := [(1, .int (nI 0)), (0, .ref h)]) hx hb dX0_init_57 rfl hl (by decide) rfl (fun ls hl => ?_)
  have hloopk : ∀ (n k : Nat), k ≤ 80 → 80 + 1 ≤ k + n → ∀ (H : Heap) (locs : List Loc) (ls : Array Slot), va_P (dC, dI) vwCl (wB h a1 a2 a3 a4 a5 a6 c1 c3 (fun _ => 0) 0 (iniV k) 0 (fun _ => 0) (fun _ => 0) 0 (fun _ => 0) (fun _ => 0)) H → va_D A (wB h a1 a2 a3 a4 a5 a6 c1 c3 (fun _ => 0) 0 (iniV k) 0 (fun _ => 0) (fun _ => 0) 0 (fun _ => 0) (fun _ => 0)) → va_S A s.heap H locs → lv_has ls 2 [(1, .int (nI k)), (0, .ref h)] → W p l e ({ frames := 1, cells := 6, slots := 5980, locals := 12 }) s m ([.ref h] : List Value).toArray below meth c H locs 6 5980 Q (F0 m 58 ls []) := by
    intro n
    induction n with
    | zero => intro k h1 h2; exact absurd h2 (by omega)
    | succ n ih =>
      intro k hkA hkB H locs ls hP hD hS hl
      refine lv_iload_n hx hb dX0_init_58 rfl (lv_at hl 0 rfl) ?_
      refine lv_bipush (v := nI 80) hx hb dX0_init_59 (by decide) ?_
      refine lv_icmp_ge (tgt := 82) hx hb dX0_init_61 (by decide) (fun c_61 => ?_) (fun c_61 => ?_)
      · have c_61 := (nI_leI (by omega) (by omega)).mp c_61
        have hkE : k = 80 := by omega
        subst hkE
        exact hret (a1, a2, a3, a4, a5, a6, c1, c3) _ _ _ _ hP hK hD hS dX0_init_82
      · have c_61 := kmt (nI_leI (by omega) (by omega)).mpr c_61
        refine lv_aload_n hx hb dX0_init_64 rfl (lv_at hl 1 rfl) ?_
        refine va_get (D := (dC, dI)) (ci := 0) (v := .ref a2) (C := RX0) (T := TX0) (N := 9) hx hb hts hin0 hown hK hP 0 rfl rfl 2 (by decide) lkf13 (fun _ h9 => h9) rfl dX0_init_65 ?_
        refine lv_iload_n hx hb dX0_init_68 rfl (lv_at hl 0 rfl) ?_
        refine lv_bipush (v := nI 64) hx hb dX0_init_69 (by decide) ?_
        refine lv_imul hx hb dX0_init_71 ?_
        refine kv_top (show _ = nI (k * 64) from pk_mul _ _) ?_
        refine lv_iconst (v := nI 3) hx hb dX0_init_72 (by decide) ?_
        refine lv_iadd hx hb dX0_init_73 ?_
        refine kv_top (show _ = nI ((k * 64) + 3) from nI_add _ _) ?_
        refine lv_iconst (v := (-1)) hx hb dX0_init_74 (by decide) ?_
        refine ka_bast hx hb hK hP hD hS 2 0 rfl rfl (k := (k * 64) + 3) (x := (-1)) (by omega) (by decide) (by decide) dX0_init_75 (fun H locs hP hD hS => ?_)
        have hP : va_P (dC, dI) vwCl (wB h a1 a2 a3 a4 a5 a6 c1 c3 (fun _ => 0) 0 (upd (iniV k) ((k * 64) + 3) ((-1))) 0 (fun _ => 0) (fun _ => 0) 0 (fun _ => 0) (fun _ => 0)) H := hP
        have hD : va_D A (wB h a1 a2 a3 a4 a5 a6 c1 c3 (fun _ => 0) 0 (upd (iniV k) ((k * 64) + 3) ((-1))) 0 (fun _ => 0) (fun _ => 0) 0 (fun _ => 0) (fun _ => 0)) := hD
        refine lv_iinc (v := nI (k + 1)) (lv' := [(1, .int (nI (k + 1))), (0, .ref h)]) hx hb dX0_init_76 hl (k := 0) rfl (ki_inc _) (by decide) rfl (fun ls hl => ?_)
        refine lv_goto (tgt := 58) hx hb dX0_init_79 (by decide) ?_
        have hP : va_P (dC, dI) vwCl (wB h a1 a2 a3 a4 a5 a6 c1 c3 (fun _ => 0) 0 (iniV (k + 1)) 0 (fun _ => 0) (fun _ => 0) 0 (fun _ => 0) (fun _ => 0)) H := hP
        have hD : va_D A (wB h a1 a2 a3 a4 a5 a6 c1 c3 (fun _ => 0) 0 (iniV (k + 1)) 0 (fun _ => 0) (fun _ => 0) 0 (fun _ => 0) (fun _ => 0)) := hD
        exact ih (k + 1) (by omega) (by omega) _ _ _ hP hD hS (lv_sub hl [0, 1] rfl)
  have hP : va_P (dC, dI) vwCl (wB h a1 a2 a3 a4 a5 a6 c1 c3 (fun _ => 0) 0 (iniV (0)) 0 (fun _ => 0) (fun _ => 0) 0 (fun _ => 0) (fun _ => 0)) H := hP
  have hD : va_D A (wB h a1 a2 a3 a4 a5 a6 c1 c3 (fun _ => 0) 0 (iniV (0)) 0 (fun _ => 0) (fun _ => 0) 0 (fun _ => 0) (fun _ => 0)) := hD
  exact hloopk (80 + 1) 0 (by omega) (by omega) _ _ _ hP hD hS (lv_sub hl [0, 1] rfl)
