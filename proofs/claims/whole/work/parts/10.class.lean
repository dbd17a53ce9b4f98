abbrev wB (h a1 a2 a3 a4 a5 a6 : Nat) (cb ci : ClassId) (tp : Nat → Int32) (tl : Nat) (vo : Nat → Int32) (np : Nat) (rp rl : Nat → Nat) (rc : Nat) (sb sa : Nat → Nat) : va_W :=
  [(h, .inr (0, [.ref a1, .int (nI tl), .ref a2, .int (nI np), .ref a3, .ref a4, .int (nI rc), .ref a5, .ref a6])), (a1, .inl (cb, 300, .inl tp)), (a2, .inl (cb, 5120, .inl vo)), (a3, .inl (ci, 200, .inl (nA rp))), (a4, .inl (ci, 200, .inl (nA rl))), (a5, .inl (ci, 80, .inl (nA sb))), (a6, .inl (ci, 80, .inl (nA sa)))]
abbrev tB (cb ci : ClassId) : List (ClassId × FieldType) := [(cb, .byte), (ci, .int)]
set_option maxHeartbeats 4000000 in
set_option maxRecDepth 100000 in
theorem c_blocksWritten (l : Launch) (dC : Nat → ClassId) (dI : Nat → Nat → Nat) (h a1 a2 a3 a4 a5 a6 : Nat) (cb ci : ClassId) (tp : Nat → Int32) (tl : Nat) (vo : Nat → Int32) (np : Nat) (rp rl : Nat → Nat) (rc : Nat) (sb sa : Nat → Nat) (sz : Nat) (hnp : np ≤ 4480) : Met l yX0_blocksWritten wsX0_blocksWritten ({ frames := 0, cells := 0, slots := 0, locals := 0 }) (kPre (dC, dI) vwCl (wB h a1 a2 a3 a4 a5 a6 cb ci tp tl vo np rp rl rc sb sa) (tB cb ci) sz [.ref h]) (kQi (dC, dI) vwCl (wB h a1 a2 a3 a4 a5 a6 cb ci tp tl vo np rp rl rc sb sa) (tB cb ci) sz (nI (np / 56)) (wB h a1 a2 a3 a4 a5 a6 cb ci tp tl vo np rp rl rc sb sa)) 0 0 (va_A (wB h a1 a2 a3 a4 a5 a6 cb ci tp tl vo np rp rl rc sb sa) sz) := by
  refine kM_i (cc := cX0_blocksWritten) (maxL := 1) (by decide) rfl (Nat.le_of_ble_eq_true rfl) ?_
  intro p e s m below meth c A Q ls H locs S hP hK hD hS hA hl hret
  obtain ⟨hx, hb, hml, hown, hts⟩ := id S
  have hin0 : ∀ w ∈ u_ws RX0 TX0 9, w ∈ wsX0_blocksWritten := fun _ h => List.mem_cons_of_mem _ (List.mem_append_right _ h)
  have lkf44 := hts (.fieldLink RX0 44 "BlockTape" "nextPlace" "I") (by decide +kernel)
  have hl : lv_has ls 1 [(0, .ref h)] := hl
  refine lv_aload_n hx hb dX0_blocksWritten_0 rfl (lv_at hl 0 rfl) ?_
  refine va_get (D := (dC, dI)) (ci := 0) (v := .int (nI np)) (C := RX0) (T := TX0) (N := 9) hx hb hts hin0 hown hK hP 0 rfl rfl 3 (by decide) lkf44 (fun _ h9 => h9) rfl dX0_blocksWritten_1 ?_
  refine lv_bipush (v := nI 56) hx hb dX0_blocksWritten_4 (by decide) ?_
  refine lv_idiv hx hb dX0_blocksWritten_6 (by decide) ?_
  refine kv_top (show _ = nI (np / 56) from pk_div (by omega) (by omega) (by omega)) ?_
  exact hret _ _ _ _ hP hD hS dX0_blocksWritten_7
set_option maxHeartbeats 4000000 in
set_option maxRecDepth 100000 in
theorem c_placesLeft (l : Launch) (dC : Nat → ClassId) (dI : Nat → Nat → Nat) (h a1 a2 a3 a4 a5 a6 : Nat) (cb ci : ClassId) (tp : Nat → Int32) (tl : Nat) (vo : Nat → Int32) (np : Nat) (rp rl : Nat → Nat) (rc : Nat) (sb sa : Nat → Nat) (sz : Nat) (hnp : np ≤ 4480) : Met l yX0_placesLeft wsX0_placesLeft ({ frames := 0, cells := 0, slots := 0, locals := 0 }) (kPre (dC, dI) vwCl (wB h a1 a2 a3 a4 a5 a6 cb ci tp tl vo np rp rl rc sb sa) (tB cb ci) sz [.ref h]) (kQi (dC, dI) vwCl (wB h a1 a2 a3 a4 a5 a6 cb ci tp tl vo np rp rl rc sb sa) (tB cb ci) sz (nI (4480 - np)) (wB h a1 a2 a3 a4 a5 a6 cb ci tp tl vo np rp rl rc sb sa)) 0 0 (va_A (wB h a1 a2 a3 a4 a5 a6 cb ci tp tl vo np rp rl rc sb sa) sz) := by
  refine kM_i (cc := cX0_placesLeft) (maxL := 1) (by decide) rfl (Nat.le_of_ble_eq_true rfl) ?_
  intro p e s m below meth c A Q ls H locs S hP hK hD hS hA hl hret
  obtain ⟨hx, hb, hml, hown, hts⟩ := id S
  have hin0 : ∀ w ∈ u_ws RX0 TX0 9, w ∈ wsX0_placesLeft := fun _ h => List.mem_cons_of_mem _ (List.mem_append_right _ h)
  have lkf44 := hts (.fieldLink RX0 44 "BlockTape" "nextPlace" "I") (by decide +kernel)
  have hl : lv_has ls 1 [(0, .ref h)] := hl
  refine lv_sipush (v := nI 4480) hx hb dX0_placesLeft_0 (by decide) ?_
  refine lv_aload_n hx hb dX0_placesLeft_3 rfl (lv_at hl 0 rfl) ?_
  refine va_get (D := (dC, dI)) (ci := 0) (v := .int (nI np)) (C := RX0) (T := TX0) (N := 9) hx hb hts hin0 hown hK hP 0 rfl rfl 3 (by decide) lkf44 (fun _ h9 => h9) rfl dX0_placesLeft_4 ?_
  refine lv_isub hx hb dX0_placesLeft_7 ?_
  refine kv_top (show _ = nI (4480 - np) from pk_sub (by omega)) ?_
  exact hret _ _ _ _ hP hD hS dX0_placesLeft_8
set_option maxHeartbeats 4000000 in
set_option maxRecDepth 100000 in
theorem c_isWritten (l : Launch) (dC : Nat → ClassId) (dI : Nat → Nat → Nat) (h a1 a2 a3 a4 a5 a6 : Nat) (cb ci : ClassId) (tp : Nat → Int32) (tl : Nat) (vo : Nat → Int32) (np : Nat) (rp rl : Nat → Nat) (rc : Nat) (sb sa : Nat → Nat) (sz : Nat) (x : Int32) (hnp : np ≤ 4480) : Met l yX0_isWritten wsX0_isWritten ({ frames := 1, cells := 0, slots := 0, locals := 20 }) (kPre (dC, dI) vwCl (wB h a1 a2 a3 a4 a5 a6 cb ci tp tl vo np rp rl rc sb sa) (tB cb ci) sz [.ref h, .int x]) (kQi (dC, dI) vwCl (wB h a1 a2 a3 a4 a5 a6 cb ci tp tl vo np rp rl rc sb sa) (tB cb ci) sz (bI (isW np x)) (wB h a1 a2 a3 a4 a5 a6 cb ci tp tl vo np rp rl rc sb sa)) 0 0 (va_A (wB h a1 a2 a3 a4 a5 a6 cb ci tp tl vo np rp rl rc sb sa) sz) := by
  refine kM_z (cc := cX0_isWritten) (maxL := 2) (by decide) rfl (Nat.le_of_ble_eq_true rfl) (bI_n _) ?_
  intro p e s m below meth c A Q ls H locs S hP hK hD hS hA hl hret
  obtain ⟨hx, hb, hml, hown, hts⟩ := id S
  have hl : lv_has ls 2 [(0, .ref h), (1, .int x)] := hl
  refine lv_iload_n hx hb dX0_isWritten_0 rfl (lv_at hl 1 rfl) ?_
  refine lv_if_lt (tgt := 16) hx hb dX0_isWritten_1 (by decide) (fun c_1 => ?_) (fun c_1 => ?_)
  · have c_1 := (kx_lt0).mp c_1
    refine lv_iconst (v := nI 0) hx hb dX0_isWritten_16 (by decide) ?_
    refine kv_top (show _ = bI (isW np x) from (bI_f (by simp [isW]; omega))) ?_
    exact hret _ _ _ _ hP hD hS dX0_isWritten_17
  · have c_1 := kmt (kx_lt0).mpr c_1
    refine lv_iload_n hx hb dX0_isWritten_4 rfl (lv_at hl 1 rfl) ?_
    refine lv_aload_n hx hb dX0_isWritten_5 rfl (lv_at hl 0 rfl) ?_
    refine kc_vi (WR := []) (As := []) (rest := [.int x]) ⟨hx, hb, hml, hown, hts⟩ (c_blocksWritten l dC dI h a1 a2 a3 a4 a5 a6 cb ci tp tl vo np rp rl rc sb sa H.size (by omega)) (cwV 0 hts gX0_isWritten_X0_blocksWritten rfl rfl rfl (by decide +kernel) ⟨Nat.le_of_ble_eq_true rfl, Nat.le_of_ble_eq_true rfl⟩) hK hP hD hS hA [0, 1, 2, 3, 4, 5, 6] [] [0, 1] rfl rfl (by decide) (by decide) (by decide) rfl 0 0 rfl rfl rfl rfl hl.1 rfl (Nat.le_of_ble_eq_true rfl) dX0_isWritten_6 ⟨Nat.zero_le _, Nat.zero_le _⟩ (fun H locs hP hD hS => ?_)
    have hP : va_P (dC, dI) vwCl (wB h a1 a2 a3 a4 a5 a6 cb ci tp tl vo np rp rl rc sb sa) H := hP
    have hD : va_D A (wB h a1 a2 a3 a4 a5 a6 cb ci tp tl vo np rp rl rc sb sa) := hD
    refine lv_icmp_ge (tgt := 16) hx hb dX0_isWritten_9 (by decide) (fun c_9 => ?_) (fun c_9 => ?_)
    · have c_9 := (kx_ge (by omega)).mp c_9
      refine lv_iconst (v := nI 0) hx hb dX0_isWritten_16 (by decide) ?_
      refine kv_top (show _ = bI (isW np x) from (bI_f (by simp [isW]; omega))) ?_
      exact hret _ _ _ _ hP hD hS dX0_isWritten_17
    · have c_9 := kmt (kx_ge (by omega)).mpr c_9
      refine lv_iconst (v := nI 1) hx hb dX0_isWritten_12 (by decide) ?_
      refine lv_goto (tgt := 17) hx hb dX0_isWritten_13 (by decide) ?_
      refine kv_top (show _ = bI (isW np x) from (bI_t (by simp [isW]; omega))) ?_
      exact hret _ _ _ _ hP hD hS dX0_isWritten_17
set_option maxHeartbeats 4000000 in
set_option maxRecDepth 100000 in
theorem c_isInBlock (l : Launch) (dC : Nat → ClassId) (dI : Nat → Nat → Nat) (sz : Nat) (x : Int32) : Met l yX0_isInBlock wsX0_isInBlock ({ frames := 0, cells := 0, slots := 0, locals := 0 }) (kPre (dC, dI) vwCl ([]) ([]) sz [.int x]) (kQi (dC, dI) vwCl ([]) ([]) sz (bI (inB x)) ([])) 0 0 (va_A ([]) sz) := by
  refine kM_z (cc := cX0_isInBlock) (maxL := 1) (by decide) rfl (Nat.le_of_ble_eq_true rfl) (bI_n _) ?_
  intro p e s m below meth c A Q ls H locs S hP hK hD hS hA hl hret
  obtain ⟨hx, hb, hml, hown, hts⟩ := id S
  have hl : lv_has ls 1 [(0, .int x)] := hl
  refine lv_iload_n hx hb dX0_isInBlock_0 rfl (lv_at hl 0 rfl) ?_
  refine lv_if_lt (tgt := 14) hx hb dX0_isInBlock_1 (by decide) (fun c_1 => ?_) (fun c_1 => ?_)
  · have c_1 := (kx_lt0).mp c_1
    refine lv_iconst (v := nI 0) hx hb dX0_isInBlock_14 (by decide) ?_
    refine kv_top (show _ = bI (inB x) from (bI_f (by simp [inB]; omega))) ?_
    exact hret _ _ _ _ hP hD hS dX0_isInBlock_15
  · have c_1 := kmt (kx_lt0).mpr c_1
    refine lv_iload_n hx hb dX0_isInBlock_4 rfl (lv_at hl 0 rfl) ?_
    refine lv_bipush (v := nI 64) hx hb dX0_isInBlock_5 (by decide) ?_
    refine lv_icmp_ge (tgt := 14) hx hb dX0_isInBlock_7 (by decide) (fun c_7 => ?_) (fun c_7 => ?_)
    · have c_7 := (kx_ge (by omega)).mp c_7
      refine lv_iconst (v := nI 0) hx hb dX0_isInBlock_14 (by decide) ?_
      refine kv_top (show _ = bI (inB x) from (bI_f (by simp [inB]; omega))) ?_
      exact hret _ _ _ _ hP hD hS dX0_isInBlock_15
    · have c_7 := kmt (kx_ge (by omega)).mpr c_7
      refine lv_iconst (v := nI 1) hx hb dX0_isInBlock_10 (by decide) ?_
      refine lv_goto (tgt := 15) hx hb dX0_isInBlock_11 (by decide) ?_
      refine kv_top (show _ = bI (inB x) from (bI_t (by simp [inB]; omega))) ?_
      exact hret _ _ _ _ hP hD hS dX0_isInBlock_15
set_option maxHeartbeats 4000000 in
set_option maxRecDepth 100000 in
theorem c_indexOfPlace (l : Launch) (dC : Nat → ClassId) (dI : Nat → Nat → Nat) (sz : Nat) (q : Nat) (hq : q < 4480) : Met l yX0_indexOfPlace wsX0_indexOfPlace ({ frames := 0, cells := 0, slots := 0, locals := 0 }) (kPre (dC, dI) vwCl ([]) ([]) sz [.int (nI q)]) (kQi (dC, dI) vwCl ([]) ([]) sz (nI (ix q)) ([])) 0 0 (va_A ([]) sz) := by
  refine kM_i (cc := cX0_indexOfPlace) (maxL := 1) (by decide) rfl (Nat.le_of_ble_eq_true rfl) ?_
  intro p e s m below meth c A Q ls H locs S hP hK hD hS hA hl hret
  obtain ⟨hx, hb, hml, hown, hts⟩ := id S
  have hl : lv_has ls 1 [(0, .int (nI q))] := hl
  refine lv_iload_n hx hb dX0_indexOfPlace_0 rfl (lv_at hl 0 rfl) ?_
  refine lv_bipush (v := nI 56) hx hb dX0_indexOfPlace_1 (by decide) ?_
  refine lv_idiv hx hb dX0_indexOfPlace_3 (by decide) ?_
  refine kv_top (show _ = nI (q / 56) from pk_div (by omega) (by omega) (by omega)) ?_
  refine lv_bipush (v := nI 64) hx hb dX0_indexOfPlace_4 (by decide) ?_
  refine lv_imul hx hb dX0_indexOfPlace_6 ?_
  refine kv_top (show _ = nI ((q / 56) * 64) from pk_mul _ _) ?_
  refine lv_bipush (v := nI 8) hx hb dX0_indexOfPlace_7 (by decide) ?_
  refine lv_iadd hx hb dX0_indexOfPlace_9 ?_
  refine kv_top (show _ = nI (((q / 56) * 64) + 8) from nI_add _ _) ?_
  refine lv_iload_n hx hb dX0_indexOfPlace_10 rfl (lv_at hl 0 rfl) ?_
  refine lv_bipush (v := nI 56) hx hb dX0_indexOfPlace_11 (by decide) ?_
  refine lv_irem hx hb dX0_indexOfPlace_13 (by decide) ?_
  refine kv_top (show _ = nI (q % 56) from pk_rem (by omega) (by omega) (by omega)) ?_
  refine lv_iadd hx hb dX0_indexOfPlace_14 ?_
  refine kv_top (show _ = nI ((((q / 56) * 64) + 8) + (q % 56)) from nI_add _ _) ?_
  refine kv_top (show _ = nI (ix q) from rfl) ?_
  exact hret _ _ _ _ hP hD hS dX0_indexOfPlace_15
set_option maxHeartbeats 4000000 in
set_option maxRecDepth 100000 in
theorem c_addToByte (l : Launch) (dC : Nat → ClassId) (dI : Nat → Nat → Nat) (h a1 a2 a3 a4 a5 a6 : Nat) (cb ci : ClassId) (tp : Nat → Int32) (tl : Nat) (vo : Nat → Int32) (np : Nat) (rp rl : Nat → Nat) (rc : Nat) (sb sa : Nat → Nat) (sz : Nat) (k : Nat) (v : Int32) (hk : k < 5120) : Met l yX0_addToByte wsX0_addToByte ({ frames := 0, cells := 0, slots := 0, locals := 0 }) (kPre (dC, dI) vwCl (wB h a1 a2 a3 a4 a5 a6 cb ci tp tl vo np rp rl rc sb sa) (tB cb ci) sz [.ref h, .int (nI k), .int v]) (kQv (dC, dI) vwCl (wB h a1 a2 a3 a4 a5 a6 cb ci tp tl vo np rp rl rc sb sa) (tB cb ci) sz (wB h a1 a2 a3 a4 a5 a6 cb ci tp tl (upd vo k (bn (vo k + v))) np rp rl rc sb sa)) 0 0 (va_A (wB h a1 a2 a3 a4 a5 a6 cb ci tp tl vo np rp rl rc sb sa) sz) := by
  refine kM_v (cc := cX0_addToByte) (maxL := 3) (by decide) rfl (Nat.le_of_ble_eq_true rfl) ?_
  intro p e s m below meth c A Q ls H locs S hP hK hD hS hA hl hret
  obtain ⟨hx, hb, hml, hown, hts⟩ := id S
  have hin0 : ∀ w ∈ u_ws RX0 TX0 9, w ∈ wsX0_addToByte := fun _ h => List.mem_cons_of_mem _ (List.mem_append_right _ h)
  have lkf13 := hts (.fieldLink RX0 13 "BlockTape" "volume" "[B") (by decide +kernel)
  have hl : lv_has ls 3 [(0, .ref h), (1, .int (nI k)), (2, .int v)] := hl
  refine lv_aload_n hx hb dX0_addToByte_0 rfl (lv_at hl 0 rfl) ?_
  refine va_get (D := (dC, dI)) (ci := 0) (v := .ref a2) (C := RX0) (T := TX0) (N := 9) hx hb hts hin0 hown hK hP 0 rfl rfl 2 (by decide) lkf13 (fun _ h9 => h9) rfl dX0_addToByte_1 ?_
  refine lv_iload_n hx hb dX0_addToByte_4 rfl (lv_at hl 1 rfl) ?_
  refine lv_aload_n hx hb dX0_addToByte_5 rfl (lv_at hl 0 rfl) ?_
  refine va_get (D := (dC, dI)) (ci := 0) (v := .ref a2) (C := RX0) (T := TX0) (N := 9) hx hb hts hin0 hown hK hP 0 rfl rfl 2 (by decide) lkf13 (fun _ h9 => h9) rfl dX0_addToByte_6 ?_
  refine lv_iload_n hx hb dX0_addToByte_9 rfl (lv_at hl 1 rfl) ?_
  refine ka_bald hx hb hK hP 2 0 rfl rfl (k := k) (by omega) (by decide) dX0_addToByte_10 ?_
  refine lv_iload_n hx hb dX0_addToByte_11 rfl (lv_at hl 2 rfl) ?_
  refine lv_iadd hx hb dX0_addToByte_12 ?_
  refine lv_i2b (v := bn ((vo k) + v)) hx hb dX0_addToByte_13 rfl ?_
  refine ka_bast hx hb hK hP hD hS 2 0 rfl rfl (k := k) (x := bn ((vo k) + v)) (by omega) (by decide) (pk_vb _) dX0_addToByte_14 (fun H locs hP hD hS => ?_)
  have hP : va_P (dC, dI) vwCl (wB h a1 a2 a3 a4 a5 a6 cb ci tp tl (upd vo k (bn ((vo k) + v))) np rp rl rc sb sa) H := hP
  have hD : va_D A (wB h a1 a2 a3 a4 a5 a6 cb ci tp tl (upd vo k (bn ((vo k) + v))) np rp rl rc sb sa) := hD
  have hP : va_P (dC, dI) vwCl (wB h a1 a2 a3 a4 a5 a6 cb ci tp tl (upd vo k (bn (vo k + v))) np rp rl rc sb sa) H := hP
  have hD : va_D A (wB h a1 a2 a3 a4 a5 a6 cb ci tp tl (upd vo k (bn (vo k + v))) np rp rl rc sb sa) := hD
  exact hret _ _ _ _ hP hD hS dX0_addToByte_15
set_option maxHeartbeats 4000000 in
set_option maxRecDepth 100000 in
theorem c_noteBeginning (l : Launch) (dC : Nat → ClassId) (dI : Nat → Nat → Nat) (h a1 a2 a3 a4 a5 a6 : Nat) (cb ci : ClassId) (tp : Nat → Int32) (tl : Nat) (vo : Nat → Int32) (np : Nat) (rp rl : Nat → Nat) (rc : Nat) (sb sa : Nat → Nat) (sz : Nat) (hnp : np < 4480) : Met l yX0_noteBeginning wsX0_noteBeginning ({ frames := 0, cells := 0, slots := 0, locals := 0 }) (kPre (dC, dI) vwCl (wB h a1 a2 a3 a4 a5 a6 cb ci tp tl vo np rp rl rc sb sa) (tB cb ci) sz [.ref h]) (kQv (dC, dI) vwCl (wB h a1 a2 a3 a4 a5 a6 cb ci tp tl vo np rp rl rc sb sa) (tB cb ci) sz (wB h a1 a2 a3 a4 a5 a6 cb ci tp tl (ntB vo np) np rp rl rc sb sa)) 0 0 (va_A (wB h a1 a2 a3 a4 a5 a6 cb ci tp tl vo np rp rl rc sb sa) sz) := by
  refine kM_v (cc := cX0_noteBeginning) (maxL := 2) (by decide) rfl (Nat.le_of_ble_eq_true rfl) ?_
  intro p e s m below meth c A Q ls H locs S hP hK hD hS hA hl hret
  obtain ⟨hx, hb, hml, hown, hts⟩ := id S
  have hin0 : ∀ w ∈ u_ws RX0 TX0 9, w ∈ wsX0_noteBeginning := fun _ h => List.mem_cons_of_mem _ (List.mem_append_right _ h)
  have lkf44 := hts (.fieldLink RX0 44 "BlockTape" "nextPlace" "I") (by decide +kernel)
  have lkf13 := hts (.fieldLink RX0 13 "BlockTape" "volume" "[B") (by decide +kernel)
  have hl : lv_has ls 2 [(0, .ref h)] := hl
  refine lv_aload_n hx hb dX0_noteBeginning_0 rfl (lv_at hl 0 rfl) ?_
  refine va_get (D := (dC, dI)) (ci := 0) (v := .int (nI np)) (C := RX0) (T := TX0) (N := 9) hx hb hts hin0 hown hK hP 0 rfl rfl 3 (by decide) lkf44 (fun _ h9 => h9) rfl dX0_noteBeginning_1 ?_
  refine lv_bipush (v := nI 56) hx hb dX0_noteBeginning_4 (by decide) ?_
  refine lv_idiv hx hb dX0_noteBeginning_6 (by decide) ?_
  refine kv_top (show _ = nI (np / 56) from pk_div (by omega) (by omega) (by omega)) ?_
  refine lv_bipush (v := nI 64) hx hb dX0_noteBeginning_7 (by decide) ?_
  refine lv_imul hx hb dX0_noteBeginning_9 ?_
  refine kv_top (show _ = nI ((np / 56) * 64) from pk_mul _ _) ?_
  refine lv_iconst (v := nI 3) hx hb dX0_noteBeginning_10 (by decide) ?_
  refine lv_iadd hx hb dX0_noteBeginning_11 ?_
  refine kv_top (show _ = nI (((np / 56) * 64) + 3) from nI_add _ _) ?_
  refine lv_istore_n (lv' := [(1, .int (nI (((np / 56) * 64) + 3))), (0, .ref h)]) hx hb dX0_noteBeginning_12 rfl hl (by decide) rfl (fun ls hl => ?_)
  refine lv_aload_n hx hb dX0_noteBeginning_13 rfl (lv_at hl 1 rfl) ?_
  refine va_get (D := (dC, dI)) (ci := 0) (v := .ref a2) (C := RX0) (T := TX0) (N := 9) hx hb hts hin0 hown hK hP 0 rfl rfl 2 (by decide) lkf13 (fun _ h9 => h9) rfl dX0_noteBeginning_14 ?_
  refine lv_iload_n hx hb dX0_noteBeginning_17 rfl (lv_at hl 0 rfl) ?_
  refine ka_bald hx hb hK hP 2 0 rfl rfl (k := ((np / 56) * 64) + 3) (by omega) (by decide) dX0_noteBeginning_18 ?_
  refine lv_iconst (v := (-1)) hx hb dX0_noteBeginning_19 (by decide) ?_
  refine lv_icmp_ne (tgt := 37) hx hb dX0_noteBeginning_20 (by decide) (fun c_20 => ?_) (fun c_20 => ?_)
  · have hwE : wB h a1 a2 a3 a4 a5 a6 cb ci tp tl vo np rp rl rc sb sa = wB h a1 a2 a3 a4 a5 a6 cb ci tp tl (ntB vo np) np rp rl rc sb sa := by rw [ntB, if_neg c_20]
    rw [hwE] at hP hD
    exact hret _ _ _ _ hP hD hS dX0_noteBeginning_37
  · refine lv_aload_n hx hb dX0_noteBeginning_23 rfl (lv_at hl 1 rfl) ?_
    refine va_get (D := (dC, dI)) (ci := 0) (v := .ref a2) (C := RX0) (T := TX0) (N := 9) hx hb hts hin0 hown hK hP 0 rfl rfl 2 (by decide) lkf13 (fun _ h9 => h9) rfl dX0_noteBeginning_24 ?_
    refine lv_iload_n hx hb dX0_noteBeginning_27 rfl (lv_at hl 0 rfl) ?_
    refine lv_aload_n hx hb dX0_noteBeginning_28 rfl (lv_at hl 1 rfl) ?_
    refine va_get (D := (dC, dI)) (ci := 0) (v := .int (nI np)) (C := RX0) (T := TX0) (N := 9) hx hb hts hin0 hown hK hP 0 rfl rfl 3 (by decide) lkf44 (fun _ h9 => h9) rfl dX0_noteBeginning_29 ?_
    refine lv_bipush (v := nI 56) hx hb dX0_noteBeginning_32 (by decide) ?_
    refine lv_irem hx hb dX0_noteBeginning_34 (by decide) ?_
    refine kv_top (show _ = nI (np % 56) from pk_rem (by omega) (by omega) (by omega)) ?_
    refine lv_i2b (v := bn (nI (np % 56))) hx hb dX0_noteBeginning_35 rfl ?_
    refine ka_bast hx hb hK hP hD hS 2 0 rfl rfl (k := ((np / 56) * 64) + 3) (x := bn (nI (np % 56))) (by omega) (by decide) (pk_vb _) dX0_noteBeginning_36 (fun H locs hP hD hS => ?_)
    have hP : va_P (dC, dI) vwCl (wB h a1 a2 a3 a4 a5 a6 cb ci tp tl (upd vo (((np / 56) * 64) + 3) (bn (nI (np % 56)))) np rp rl rc sb sa) H := hP
    have hD : va_D A (wB h a1 a2 a3 a4 a5 a6 cb ci tp tl (upd vo (((np / 56) * 64) + 3) (bn (nI (np % 56)))) np rp rl rc sb sa) := hD
    have hwE : wB h a1 a2 a3 a4 a5 a6 cb ci tp tl (upd vo (((np / 56) * 64) + 3) (bn (nI (np % 56)))) np rp rl rc sb sa = wB h a1 a2 a3 a4 a5 a6 cb ci tp tl (ntB vo np) np rp rl rc sb sa := by rw [ntB, if_pos c_20]
    rw [hwE] at hP hD
    exact hret _ _ _ _ hP hD hS dX0_noteBeginning_37
set_option maxHeartbeats 4000000 in
set_option maxRecDepth 100000 in
theorem c_crcOver (l : Launch) (dC : Nat → ClassId) (dI : Nat → Nat → Nat) (h a1 a2 a3 a4 a5 a6 : Nat) (cb ci : ClassId) (tp : Nat → Int32) (tl : Nat) (vo : Nat → Int32) (np : Nat) (rp rl : Nat → Nat) (rc : Nat) (sb sa : Nat → Nat) (sz : Nat) (c0 : Int32) (f : Nat) (t : Nat) (hf : f ≤ t) (ht : t ≤ 5120) : Met l yX0_crcOver wsX0_crcOver ({ frames := 0, cells := 0, slots := 0, locals := 0 }) (kPre (dC, dI) vwCl (wB h a1 a2 a3 a4 a5 a6 cb ci tp tl vo np rp rl rc sb sa) (tB cb ci) sz [.ref h, .int c0, .int (nI f), .int (nI t)]) (kQi (dC, dI) vwCl (wB h a1 a2 a3 a4 a5 a6 cb ci tp tl vo np rp rl rc sb sa) (tB cb ci) sz (crcB vo c0 f (t - f)) (wB h a1 a2 a3 a4 a5 a6 cb ci tp tl vo np rp rl rc sb sa)) 0 0 (va_A (wB h a1 a2 a3 a4 a5 a6 cb ci tp tl vo np rp rl rc sb sa) sz) := by
  refine kM_i (cc := cX0_crcOver) (maxL := 7) (by decide) rfl (Nat.le_of_ble_eq_true rfl) ?_
  intro p e s m below meth c A Q ls H locs S hP hK hD hS hA hl hret
  obtain ⟨hx, hb, hml, hown, hts⟩ := id S
  have hin0 : ∀ w ∈ u_ws RX0 TX0 9, w ∈ wsX0_crcOver := fun _ h => List.mem_cons_of_mem _ (List.mem_append_right _ h)
  have lkf13 := hts (.fieldLink RX0 13 "BlockTape" "volume" "[B") (by decide +kernel)
  have lkc106 := hts (.constant RX0 106 (-306674912)) (by decide +kernel)
  have hl : lv_has ls 7 [(0, .ref h), (1, .int c0), (2, .int (nI f)), (3, .int (nI t))] := hl
  refine lv_iload_n hx hb dX0_crcOver_0 rfl (lv_at hl 1 rfl) ?_
  refine lv_istore (lv' := [(4, .int c0), (0, .ref h), (1, .int c0), (2, .int (nI f)), (3, .int (nI t))]) hx hb dX0_crcOver_1 hl (by decide) rfl (fun ls hl => ?_)
  refine lv_iload_n hx hb dX0_crcOver_3 rfl (lv_at hl 3 rfl) ?_
  refine lv_istore (lv' := [(5, .int (nI f)), (4, .int c0), (0, .ref h), (1, .int c0), (2, .int (nI f)), (3, .int (nI t))]) hx hb dX0_crcOver_4 hl (by decide) rfl (fun ls hl => ?_)
  have hloopk : ∀ (n k : Nat), k ≤ t - f → t - f + 1 ≤ k + n → ∀ (H : Heap) (locs : List Loc) (ls : Array Slot), va_P (dC, dI) vwCl (wB h a1 a2 a3 a4 a5 a6 cb ci tp tl vo np rp rl rc sb sa) H → va_D A (wB h a1 a2 a3 a4 a5 a6 cb ci tp tl vo np rp rl rc sb sa) → va_S A s.heap H locs → lv_has ls 7 [(4, .int (crcB vo c0 f k)), (5, .int (nI (f + k))), (0, .ref h), (3, .int (nI t))] → W p l e ({ frames := 0, cells := 0, slots := 0, locals := 0 }) s m ([.ref h, .int c0, .int (nI f), .int (nI t)] : List Value).toArray below meth c H locs 0 0 Q (F0 m 6 ls []) := by
    intro n
    induction n with
    | zero => intro k h1 h2; exact absurd h2 (by omega)
    | succ n ih =>
      intro k hkA hkB H locs ls hP hD hS hl
      refine lv_iload hx hb dX0_crcOver_6 (lv_at hl 1 rfl) ?_
      refine lv_iload_n hx hb dX0_crcOver_8 rfl (lv_at hl 3 rfl) ?_
      refine lv_icmp_ge (tgt := 73) hx hb dX0_crcOver_9 (by decide) (fun c_9 => ?_) (fun c_9 => ?_)
      · have c_9 := (nI_leI (by omega) (by omega)).mp c_9
        have hkE : k = t - f := by omega
        subst hkE
        refine lv_iload hx hb dX0_crcOver_73 (lv_at hl 0 rfl) ?_
        exact hret _ _ _ _ hP hD hS dX0_crcOver_75
      · have c_9 := kmt (nI_leI (by omega) (by omega)).mpr c_9
        refine lv_iload hx hb dX0_crcOver_12 (lv_at hl 0 rfl) ?_
        refine lv_aload_n hx hb dX0_crcOver_14 rfl (lv_at hl 2 rfl) ?_
        refine va_get (D := (dC, dI)) (ci := 0) (v := .ref a2) (C := RX0) (T := TX0) (N := 9) hx hb hts hin0 hown hK hP 0 rfl rfl 2 (by decide) lkf13 (fun _ h9 => h9) rfl dX0_crcOver_15 ?_
        refine lv_iload hx hb dX0_crcOver_18 (lv_at hl 1 rfl) ?_
        refine ka_bald hx hb hK hP 2 0 rfl rfl (k := f + k) (by omega) (by decide) dX0_crcOver_20 ?_
        refine lv_sipush (v := nI 255) hx hb dX0_crcOver_21 (by decide) ?_
        refine lv_iand hx hb dX0_crcOver_24 ?_
        refine lv_ixor hx hb dX0_crcOver_25 ?_
        refine lv_istore (lv' := [(4, .int ((crcB vo c0 f k) ^^^ ((vo (f + k)) &&& (nI 255)))), (5, .int (nI (f + k))), (0, .ref h), (3, .int (nI t))]) hx hb dX0_crcOver_26 hl (by decide) rfl (fun ls hl => ?_)
        refine lv_iconst (v := nI 0) hx hb dX0_crcOver_28 (by decide) ?_
        refine lv_istore (lv' := [(6, .int (nI 0)), (4, .int ((crcB vo c0 f k) ^^^ ((vo (f + k)) &&& (nI 255)))), (5, .int (nI (f + k))), (0, .ref h), (3, .int (nI t))]) hx hb dX0_crcOver_29 hl (by decide) rfl (fun ls hl => ?_)
        have hloopj : ∀ (n2 j : Nat), j ≤ 8 → 8 + 1 ≤ j + n2 → ∀ (H : Heap) (locs : List Loc) (ls : Array Slot), va_P (dC, dI) vwCl (wB h a1 a2 a3 a4 a5 a6 cb ci tp tl vo np rp rl rc sb sa) H → va_D A (wB h a1 a2 a3 a4 a5 a6 cb ci tp tl vo np rp rl rc sb sa) → va_S A s.heap H locs → lv_has ls 7 [(4, .int (crcN (crcB vo c0 f k ^^^ (vo (f + k) &&& nI 255)) j)), (6, .int (nI j)), (0, .ref h), (3, .int (nI t)), (5, .int (nI (f + k)))] → W p l e ({ frames := 0, cells := 0, slots := 0, locals := 0 }) s m ([.ref h, .int c0, .int (nI f), .int (nI t)] : List Value).toArray below meth c H locs 0 0 Q (F0 m 31 ls []) := by
          intro n2
          induction n2 with
          | zero => intro j h1 h2; exact absurd h2 (by omega)
          | succ n2 ih2 =>
            intro j hjA hjB H locs ls hP hD hS hl
            refine lv_iload hx hb dX0_crcOver_31 (lv_at hl 1 rfl) ?_
            refine lv_bipush (v := nI 8) hx hb dX0_crcOver_33 (by decide) ?_
            refine lv_icmp_ge (tgt := 67) hx hb dX0_crcOver_35 (by decide) (fun c_35 => ?_) (fun c_35 => ?_)
            · have c_35 := (nI_leI (by omega) (by omega)).mp c_35
              have hjE : j = 8 := by omega
              subst hjE
              refine lv_iinc (v := nI ((f + k) + 1)) (lv' := [(5, .int (nI ((f + k) + 1))), (4, .int (crcN (crcB vo c0 f k ^^^ (vo (f + k) &&& nI 255)) 8)), (6, .int (nI 8)), (0, .ref h), (3, .int (nI t))]) hx hb dX0_crcOver_67 hl (k := 4) rfl (ki_inc _) (by decide) rfl (fun ls hl => ?_)
              refine lv_goto (tgt := 6) hx hb dX0_crcOver_70 (by decide) ?_
              have hP : va_P (dC, dI) vwCl (wB h a1 a2 a3 a4 a5 a6 cb ci tp tl vo np rp rl rc sb sa) H := hP
              have hD : va_D A (wB h a1 a2 a3 a4 a5 a6 cb ci tp tl vo np rp rl rc sb sa) := hD
              exact ih (k + 1) (by omega) (by omega) _ _ _ hP hD hS (lv_sub hl [1, 0, 3, 4] rfl)
            · have c_35 := kmt (nI_leI (by omega) (by omega)).mpr c_35
              refine lv_iload hx hb dX0_crcOver_38 (lv_at hl 0 rfl) ?_
              refine lv_iconst (v := nI 1) hx hb dX0_crcOver_40 (by decide) ?_
              refine lv_iand hx hb dX0_crcOver_41 ?_
              refine lv_if_eq (tgt := 55) hx hb dX0_crcOver_42 (by decide) (fun c_42 => ?_) (fun c_42 => ?_)
              · refine lv_iload hx hb dX0_crcOver_55 (lv_at hl 0 rfl) ?_
                refine lv_iconst (v := nI 1) hx hb dX0_crcOver_57 (by decide) ?_
                refine lv_iushr (v := ush (crcN (crcB vo c0 f k ^^^ (vo (f + k) &&& nI 255)) j) 1) hx hb dX0_crcOver_58 rfl ?_
                refine kv_top (show _ = crcN (crcB vo c0 f k ^^^ (vo (f + k) &&& nI 255)) (j + 1) from (by show _ = crc1 _; rw [crc1, if_pos c_42])) ?_
                refine lv_istore (lv' := [(4, .int (crcN (crcB vo c0 f k ^^^ (vo (f + k) &&& nI 255)) (j + 1))), (6, .int (nI j)), (0, .ref h), (3, .int (nI t)), (5, .int (nI (f + k)))]) hx hb dX0_crcOver_59 hl (by decide) rfl (fun ls hl => ?_)
                refine lv_iinc (v := nI (j + 1)) (lv' := [(6, .int (nI (j + 1))), (4, .int (crcN (crcB vo c0 f k ^^^ (vo (f + k) &&& nI 255)) (j + 1))), (0, .ref h), (3, .int (nI t)), (5, .int (nI (f + k)))]) hx hb dX0_crcOver_61 hl (k := 1) rfl (ki_inc _) (by decide) rfl (fun ls hl => ?_)
                refine lv_goto (tgt := 31) hx hb dX0_crcOver_64 (by decide) ?_
                have hP : va_P (dC, dI) vwCl (wB h a1 a2 a3 a4 a5 a6 cb ci tp tl vo np rp rl rc sb sa) H := hP
                have hD : va_D A (wB h a1 a2 a3 a4 a5 a6 cb ci tp tl vo np rp rl rc sb sa) := hD
                exact ih2 (j + 1) (by omega) (by omega) _ _ _ hP hD hS (lv_sub hl [1, 0, 2, 3, 4] rfl)
              · refine lv_iload hx hb dX0_crcOver_45 (lv_at hl 0 rfl) ?_
                refine lv_iconst (v := nI 1) hx hb dX0_crcOver_47 (by decide) ?_
                refine lv_iushr (v := ush (crcN (crcB vo c0 f k ^^^ (vo (f + k) &&& nI 255)) j) 1) hx hb dX0_crcOver_48 rfl ?_
                refine lv_ldc (v := (-306674912)) hx hb hown lkc106 dX0_crcOver_49 ?_
                refine lv_ixor hx hb dX0_crcOver_51 ?_
                refine lv_goto (tgt := 59) hx hb dX0_crcOver_52 (by decide) ?_
                refine kv_top (show _ = crcN (crcB vo c0 f k ^^^ (vo (f + k) &&& nI 255)) (j + 1) from (by show _ = crc1 _; rw [crc1, if_neg c_42])) ?_
                refine lv_istore (lv' := [(4, .int (crcN (crcB vo c0 f k ^^^ (vo (f + k) &&& nI 255)) (j + 1))), (6, .int (nI j)), (0, .ref h), (3, .int (nI t)), (5, .int (nI (f + k)))]) hx hb dX0_crcOver_59 hl (by decide) rfl (fun ls hl => ?_)
                refine lv_iinc (v := nI (j + 1)) (lv' := [(6, .int (nI (j + 1))), (4, .int (crcN (crcB vo c0 f k ^^^ (vo (f + k) &&& nI 255)) (j + 1))), (0, .ref h), (3, .int (nI t)), (5, .int (nI (f + k)))]) hx hb dX0_crcOver_61 hl (k := 1) rfl (ki_inc _) (by decide) rfl (fun ls hl => ?_)
                refine lv_goto (tgt := 31) hx hb dX0_crcOver_64 (by decide) ?_
                have hP : va_P (dC, dI) vwCl (wB h a1 a2 a3 a4 a5 a6 cb ci tp tl vo np rp rl rc sb sa) H := hP
                have hD : va_D A (wB h a1 a2 a3 a4 a5 a6 cb ci tp tl vo np rp rl rc sb sa) := hD
                exact ih2 (j + 1) (by omega) (by omega) _ _ _ hP hD hS (lv_sub hl [1, 0, 2, 3, 4] rfl)
        have hP : va_P (dC, dI) vwCl (wB h a1 a2 a3 a4 a5 a6 cb ci tp tl vo np rp rl rc sb sa) H := hP
        have hD : va_D A (wB h a1 a2 a3 a4 a5 a6 cb ci tp tl vo np rp rl rc sb sa) := hD
        exact hloopj (8 + 1) 0 (by omega) (by omega) _ _ _ hP hD hS (lv_sub hl [1, 0, 3, 4, 2] rfl)
  have hP : va_P (dC, dI) vwCl (wB h a1 a2 a3 a4 a5 a6 cb ci tp tl vo np rp rl rc sb sa) H := hP
  have hD : va_D A (wB h a1 a2 a3 a4 a5 a6 cb ci tp tl vo np rp rl rc sb sa) := hD
  exact hloopk ((t - f) + 1) 0 (by omega) (by omega) _ _ _ hP hD hS (lv_sub hl [1, 0, 2, 5] rfl)
set_option maxHeartbeats 4000000 in
set_option maxRecDepth 100000 in
theorem c_sumOfBlock (l : Launch) (dC : Nat → ClassId) (dI : Nat → Nat → Nat) (h a1 a2 a3 a4 a5 a6 : Nat) (cb ci : ClassId) (tp : Nat → Int32) (tl : Nat) (vo : Nat → Int32) (np : Nat) (rp rl : Nat → Nat) (rc : Nat) (sb sa : Nat → Nat) (sz : Nat) (st : Nat) (hst : st + 64 ≤ 5120) : Met l yX0_sumOfBlock wsX0_sumOfBlock ({ frames := 1, cells := 0, slots := 0, locals := 26 }) (kPre (dC, dI) vwCl (wB h a1 a2 a3 a4 a5 a6 cb ci tp tl vo np rp rl rc sb sa) (tB cb ci) sz [.ref h, .int (nI st)]) (kQi (dC, dI) vwCl (wB h a1 a2 a3 a4 a5 a6 cb ci tp tl vo np rp rl rc sb sa) (tB cb ci) sz (sumB vo st) (wB h a1 a2 a3 a4 a5 a6 cb ci tp tl vo np rp rl rc sb sa)) 0 0 (va_A (wB h a1 a2 a3 a4 a5 a6 cb ci tp tl vo np rp rl rc sb sa) sz) := by
  refine kM_i (cc := cX0_sumOfBlock) (maxL := 3) (by decide) rfl (Nat.le_of_ble_eq_true rfl) ?_
  intro p e s m below meth c A Q ls H locs S hP hK hD hS hA hl hret
  obtain ⟨hx, hb, hml, hown, hts⟩ := id S
  have hl : lv_has ls 3 [(0, .ref h), (1, .int (nI st))] := hl
  refine lv_aload_n hx hb dX0_sumOfBlock_0 rfl (lv_at hl 0 rfl) ?_
  refine lv_iconst (v := (-1)) hx hb dX0_sumOfBlock_1 (by decide) ?_
  refine lv_iload_n hx hb dX0_sumOfBlock_2 rfl (lv_at hl 1 rfl) ?_
  refine lv_iload_n hx hb dX0_sumOfBlock_3 rfl (lv_at hl 1 rfl) ?_
  refine lv_iconst (v := nI 4) hx hb dX0_sumOfBlock_4 (by decide) ?_
  refine lv_iadd hx hb dX0_sumOfBlock_5 ?_
  refine kv_top (show _ = nI (st + 4) from nI_add _ _) ?_
  refine kc_vi (WR := []) (As := [.int ((-1)), .int (nI st), .int (nI (st + 4))]) (rest := []) ⟨hx, hb, hml, hown, hts⟩ (c_crcOver l dC dI h a1 a2 a3 a4 a5 a6 cb ci tp tl vo np rp rl rc sb sa H.size ((-1)) st (st + 4) (by omega) (by omega)) (cwV 3 hts gX0_sumOfBlock_X0_crcOver rfl rfl rfl (by decide +kernel) ⟨Nat.le_of_ble_eq_true rfl, Nat.le_of_ble_eq_true rfl⟩) hK hP hD hS hA [0, 1, 2, 3, 4, 5, 6] [] [0, 1] rfl rfl (by decide) (by decide) (by decide) rfl 0 0 rfl rfl rfl rfl hl.1 rfl (Nat.le_of_ble_eq_true rfl) dX0_sumOfBlock_6 ⟨Nat.zero_le _, Nat.zero_le _⟩ (fun H locs hP hD hS => ?_)
  have hP : va_P (dC, dI) vwCl (wB h a1 a2 a3 a4 a5 a6 cb ci tp tl vo np rp rl rc sb sa) H := hP
  have hD : va_D A (wB h a1 a2 a3 a4 a5 a6 cb ci tp tl vo np rp rl rc sb sa) := hD
  refine kv_top (show _ = crcB vo (-1) st 4 from by rw [show st + 4 - st = 4 by omega]) ?_
  refine lv_istore_n (lv' := [(2, .int (crcB vo (-1) st 4)), (0, .ref h), (1, .int (nI st))]) hx hb dX0_sumOfBlock_9 rfl hl (by decide) rfl (fun ls hl => ?_)
  refine lv_aload_n hx hb dX0_sumOfBlock_10 rfl (lv_at hl 1 rfl) ?_
  refine lv_iload_n hx hb dX0_sumOfBlock_11 rfl (lv_at hl 0 rfl) ?_
  refine lv_iload_n hx hb dX0_sumOfBlock_12 rfl (lv_at hl 2 rfl) ?_
  refine lv_bipush (v := nI 8) hx hb dX0_sumOfBlock_13 (by decide) ?_
  refine lv_iadd hx hb dX0_sumOfBlock_15 ?_
  refine kv_top (show _ = nI (st + 8) from nI_add _ _) ?_
  refine lv_iload_n hx hb dX0_sumOfBlock_16 rfl (lv_at hl 2 rfl) ?_
  refine lv_bipush (v := nI 64) hx hb dX0_sumOfBlock_17 (by decide) ?_
  refine lv_iadd hx hb dX0_sumOfBlock_19 ?_
  refine kv_top (show _ = nI (st + 64) from nI_add _ _) ?_
  refine kc_vi (WR := []) (As := [.int (crcB vo (-1) st 4), .int (nI (st + 8)), .int (nI (st + 64))]) (rest := []) ⟨hx, hb, hml, hown, hts⟩ (c_crcOver l dC dI h a1 a2 a3 a4 a5 a6 cb ci tp tl vo np rp rl rc sb sa H.size (crcB vo (-1) st 4) (st + 8) (st + 64) (by omega) (by omega)) (cwV 3 hts gX0_sumOfBlock_X0_crcOver rfl rfl rfl (by decide +kernel) ⟨Nat.le_of_ble_eq_true rfl, Nat.le_of_ble_eq_true rfl⟩) hK hP hD hS hA [0, 1, 2, 3, 4, 5, 6] [] [0, 1] rfl rfl (by decide) (by decide) (by decide) rfl 0 0 rfl rfl rfl rfl hl.1 rfl (Nat.le_of_ble_eq_true rfl) dX0_sumOfBlock_20 ⟨Nat.zero_le _, Nat.zero_le _⟩ (fun H locs hP hD hS => ?_)
  have hP : va_P (dC, dI) vwCl (wB h a1 a2 a3 a4 a5 a6 cb ci tp tl vo np rp rl rc sb sa) H := hP
  have hD : va_D A (wB h a1 a2 a3 a4 a5 a6 cb ci tp tl vo np rp rl rc sb sa) := hD
  refine kv_top (show _ = crcB vo (crcB vo (-1) st 4) (st + 8) 56 from by rw [show st + 64 - (st + 8) = 56 by omega]) ?_
  refine lv_iconst (v := (-1)) hx hb dX0_sumOfBlock_23 (by decide) ?_
  refine lv_ixor hx hb dX0_sumOfBlock_24 ?_
  refine kv_top (show _ = sumB vo st from rfl) ?_
  exact hret _ _ _ _ hP hD hS dX0_sumOfBlock_25
set_option maxHeartbeats 4000000 in
set_option maxRecDepth 100000 in
theorem c_writeBlock (l : Launch) (dC : Nat → ClassId) (dI : Nat → Nat → Nat) (h a1 a2 a3 a4 a5 a6 : Nat) (cb ci : ClassId) (tp : Nat → Int32) (tl : Nat) (vo : Nat → Int32) (np : Nat) (rp rl : Nat → Nat) (rc : Nat) (sb sa : Nat → Nat) (sz : Nat) (b : Nat) (u : Nat) (hb80 : b < 80) (hu : u ≤ 56) : Met l yX0_writeBlock wsX0_writeBlock ({ frames := 2, cells := 0, slots := 0, locals := 48 }) (kPre (dC, dI) vwCl (wB h a1 a2 a3 a4 a5 a6 cb ci tp tl vo np rp rl rc sb sa) (tB cb ci) sz [.ref h, .int (nI b), .int (nI u)]) (kQv (dC, dI) vwCl (wB h a1 a2 a3 a4 a5 a6 cb ci tp tl vo np rp rl rc sb sa) (tB cb ci) sz (wB h a1 a2 a3 a4 a5 a6 cb ci tp tl (wbV vo b u) np rp rl rc sb sa)) 0 0 (va_A (wB h a1 a2 a3 a4 a5 a6 cb ci tp tl vo np rp rl rc sb sa) sz) := by
  refine kM_v (cc := cX0_writeBlock) (maxL := 6) (by decide) rfl (Nat.le_of_ble_eq_true rfl) ?_
  intro p e s m below meth c A Q ls H locs S hP hK hD hS hA hl hret
  obtain ⟨hx, hb, hml, hown, hts⟩ := id S
  have hin0 : ∀ w ∈ u_ws RX0 TX0 9, w ∈ wsX0_writeBlock := fun _ h => List.mem_cons_of_mem _ (List.mem_append_right _ h)
  have lkf13 := hts (.fieldLink RX0 13 "BlockTape" "volume" "[B") (by decide +kernel)
  have hl : lv_has ls 6 [(0, .ref h), (1, .int (nI b)), (2, .int (nI u))] := hl
  refine lv_iload_n hx hb dX0_writeBlock_0 rfl (lv_at hl 1 rfl) ?_
  refine lv_bipush (v := nI 64) hx hb dX0_writeBlock_1 (by decide) ?_
  refine lv_imul hx hb dX0_writeBlock_3 ?_
  refine kv_top (show _ = nI (b * 64) from pk_mul _ _) ?_
  refine lv_istore_n (lv' := [(3, .int (nI (b * 64))), (0, .ref h), (1, .int (nI b)), (2, .int (nI u))]) hx hb dX0_writeBlock_4 rfl hl (by decide) rfl (fun ls hl => ?_)
  refine lv_aload_n hx hb dX0_writeBlock_5 rfl (lv_at hl 1 rfl) ?_
  refine va_get (D := (dC, dI)) (ci := 0) (v := .ref a2) (C := RX0) (T := TX0) (N := 9) hx hb hts hin0 hown hK hP 0 rfl rfl 2 (by decide) lkf13 (fun _ h9 => h9) rfl dX0_writeBlock_6 ?_
  refine lv_iload_n hx hb dX0_writeBlock_9 rfl (lv_at hl 0 rfl) ?_
  refine lv_iload_n hx hb dX0_writeBlock_10 rfl (lv_at hl 2 rfl) ?_
  refine lv_bipush (v := nI 8) hx hb dX0_writeBlock_11 (by decide) ?_
  refine lv_iushr (v := ush (nI b) 8) hx hb dX0_writeBlock_13 rfl ?_
  refine lv_i2b (v := bn (ush (nI b) 8)) hx hb dX0_writeBlock_14 rfl ?_
  refine ka_bast hx hb hK hP hD hS 2 0 rfl rfl (k := b * 64) (x := bn (ush (nI b) 8)) (by omega) (by decide) (pk_vb _) dX0_writeBlock_15 (fun H locs hP hD hS => ?_)
  have hP : va_P (dC, dI) vwCl (wB h a1 a2 a3 a4 a5 a6 cb ci tp tl (upd vo (b * 64) (bn (ush (nI b) 8))) np rp rl rc sb sa) H := hP
  have hD : va_D A (wB h a1 a2 a3 a4 a5 a6 cb ci tp tl (upd vo (b * 64) (bn (ush (nI b) 8))) np rp rl rc sb sa) := hD
  refine lv_aload_n hx hb dX0_writeBlock_16 rfl (lv_at hl 1 rfl) ?_
  refine va_get (D := (dC, dI)) (ci := 0) (v := .ref a2) (C := RX0) (T := TX0) (N := 9) hx hb hts hin0 hown hK hP 0 rfl rfl 2 (by decide) lkf13 (fun _ h9 => h9) rfl dX0_writeBlock_17 ?_
  refine lv_iload_n hx hb dX0_writeBlock_20 rfl (lv_at hl 0 rfl) ?_
  refine lv_iconst (v := nI 1) hx hb dX0_writeBlock_21 (by decide) ?_
  refine lv_iadd hx hb dX0_writeBlock_22 ?_
  refine kv_top (show _ = nI ((b * 64) + 1) from nI_add _ _) ?_
  refine lv_iload_n hx hb dX0_writeBlock_23 rfl (lv_at hl 2 rfl) ?_
  refine lv_i2b (v := bn (nI b)) hx hb dX0_writeBlock_24 rfl ?_
  refine ka_bast hx hb hK hP hD hS 2 0 rfl rfl (k := (b * 64) + 1) (x := bn (nI b)) (by omega) (by decide) (pk_vb _) dX0_writeBlock_25 (fun H locs hP hD hS => ?_)
  have hP : va_P (dC, dI) vwCl (wB h a1 a2 a3 a4 a5 a6 cb ci tp tl (upd (upd vo (b * 64) (bn (ush (nI b) 8))) ((b * 64) + 1) (bn (nI b))) np rp rl rc sb sa) H := hP
  have hD : va_D A (wB h a1 a2 a3 a4 a5 a6 cb ci tp tl (upd (upd vo (b * 64) (bn (ush (nI b) 8))) ((b * 64) + 1) (bn (nI b))) np rp rl rc sb sa) := hD
  refine lv_aload_n hx hb dX0_writeBlock_26 rfl (lv_at hl 1 rfl) ?_
  refine va_get (D := (dC, dI)) (ci := 0) (v := .ref a2) (C := RX0) (T := TX0) (N := 9) hx hb hts hin0 hown hK hP 0 rfl rfl 2 (by decide) lkf13 (fun _ h9 => h9) rfl dX0_writeBlock_27 ?_
  refine lv_iload_n hx hb dX0_writeBlock_30 rfl (lv_at hl 0 rfl) ?_
  refine lv_iconst (v := nI 2) hx hb dX0_writeBlock_31 (by decide) ?_
  refine lv_iadd hx hb dX0_writeBlock_32 ?_
  refine kv_top (show _ = nI ((b * 64) + 2) from nI_add _ _) ?_
  refine lv_iload_n hx hb dX0_writeBlock_33 rfl (lv_at hl 3 rfl) ?_
  refine lv_i2b (v := bn (nI u)) hx hb dX0_writeBlock_34 rfl ?_
  refine ka_bast hx hb hK hP hD hS 2 0 rfl rfl (k := (b * 64) + 2) (x := bn (nI u)) (by omega) (by decide) (pk_vb _) dX0_writeBlock_35 (fun H locs hP hD hS => ?_)
  have hP : va_P (dC, dI) vwCl (wB h a1 a2 a3 a4 a5 a6 cb ci tp tl (upd (upd (upd vo (b * 64) (bn (ush (nI b) 8))) ((b * 64) + 1) (bn (nI b))) ((b * 64) + 2) (bn (nI u))) np rp rl rc sb sa) H := hP
  have hD : va_D A (wB h a1 a2 a3 a4 a5 a6 cb ci tp tl (upd (upd (upd vo (b * 64) (bn (ush (nI b) 8))) ((b * 64) + 1) (bn (nI b))) ((b * 64) + 2) (bn (nI u))) np rp rl rc sb sa) := hD
  have hP : va_P (dC, dI) vwCl (wB h a1 a2 a3 a4 a5 a6 cb ci tp tl (wbH vo b u) np rp rl rc sb sa) H := hP
  have hD : va_D A (wB h a1 a2 a3 a4 a5 a6 cb ci tp tl (wbH vo b u) np rp rl rc sb sa) := hD
  refine lv_aload_n hx hb dX0_writeBlock_36 rfl (lv_at hl 1 rfl) ?_
  refine lv_iload_n hx hb dX0_writeBlock_37 rfl (lv_at hl 0 rfl) ?_
  refine kc_vi (WR := []) (As := [.int (nI (b * 64))]) (rest := []) ⟨hx, hb, hml, hown, hts⟩ (c_sumOfBlock l dC dI h a1 a2 a3 a4 a5 a6 cb ci tp tl (wbH vo b u) np rp rl rc sb sa H.size (b * 64) (by omega)) (cwV 1 hts gX0_writeBlock_X0_sumOfBlock rfl rfl rfl (by decide +kernel) ⟨Nat.le_of_ble_eq_true rfl, Nat.le_of_ble_eq_true rfl⟩) hK hP hD hS hA [0, 1, 2, 3, 4, 5, 6] [] [0, 1] rfl rfl (by decide) (by decide) (by decide) rfl 0 0 rfl rfl rfl rfl hl.1 rfl (Nat.le_of_ble_eq_true rfl) dX0_writeBlock_38 ⟨Nat.zero_le _, Nat.zero_le _⟩ (fun H locs hP hD hS => ?_)
  have hP : va_P (dC, dI) vwCl (wB h a1 a2 a3 a4 a5 a6 cb ci tp tl (wbH vo b u) np rp rl rc sb sa) H := hP
  have hD : va_D A (wB h a1 a2 a3 a4 a5 a6 cb ci tp tl (wbH vo b u) np rp rl rc sb sa) := hD
  refine lv_istore (lv' := [(4, .int (sumB (wbH vo b u) (b * 64))), (3, .int (nI (b * 64))), (0, .ref h), (1, .int (nI b)), (2, .int (nI u))]) hx hb dX0_writeBlock_41 hl (by decide) rfl (fun ls hl => ?_)
  refine lv_iconst (v := nI 0) hx hb dX0_writeBlock_43 (by decide) ?_
  refine lv_istore (lv' := [(5, .int (nI 0)), (4, .int (sumB (wbH vo b u) (b * 64))), (3, .int (nI (b * 64))), (0, .ref h), (1, .int (nI b)), (2, .int (nI u))]) hx hb dX0_writeBlock_44 hl (by decide) rfl (fun ls hl => ?_)
  have hloopk : ∀ (n k : Nat), k ≤ 4 → 4 + 1 ≤ k + n → ∀ (H : Heap) (locs : List Loc) (ls : Array Slot), va_P (dC, dI) vwCl (wB h a1 a2 a3 a4 a5 a6 cb ci tp tl (wbS (wbH vo b u) (b * 64) (sumB (wbH vo b u) (b * 64)) k) np rp rl rc sb sa) H → va_D A (wB h a1 a2 a3 a4 a5 a6 cb ci tp tl (wbS (wbH vo b u) (b * 64) (sumB (wbH vo b u) (b * 64)) k) np rp rl rc sb sa) → va_S A s.heap H locs → lv_has ls 6 [(5, .int (nI k)), (4, .int (sumB (wbH vo b u) (b * 64))), (0, .ref h), (3, .int (nI (b * 64)))] → W p l e ({ frames := 2, cells := 0, slots := 0, locals := 48 }) s m ([.ref h, .int (nI b), .int (nI u)] : List Value).toArray below meth c H locs 0 0 Q (F0 m 46 ls []) := by
    intro n
    induction n with
    | zero => intro k h1 h2; exact absurd h2 (by omega)
    | succ n ih =>
      intro k hkA hkB H locs ls hP hD hS hl
      refine lv_iload hx hb dX0_writeBlock_46 (lv_at hl 0 rfl) ?_
      refine lv_iconst (v := nI 4) hx hb dX0_writeBlock_48 (by decide) ?_
      refine lv_icmp_ge (tgt := 81) hx hb dX0_writeBlock_49 (by decide) (fun c_49 => ?_) (fun c_49 => ?_)
      · have c_49 := (nI_leI (by omega) (by omega)).mp c_49
        have hkE : k = 4 := by omega
        subst hkE
        have hP : va_P (dC, dI) vwCl (wB h a1 a2 a3 a4 a5 a6 cb ci tp tl (wbV vo b u) np rp rl rc sb sa) H := hP
        have hD : va_D A (wB h a1 a2 a3 a4 a5 a6 cb ci tp tl (wbV vo b u) np rp rl rc sb sa) := hD
        exact hret _ _ _ _ hP hD hS dX0_writeBlock_81
      · have c_49 := kmt (nI_leI (by omega) (by omega)).mpr c_49
        refine lv_aload_n hx hb dX0_writeBlock_52 rfl (lv_at hl 2 rfl) ?_
        refine va_get (D := (dC, dI)) (ci := 0) (v := .ref a2) (C := RX0) (T := TX0) (N := 9) hx hb hts hin0 hown hK hP 0 rfl rfl 2 (by decide) lkf13 (fun _ h9 => h9) rfl dX0_writeBlock_53 ?_
        refine lv_iload_n hx hb dX0_writeBlock_56 rfl (lv_at hl 3 rfl) ?_
        refine lv_iconst (v := nI 4) hx hb dX0_writeBlock_57 (by decide) ?_
        refine lv_iadd hx hb dX0_writeBlock_58 ?_
        refine kv_top (show _ = nI ((b * 64) + 4) from nI_add _ _) ?_
        refine lv_iload hx hb dX0_writeBlock_59 (lv_at hl 0 rfl) ?_
        refine lv_iadd hx hb dX0_writeBlock_61 ?_
        refine kv_top (show _ = nI (((b * 64) + 4) + k) from nI_add _ _) ?_
        refine lv_iload hx hb dX0_writeBlock_62 (lv_at hl 1 rfl) ?_
        refine lv_bipush (v := nI 24) hx hb dX0_writeBlock_64 (by decide) ?_
        refine lv_bipush (v := nI 8) hx hb dX0_writeBlock_66 (by decide) ?_
        refine lv_iload hx hb dX0_writeBlock_68 (lv_at hl 0 rfl) ?_
        refine lv_imul hx hb dX0_writeBlock_70 ?_
        refine kv_top (show _ = nI (8 * k) from pk_mul _ _) ?_
        refine lv_isub hx hb dX0_writeBlock_71 ?_
        refine kv_top (show _ = nI (24 - (8 * k)) from pk_sub (by omega)) ?_
        refine lv_iushr (v := ush (sumB (wbH vo b u) (b * 64)) (24 - (8 * k))) hx hb dX0_writeBlock_72 rfl ?_
        refine lv_i2b (v := bn (ush (sumB (wbH vo b u) (b * 64)) (24 - (8 * k)))) hx hb dX0_writeBlock_73 rfl ?_
        refine ka_bast hx hb hK hP hD hS 2 0 rfl rfl (k := ((b * 64) + 4) + k) (x := bn (ush (sumB (wbH vo b u) (b * 64)) (24 - (8 * k)))) (by omega) (by decide) (pk_vb _) dX0_writeBlock_74 (fun H locs hP hD hS => ?_)
        have hP : va_P (dC, dI) vwCl (wB h a1 a2 a3 a4 a5 a6 cb ci tp tl (upd (wbS (wbH vo b u) (b * 64) (sumB (wbH vo b u) (b * 64)) k) (((b * 64) + 4) + k) (bn (ush (sumB (wbH vo b u) (b * 64)) (24 - (8 * k))))) np rp rl rc sb sa) H := hP
        have hD : va_D A (wB h a1 a2 a3 a4 a5 a6 cb ci tp tl (upd (wbS (wbH vo b u) (b * 64) (sumB (wbH vo b u) (b * 64)) k) (((b * 64) + 4) + k) (bn (ush (sumB (wbH vo b u) (b * 64)) (24 - (8 * k))))) np rp rl rc sb sa) := hD
        refine lv_iinc (v := nI (k + 1)) (lv' := [(5, .int (nI (k + 1))), (4, .int (sumB (wbH vo b u) (b * 64))), (0, .ref h), (3, .int (nI (b * 64)))]) hx hb dX0_writeBlock_75 hl (k := 0) rfl (ki_inc _) (by decide) rfl (fun ls hl => ?_)
        refine lv_goto (tgt := 46) hx hb dX0_writeBlock_78 (by decide) ?_
        have hP : va_P (dC, dI) vwCl (wB h a1 a2 a3 a4 a5 a6 cb ci tp tl (wbS (wbH vo b u) (b * 64) (sumB (wbH vo b u) (b * 64)) (k + 1)) np rp rl rc sb sa) H := hP
        have hD : va_D A (wB h a1 a2 a3 a4 a5 a6 cb ci tp tl (wbS (wbH vo b u) (b * 64) (sumB (wbH vo b u) (b * 64)) (k + 1)) np rp rl rc sb sa) := hD
        exact ih (k + 1) (by omega) (by omega) _ _ _ hP hD hS (lv_sub hl [0, 1, 2, 3] rfl)
  have hP : va_P (dC, dI) vwCl (wB h a1 a2 a3 a4 a5 a6 cb ci tp tl (wbS (wbH vo b u) (b * 64) (sumB (wbH vo b u) (b * 64)) (0)) np rp rl rc sb sa) H := hP
  have hD : va_D A (wB h a1 a2 a3 a4 a5 a6 cb ci tp tl (wbS (wbH vo b u) (b * 64) (sumB (wbH vo b u) (b * 64)) (0)) np rp rl rc sb sa) := hD
  exact hloopk (4 + 1) 0 (by omega) (by omega) _ _ _ hP hD hS (lv_sub hl [0, 1, 3, 2] rfl)
set_option maxHeartbeats 4000000 in
set_option maxRecDepth 100000 in
theorem c_append (l : Launch) (dC : Nat → ClassId) (dI : Nat → Nat → Nat) (h a1 a2 a3 a4 a5 a6 : Nat) (cb ci : ClassId) (tp : Nat → Int32) (tl : Nat) (vo : Nat → Int32) (np : Nat) (rp rl : Nat → Nat) (rc : Nat) (sb sa : Nat → Nat) (sz : Nat) (v : Int32) (hnp : np < 4480) : Met l yX0_append wsX0_append ({ frames := 3, cells := 0, slots := 0, locals := 73 }) (kPre (dC, dI) vwCl (wB h a1 a2 a3 a4 a5 a6 cb ci tp tl vo np rp rl rc sb sa) (tB cb ci) sz [.ref h, .int v]) (kQv (dC, dI) vwCl (wB h a1 a2 a3 a4 a5 a6 cb ci tp tl vo np rp rl rc sb sa) (tB cb ci) sz (wB h a1 a2 a3 a4 a5 a6 cb ci tp tl (apV vo np v) (np + 1) rp rl rc sb sa)) 0 0 (va_A (wB h a1 a2 a3 a4 a5 a6 cb ci tp tl vo np rp rl rc sb sa) sz) := by
  refine kM_v (cc := cX0_append) (maxL := 2) (by decide) rfl (Nat.le_of_ble_eq_true rfl) ?_
  intro p e s m below meth c A Q ls H locs S hP hK hD hS hA hl hret
  obtain ⟨hx, hb, hml, hown, hts⟩ := id S
  have hin0 : ∀ w ∈ u_ws RX0 TX0 9, w ∈ wsX0_append := fun _ h => List.mem_cons_of_mem _ (List.mem_append_right _ h)
  have lkf13 := hts (.fieldLink RX0 13 "BlockTape" "volume" "[B") (by decide +kernel)
  have lkf44 := hts (.fieldLink RX0 44 "BlockTape" "nextPlace" "I") (by decide +kernel)
  have hl : lv_has ls 2 [(0, .ref h), (1, .int v)] := hl
  refine lv_aload_n hx hb dX0_append_0 rfl (lv_at hl 0 rfl) ?_
  refine va_get (D := (dC, dI)) (ci := 0) (v := .ref a2) (C := RX0) (T := TX0) (N := 9) hx hb hts hin0 hown hK hP 0 rfl rfl 2 (by decide) lkf13 (fun _ h9 => h9) rfl dX0_append_1 ?_
  refine lv_aload_n hx hb dX0_append_4 rfl (lv_at hl 0 rfl) ?_
  refine va_get (D := (dC, dI)) (ci := 0) (v := .int (nI np)) (C := RX0) (T := TX0) (N := 9) hx hb hts hin0 hown hK hP 0 rfl rfl 3 (by decide) lkf44 (fun _ h9 => h9) rfl dX0_append_5 ?_
  refine kc_si (WR := wB h a1 a2 a3 a4 a5 a6 cb ci tp tl vo np rp rl rc sb sa) (As := [.int (nI np)]) (rest := [.ref a2]) ⟨hx, hb, hml, hown, hts⟩ (c_indexOfPlace l dC dI H.size np (by omega)) (va_cwS 1 hts gX0_append_X0_indexOfPlace rfl rfl rfl (by decide +kernel) ⟨Nat.le_of_ble_eq_true rfl, Nat.le_of_ble_eq_true rfl⟩) hK hP hD hS hA [] [0, 1, 2, 3, 4, 5, 6] [] rfl rfl (by decide) (by decide) (by decide) rfl rfl hl.1 rfl (Nat.le_of_ble_eq_true rfl) dX0_append_8 ⟨Nat.zero_le _, Nat.zero_le _⟩ (fun H locs hP hD hS => ?_)
  have hP : va_P (dC, dI) vwCl (wB h a1 a2 a3 a4 a5 a6 cb ci tp tl vo np rp rl rc sb sa) H := hP
  have hD : va_D A (wB h a1 a2 a3 a4 a5 a6 cb ci tp tl vo np rp rl rc sb sa) := hD
  refine lv_iload_n hx hb dX0_append_11 rfl (lv_at hl 1 rfl) ?_
  refine lv_i2b (v := bn v) hx hb dX0_append_12 rfl ?_
  refine ka_bast hx hb hK hP hD hS 2 0 rfl rfl (k := ix np) (x := bn v) (ix_lt (by omega)) (by decide) (pk_vb _) dX0_append_13 (fun H locs hP hD hS => ?_)
  have hP : va_P (dC, dI) vwCl (wB h a1 a2 a3 a4 a5 a6 cb ci tp tl (upd vo (ix np) (bn v)) np rp rl rc sb sa) H := hP
  have hD : va_D A (wB h a1 a2 a3 a4 a5 a6 cb ci tp tl (upd vo (ix np) (bn v)) np rp rl rc sb sa) := hD
  refine lv_aload_n hx hb dX0_append_14 rfl (lv_at hl 0 rfl) ?_
  refine lv_dup hx hb dX0_append_15 rfl ?_
  refine va_get (D := (dC, dI)) (ci := 0) (v := .int (nI np)) (C := RX0) (T := TX0) (N := 9) hx hb hts hin0 hown hK hP 0 rfl rfl 3 (by decide) lkf44 (fun _ h9 => h9) rfl dX0_append_16 ?_
  refine lv_iconst (v := nI 1) hx hb dX0_append_19 (by decide) ?_
  refine lv_iadd hx hb dX0_append_20 ?_
  refine kv_top (show _ = nI (np + 1) from nI_add _ _) ?_
  refine va_put (D := (dC, dI)) (ci := 0) (v := .int (nI (np + 1))) (ty := .int) (C := RX0) (T := TX0) (N := 9) hx hb hts hin0 tyX0 tyX0_ok nmX0 hown hK hP hD hS 0 rfl rfl 3 (by decide) lkf44 (fun _ h9 => h9) rfl (by decide +kernel) rfl rfl (Nat.le_of_ble_eq_true rfl) dX0_append_21 (fun H locs hP hD hS => ?_)
  have hP : va_P (dC, dI) vwCl (wB h a1 a2 a3 a4 a5 a6 cb ci tp tl (upd vo (ix np) (bn v)) (np + 1) rp rl rc sb sa) H := hP
  have hD : va_D A (wB h a1 a2 a3 a4 a5 a6 cb ci tp tl (upd vo (ix np) (bn v)) (np + 1) rp rl rc sb sa) := hD
  refine lv_aload_n hx hb dX0_append_24 rfl (lv_at hl 0 rfl) ?_
  refine va_get (D := (dC, dI)) (ci := 0) (v := .int (nI (np + 1))) (C := RX0) (T := TX0) (N := 9) hx hb hts hin0 hown hK hP 0 rfl rfl 3 (by decide) lkf44 (fun _ h9 => h9) rfl dX0_append_25 ?_
  refine lv_bipush (v := nI 56) hx hb dX0_append_28 (by decide) ?_
  refine lv_irem hx hb dX0_append_30 (by decide) ?_
  refine kv_top (show _ = nI ((np + 1) % 56) from pk_rem (by omega) (by omega) (by omega)) ?_
  refine lv_if_ne (tgt := 49) hx hb dX0_append_31 (by decide) (fun c_31 => ?_) (fun c_31 => ?_)
  · have c_31 := kmt (kn_eq0 (by omega)).mpr c_31
    have hwE : wB h a1 a2 a3 a4 a5 a6 cb ci tp tl (upd vo (ix np) (bn v)) (np + 1) rp rl rc sb sa = wB h a1 a2 a3 a4 a5 a6 cb ci tp tl (apV vo np v) (np + 1) rp rl rc sb sa := by rw [apV, if_neg c_31]
    rw [hwE] at hP hD
    exact hret _ _ _ _ hP hD hS dX0_append_49
  · have c_31 := (kn_eq0 (by omega)).mp c_31
    refine lv_aload_n hx hb dX0_append_34 rfl (lv_at hl 0 rfl) ?_
    refine lv_aload_n hx hb dX0_append_35 rfl (lv_at hl 0 rfl) ?_
    refine va_get (D := (dC, dI)) (ci := 0) (v := .int (nI (np + 1))) (C := RX0) (T := TX0) (N := 9) hx hb hts hin0 hown hK hP 0 rfl rfl 3 (by decide) lkf44 (fun _ h9 => h9) rfl dX0_append_36 ?_
    refine lv_bipush (v := nI 56) hx hb dX0_append_39 (by decide) ?_
    refine lv_idiv hx hb dX0_append_41 (by decide) ?_
    refine kv_top (show _ = nI ((np + 1) / 56) from pk_div (by omega) (by omega) (by omega)) ?_
    refine lv_iconst (v := nI 1) hx hb dX0_append_42 (by decide) ?_
    refine lv_isub hx hb dX0_append_43 ?_
    refine kv_top (show _ = nI (((np + 1) / 56) - 1) from pk_sub (by omega)) ?_
    refine lv_bipush (v := nI 56) hx hb dX0_append_44 (by decide) ?_
    refine kc_vv (WR := []) (As := [.int (nI (((np + 1) / 56) - 1)), .int (nI 56)]) (rest := []) ⟨hx, hb, hml, hown, hts⟩ (c_writeBlock l dC dI h a1 a2 a3 a4 a5 a6 cb ci tp tl (upd vo (ix np) (bn v)) (np + 1) rp rl rc sb sa H.size (((np + 1) / 56) - 1) 56 (by omega) (by omega)) (cwV 2 hts gX0_append_X0_writeBlock rfl rfl rfl (by decide +kernel) ⟨Nat.le_of_ble_eq_true rfl, Nat.le_of_ble_eq_true rfl⟩) hK hP hD hS hA [0, 1, 2, 3, 4, 5, 6] [] [0, 1] rfl rfl (by decide) (by decide) (by decide) rfl 0 0 rfl rfl rfl rfl hl.1 rfl (Nat.le_of_ble_eq_true rfl) dX0_append_46 ⟨Nat.zero_le _, Nat.zero_le _⟩ (fun H locs hP hD hS => ?_)
    have hP : va_P (dC, dI) vwCl (wB h a1 a2 a3 a4 a5 a6 cb ci tp tl (wbV (upd vo (ix np) (bn v)) (((np + 1) / 56) - 1) 56) (np + 1) rp rl rc sb sa) H := hP
    have hD : va_D A (wB h a1 a2 a3 a4 a5 a6 cb ci tp tl (wbV (upd vo (ix np) (bn v)) (((np + 1) / 56) - 1) 56) (np + 1) rp rl rc sb sa) := hD
    have hwE : wB h a1 a2 a3 a4 a5 a6 cb ci tp tl (wbV (upd vo (ix np) (bn v)) (((np + 1) / 56) - 1) 56) (np + 1) rp rl rc sb sa = wB h a1 a2 a3 a4 a5 a6 cb ci tp tl (apV vo np v) (np + 1) rp rl rc sb sa := by rw [apV, if_pos c_31]
    rw [hwE] at hP hD
    exact hret _ _ _ _ hP hD hS dX0_append_49
set_option maxHeartbeats 4000000 in
set_option maxRecDepth 100000 in
theorem c_appendRow (l : Launch) (dC : Nat → ClassId) (dI : Nat → Nat → Nat) (h a1 a2 a3 a4 a5 a6 : Nat) (cb ci : ClassId) (tp : Nat → Int32) (tl : Nat) (vo : Nat → Int32) (np : Nat) (rp rl : Nat → Nat) (rc : Nat) (sb sa : Nat → Nat) (sz : Nat) (sv : Int32) (iv : Int32) (htl : tl ≤ 300) (hnp : np + 6 + tl ≤ 4480) : Met l yX0_appendRow wsX0_appendRow ({ frames := 4, cells := 0, slots := 0, locals := 94 }) (kPre (dC, dI) vwCl (wB h a1 a2 a3 a4 a5 a6 cb ci tp tl vo np rp rl rc sb sa) (tB cb ci) sz [.ref h, .int sv, .int iv]) (kQv (dC, dI) vwCl (wB h a1 a2 a3 a4 a5 a6 cb ci tp tl vo np rp rl rc sb sa) (tB cb ci) sz (wB h a1 a2 a3 a4 a5 a6 cb ci tp tl (apR vo np sv iv tp tl) (np + 6 + tl) rp rl rc sb sa)) 0 0 (va_A (wB h a1 a2 a3 a4 a5 a6 cb ci tp tl vo np rp rl rc sb sa) sz) := by
  refine kM_v (cc := cX0_appendRow) (maxL := 4) (by decide) rfl (Nat.le_of_ble_eq_true rfl) ?_
  intro p e s m below meth c A Q ls H locs S hP hK hD hS hA hl hret
  obtain ⟨hx, hb, hml, hown, hts⟩ := id S
  have hin0 : ∀ w ∈ u_ws RX0 TX0 9, w ∈ wsX0_appendRow := fun _ h => List.mem_cons_of_mem _ (List.mem_append_right _ h)
  have lkf29 := hts (.fieldLink RX0 29 "BlockTape" "tapeLength" "I") (by decide +kernel)
  have lkf9 := hts (.fieldLink RX0 9 "BlockTape" "tape" "[B") (by decide +kernel)
  have hl : lv_has ls 4 [(0, .ref h), (1, .int sv), (2, .int iv)] := hl
  refine lv_aload_n hx hb dX0_appendRow_0 rfl (lv_at hl 0 rfl) ?_
  refine lv_iload_n hx hb dX0_appendRow_1 rfl (lv_at hl 1 rfl) ?_
  refine kc_vv (WR := []) (As := [.int sv]) (rest := []) ⟨hx, hb, hml, hown, hts⟩ (c_append l dC dI h a1 a2 a3 a4 a5 a6 cb ci tp tl vo np rp rl rc sb sa H.size sv (by omega)) (cwV 1 hts gX0_appendRow_X0_append rfl rfl rfl (by decide +kernel) ⟨Nat.le_of_ble_eq_true rfl, Nat.le_of_ble_eq_true rfl⟩) hK hP hD hS hA [0, 1, 2, 3, 4, 5, 6] [] [0, 1] rfl rfl (by decide) (by decide) (by decide) rfl 0 0 rfl rfl rfl rfl hl.1 rfl (Nat.le_of_ble_eq_true rfl) dX0_appendRow_2 ⟨Nat.zero_le _, Nat.zero_le _⟩ (fun H locs hP hD hS => ?_)
  have hP : va_P (dC, dI) vwCl (wB h a1 a2 a3 a4 a5 a6 cb ci tp tl (apV vo np sv) (np + 1) rp rl rc sb sa) H := hP
  have hD : va_D A (wB h a1 a2 a3 a4 a5 a6 cb ci tp tl (apV vo np sv) (np + 1) rp rl rc sb sa) := hD
  refine lv_aload_n hx hb dX0_appendRow_5 rfl (lv_at hl 0 rfl) ?_
  refine lv_iload_n hx hb dX0_appendRow_6 rfl (lv_at hl 2 rfl) ?_
  refine lv_bipush (v := nI 8) hx hb dX0_appendRow_7 (by decide) ?_
  refine lv_iushr (v := ush iv 8) hx hb dX0_appendRow_9 rfl ?_
  refine kc_vv (WR := []) (As := [.int (ush iv 8)]) (rest := []) ⟨hx, hb, hml, hown, hts⟩ (c_append l dC dI h a1 a2 a3 a4 a5 a6 cb ci tp tl (apV vo np sv) (np + 1) rp rl rc sb sa H.size (ush iv 8) (by omega)) (cwV 1 hts gX0_appendRow_X0_append rfl rfl rfl (by decide +kernel) ⟨Nat.le_of_ble_eq_true rfl, Nat.le_of_ble_eq_true rfl⟩) hK hP hD hS hA [0, 1, 2, 3, 4, 5, 6] [] [0, 1] rfl rfl (by decide) (by decide) (by decide) rfl 0 0 rfl rfl rfl rfl hl.1 rfl (Nat.le_of_ble_eq_true rfl) dX0_appendRow_10 ⟨Nat.zero_le _, Nat.zero_le _⟩ (fun H locs hP hD hS => ?_)
  have hP : va_P (dC, dI) vwCl (wB h a1 a2 a3 a4 a5 a6 cb ci tp tl (apV (apV vo np sv) (np + 1) (ush iv 8)) ((np + 1) + 1) rp rl rc sb sa) H := hP
  have hD : va_D A (wB h a1 a2 a3 a4 a5 a6 cb ci tp tl (apV (apV vo np sv) (np + 1) (ush iv 8)) ((np + 1) + 1) rp rl rc sb sa) := hD
  refine lv_aload_n hx hb dX0_appendRow_13 rfl (lv_at hl 0 rfl) ?_
  refine lv_iload_n hx hb dX0_appendRow_14 rfl (lv_at hl 2 rfl) ?_
  refine kc_vv (WR := []) (As := [.int iv]) (rest := []) ⟨hx, hb, hml, hown, hts⟩ (c_append l dC dI h a1 a2 a3 a4 a5 a6 cb ci tp tl (apV (apV vo np sv) (np + 1) (ush iv 8)) ((np + 1) + 1) rp rl rc sb sa H.size iv (by omega)) (cwV 1 hts gX0_appendRow_X0_append rfl rfl rfl (by decide +kernel) ⟨Nat.le_of_ble_eq_true rfl, Nat.le_of_ble_eq_true rfl⟩) hK hP hD hS hA [0, 1, 2, 3, 4, 5, 6] [] [0, 1] rfl rfl (by decide) (by decide) (by decide) rfl 0 0 rfl rfl rfl rfl hl.1 rfl (Nat.le_of_ble_eq_true rfl) dX0_appendRow_15 ⟨Nat.zero_le _, Nat.zero_le _⟩ (fun H locs hP hD hS => ?_)
  have hP : va_P (dC, dI) vwCl (wB h a1 a2 a3 a4 a5 a6 cb ci tp tl (apV (apV (apV vo np sv) (np + 1) (ush iv 8)) ((np + 1) + 1) iv) (((np + 1) + 1) + 1) rp rl rc sb sa) H := hP
  have hD : va_D A (wB h a1 a2 a3 a4 a5 a6 cb ci tp tl (apV (apV (apV vo np sv) (np + 1) (ush iv 8)) ((np + 1) + 1) iv) (((np + 1) + 1) + 1) rp rl rc sb sa) := hD
  refine lv_aload_n hx hb dX0_appendRow_18 rfl (lv_at hl 0 rfl) ?_
  refine lv_aload_n hx hb dX0_appendRow_19 rfl (lv_at hl 0 rfl) ?_
  refine va_get (D := (dC, dI)) (ci := 0) (v := .int (nI tl)) (C := RX0) (T := TX0) (N := 9) hx hb hts hin0 hown hK hP 0 rfl rfl 1 (by decide) lkf29 (fun _ h9 => h9) rfl dX0_appendRow_20 ?_
  refine lv_bipush (v := nI 8) hx hb dX0_appendRow_23 (by decide) ?_
  refine lv_iushr (v := ush (nI tl) 8) hx hb dX0_appendRow_25 rfl ?_
  refine kc_vv (WR := []) (As := [.int (ush (nI tl) 8)]) (rest := []) ⟨hx, hb, hml, hown, hts⟩ (c_append l dC dI h a1 a2 a3 a4 a5 a6 cb ci tp tl (apV (apV (apV vo np sv) (np + 1) (ush iv 8)) ((np + 1) + 1) iv) (((np + 1) + 1) + 1) rp rl rc sb sa H.size (ush (nI tl) 8) (by omega)) (cwV 1 hts gX0_appendRow_X0_append rfl rfl rfl (by decide +kernel) ⟨Nat.le_of_ble_eq_true rfl, Nat.le_of_ble_eq_true rfl⟩) hK hP hD hS hA [0, 1, 2, 3, 4, 5, 6] [] [0, 1] rfl rfl (by decide) (by decide) (by decide) rfl 0 0 rfl rfl rfl rfl hl.1 rfl (Nat.le_of_ble_eq_true rfl) dX0_appendRow_26 ⟨Nat.zero_le _, Nat.zero_le _⟩ (fun H locs hP hD hS => ?_)
  have hP : va_P (dC, dI) vwCl (wB h a1 a2 a3 a4 a5 a6 cb ci tp tl (apV (apV (apV (apV vo np sv) (np + 1) (ush iv 8)) ((np + 1) + 1) iv) (((np + 1) + 1) + 1) (ush (nI tl) 8)) ((((np + 1) + 1) + 1) + 1) rp rl rc sb sa) H := hP
  have hD : va_D A (wB h a1 a2 a3 a4 a5 a6 cb ci tp tl (apV (apV (apV (apV vo np sv) (np + 1) (ush iv 8)) ((np + 1) + 1) iv) (((np + 1) + 1) + 1) (ush (nI tl) 8)) ((((np + 1) + 1) + 1) + 1) rp rl rc sb sa) := hD
  refine lv_aload_n hx hb dX0_appendRow_29 rfl (lv_at hl 0 rfl) ?_
  refine lv_aload_n hx hb dX0_appendRow_30 rfl (lv_at hl 0 rfl) ?_
  refine va_get (D := (dC, dI)) (ci := 0) (v := .int (nI tl)) (C := RX0) (T := TX0) (N := 9) hx hb hts hin0 hown hK hP 0 rfl rfl 1 (by decide) lkf29 (fun _ h9 => h9) rfl dX0_appendRow_31 ?_
  refine kc_vv (WR := []) (As := [.int (nI tl)]) (rest := []) ⟨hx, hb, hml, hown, hts⟩ (c_append l dC dI h a1 a2 a3 a4 a5 a6 cb ci tp tl (apV (apV (apV (apV vo np sv) (np + 1) (ush iv 8)) ((np + 1) + 1) iv) (((np + 1) + 1) + 1) (ush (nI tl) 8)) ((((np + 1) + 1) + 1) + 1) rp rl rc sb sa H.size (nI tl) (by omega)) (cwV 1 hts gX0_appendRow_X0_append rfl rfl rfl (by decide +kernel) ⟨Nat.le_of_ble_eq_true rfl, Nat.le_of_ble_eq_true rfl⟩) hK hP hD hS hA [0, 1, 2, 3, 4, 5, 6] [] [0, 1] rfl rfl (by decide) (by decide) (by decide) rfl 0 0 rfl rfl rfl rfl hl.1 rfl (Nat.le_of_ble_eq_true rfl) dX0_appendRow_34 ⟨Nat.zero_le _, Nat.zero_le _⟩ (fun H locs hP hD hS => ?_)
  have hP : va_P (dC, dI) vwCl (wB h a1 a2 a3 a4 a5 a6 cb ci tp tl (apV (apV (apV (apV (apV vo np sv) (np + 1) (ush iv 8)) ((np + 1) + 1) iv) (((np + 1) + 1) + 1) (ush (nI tl) 8)) ((((np + 1) + 1) + 1) + 1) (nI tl)) (((((np + 1) + 1) + 1) + 1) + 1) rp rl rc sb sa) H := hP
  have hD : va_D A (wB h a1 a2 a3 a4 a5 a6 cb ci tp tl (apV (apV (apV (apV (apV vo np sv) (np + 1) (ush iv 8)) ((np + 1) + 1) iv) (((np + 1) + 1) + 1) (ush (nI tl) 8)) ((((np + 1) + 1) + 1) + 1) (nI tl)) (((((np + 1) + 1) + 1) + 1) + 1) rp rl rc sb sa) := hD
  refine lv_aload_n hx hb dX0_appendRow_37 rfl (lv_at hl 0 rfl) ?_
  refine lv_bipush (v := nI 90) hx hb dX0_appendRow_38 (by decide) ?_
  refine kc_vv (WR := []) (As := [.int (nI 90)]) (rest := []) ⟨hx, hb, hml, hown, hts⟩ (c_append l dC dI h a1 a2 a3 a4 a5 a6 cb ci tp tl (apV (apV (apV (apV (apV vo np sv) (np + 1) (ush iv 8)) ((np + 1) + 1) iv) (((np + 1) + 1) + 1) (ush (nI tl) 8)) ((((np + 1) + 1) + 1) + 1) (nI tl)) (((((np + 1) + 1) + 1) + 1) + 1) rp rl rc sb sa H.size (nI 90) (by omega)) (cwV 1 hts gX0_appendRow_X0_append rfl rfl rfl (by decide +kernel) ⟨Nat.le_of_ble_eq_true rfl, Nat.le_of_ble_eq_true rfl⟩) hK hP hD hS hA [0, 1, 2, 3, 4, 5, 6] [] [0, 1] rfl rfl (by decide) (by decide) (by decide) rfl 0 0 rfl rfl rfl rfl hl.1 rfl (Nat.le_of_ble_eq_true rfl) dX0_appendRow_40 ⟨Nat.zero_le _, Nat.zero_le _⟩ (fun H locs hP hD hS => ?_)
  have hP : va_P (dC, dI) vwCl (wB h a1 a2 a3 a4 a5 a6 cb ci tp tl (apV (apV (apV (apV (apV (apV vo np sv) (np + 1) (ush iv 8)) ((np + 1) + 1) iv) (((np + 1) + 1) + 1) (ush (nI tl) 8)) ((((np + 1) + 1) + 1) + 1) (nI tl)) (((((np + 1) + 1) + 1) + 1) + 1) (nI 90)) ((((((np + 1) + 1) + 1) + 1) + 1) + 1) rp rl rc sb sa) H := hP
  have hD : va_D A (wB h a1 a2 a3 a4 a5 a6 cb ci tp tl (apV (apV (apV (apV (apV (apV vo np sv) (np + 1) (ush iv 8)) ((np + 1) + 1) iv) (((np + 1) + 1) + 1) (ush (nI tl) 8)) ((((np + 1) + 1) + 1) + 1) (nI tl)) (((((np + 1) + 1) + 1) + 1) + 1) (nI 90)) ((((((np + 1) + 1) + 1) + 1) + 1) + 1) rp rl rc sb sa) := hD
  have hP : va_P (dC, dI) vwCl (wB h a1 a2 a3 a4 a5 a6 cb ci tp tl (apH vo np sv iv tl) (np + 6) rp rl rc sb sa) H := hP
  have hD : va_D A (wB h a1 a2 a3 a4 a5 a6 cb ci tp tl (apH vo np sv iv tl) (np + 6) rp rl rc sb sa) := hD
  refine lv_iconst (v := nI 0) hx hb dX0_appendRow_43 (by decide) ?_
  refine lv_istore_n (lv' := [(3, .int (nI 0)), (0, .ref h), (1, .int sv), (2, .int iv)]) hx hb dX0_appendRow_44 rfl hl (by decide) rfl (fun ls hl => ?_)
  have hloopk : ∀ (n k : Nat), k ≤ tl → tl + 1 ≤ k + n → ∀ (H : Heap) (locs : List Loc) (ls : Array Slot), va_P (dC, dI) vwCl (wB h a1 a2 a3 a4 a5 a6 cb ci tp tl (apL (apH vo np sv iv tl) (np + 6) tp k) (np + 6 + k) rp rl rc sb sa) H → va_D A (wB h a1 a2 a3 a4 a5 a6 cb ci tp tl (apL (apH vo np sv iv tl) (np + 6) tp k) (np + 6 + k) rp rl rc sb sa) → va_S A s.heap H locs → lv_has ls 4 [(3, .int (nI k)), (0, .ref h)] → W p l e ({ frames := 4, cells := 0, slots := 0, locals := 94 }) s m ([.ref h, .int sv, .int iv] : List Value).toArray below meth c H locs 0 0 Q (F0 m 45 ls []) := by
    intro n
    induction n with
    | zero => intro k h1 h2; exact absurd h2 (by omega)
    | succ n ih =>
      intro k hkA hkB H locs ls hP hD hS hl
      refine lv_iload_n hx hb dX0_appendRow_45 rfl (lv_at hl 0 rfl) ?_
      refine lv_aload_n hx hb dX0_appendRow_46 rfl (lv_at hl 1 rfl) ?_
      refine va_get (D := (dC, dI)) (ci := 0) (v := .int (nI tl)) (C := RX0) (T := TX0) (N := 9) hx hb hts hin0 hown hK hP 0 rfl rfl 1 (by decide) lkf29 (fun _ h9 => h9) rfl dX0_appendRow_47 ?_
      refine lv_icmp_ge (tgt := 69) hx hb dX0_appendRow_50 (by decide) (fun c_50 => ?_) (fun c_50 => ?_)
      · have c_50 := (nI_leI (by omega) (by omega)).mp c_50
        have hkE : k = tl := by omega
        rw [hkE] at hP hD
        have hP : va_P (dC, dI) vwCl (wB h a1 a2 a3 a4 a5 a6 cb ci tp tl (apR vo np sv iv tp tl) (np + 6 + tl) rp rl rc sb sa) H := hP
        have hD : va_D A (wB h a1 a2 a3 a4 a5 a6 cb ci tp tl (apR vo np sv iv tp tl) (np + 6 + tl) rp rl rc sb sa) := hD
        exact hret _ _ _ _ hP hD hS dX0_appendRow_69
      · have c_50 := kmt (nI_leI (by omega) (by omega)).mpr c_50
        refine lv_aload_n hx hb dX0_appendRow_53 rfl (lv_at hl 1 rfl) ?_
        refine lv_aload_n hx hb dX0_appendRow_54 rfl (lv_at hl 1 rfl) ?_
        refine va_get (D := (dC, dI)) (ci := 0) (v := .ref a1) (C := RX0) (T := TX0) (N := 9) hx hb hts hin0 hown hK hP 0 rfl rfl 0 (by decide) lkf9 (fun _ h9 => h9) rfl dX0_appendRow_55 ?_
        refine lv_iload_n hx hb dX0_appendRow_58 rfl (lv_at hl 0 rfl) ?_
        refine ka_bald hx hb hK hP 1 0 rfl rfl (k := k) (by omega) (by decide) dX0_appendRow_59 ?_
        refine kc_vv (WR := []) (As := [.int (tp k)]) (rest := []) ⟨hx, hb, hml, hown, hts⟩ (c_append l dC dI h a1 a2 a3 a4 a5 a6 cb ci tp tl (apL (apH vo np sv iv tl) (np + 6) tp k) (np + 6 + k) rp rl rc sb sa H.size (tp k) (by omega)) (cwV 1 hts gX0_appendRow_X0_append rfl rfl rfl (by decide +kernel) ⟨Nat.le_of_ble_eq_true rfl, Nat.le_of_ble_eq_true rfl⟩) hK hP hD hS hA [0, 1, 2, 3, 4, 5, 6] [] [0, 1] rfl rfl (by decide) (by decide) (by decide) rfl 0 0 rfl rfl rfl rfl hl.1 rfl (Nat.le_of_ble_eq_true rfl) dX0_appendRow_60 ⟨Nat.zero_le _, Nat.zero_le _⟩ (fun H locs hP hD hS => ?_)
        have hP : va_P (dC, dI) vwCl (wB h a1 a2 a3 a4 a5 a6 cb ci tp tl (apV (apL (apH vo np sv iv tl) (np + 6) tp k) (np + 6 + k) (tp k)) ((np + 6 + k) + 1) rp rl rc sb sa) H := hP
        have hD : va_D A (wB h a1 a2 a3 a4 a5 a6 cb ci tp tl (apV (apL (apH vo np sv iv tl) (np + 6) tp k) (np + 6 + k) (tp k)) ((np + 6 + k) + 1) rp rl rc sb sa) := hD
        refine lv_iinc (v := nI (k + 1)) (lv' := [(3, .int (nI (k + 1))), (0, .ref h)]) hx hb dX0_appendRow_63 hl (k := 0) rfl (ki_inc _) (by decide) rfl (fun ls hl => ?_)
        refine lv_goto (tgt := 45) hx hb dX0_appendRow_66 (by decide) ?_
        have hP : va_P (dC, dI) vwCl (wB h a1 a2 a3 a4 a5 a6 cb ci tp tl (apL (apH vo np sv iv tl) (np + 6) tp (k + 1)) (np + 6 + (k + 1)) rp rl rc sb sa) H := hP
        have hD : va_D A (wB h a1 a2 a3 a4 a5 a6 cb ci tp tl (apL (apH vo np sv iv tl) (np + 6) tp (k + 1)) (np + 6 + (k + 1)) rp rl rc sb sa) := hD
        exact ih (k + 1) (by omega) (by omega) _ _ _ hP hD hS (lv_sub hl [0, 1] rfl)
  have hP : va_P (dC, dI) vwCl (wB h a1 a2 a3 a4 a5 a6 cb ci tp tl (apL (apH vo np sv iv tl) (np + 6) tp (0)) (np + 6 + (0)) rp rl rc sb sa) H := hP
  have hD : va_D A (wB h a1 a2 a3 a4 a5 a6 cb ci tp tl (apL (apH vo np sv iv tl) (np + 6) tp (0)) (np + 6 + (0)) rp rl rc sb sa) := hD
  exact hloopk (tl + 1) 0 (by omega) (by omega) _ _ _ hP hD hS (lv_sub hl [0, 1] rfl)
