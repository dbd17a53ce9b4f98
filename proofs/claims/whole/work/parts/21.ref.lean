set_option maxHeartbeats 4000000 in
set_option maxRecDepth 100000 in
theorem r_closeN (l : Launch) (dC : Nat → ClassId) (dI : Nat → Nat → Nat) (g m1 m2 m3 m4 m5 m6 m7 m8 m9 m10 m11 m12 m13 : Nat) (ci : ClassId) (mt : Nat → Nat) (tl rc kp : Nat) (ms mi ml mb mf mo my : Nat → Nat) (np : Nat) (md mu fi : Nat → Nat) (sp : Nat → Int32) (sq : Nat → Nat) (sz : Nat) (hnp : np ≤ 4480) (hu : np % 56 = 0) : Met l yM_close wsM_close ({ frames := 1, cells := 0, slots := 0, locals := 20 }) (kPre (dC, dI) vwCl (wM g m1 m2 m3 m4 m5 m6 m7 m8 m9 m10 m11 m12 m13 ci mt tl rc kp ms mi ml mb mf mo my (np / 56) (np % 56) md mu fi sp sq) (tM ci) sz [.ref g]) (kQi (dC, dI) vwCl (wM g m1 m2 m3 m4 m5 m6 m7 m8 m9 m10 m11 m12 m13 ci mt tl rc kp ms mi ml mb mf mo my (np / 56) (np % 56) md mu fi sp sq) (tM ci) sz (nI 0) (wM g m1 m2 m3 m4 m5 m6 m7 m8 m9 m10 m11 m12 m13 ci mt tl rc kp ms mi ml mb mf mo my (np / 56) (np % 56) md mu fi sp sq)) 0 0 (va_A (wM g m1 m2 m3 m4 m5 m6 m7 m8 m9 m10 m11 m12 m13 ci mt tl rc kp ms mi ml mb mf mo my (np / 56) (np % 56) md mu fi sp sq) sz) := by
  refine kM_z (cc := cM_close) (maxL := 2) (by decide) rfl (Nat.le_of_ble_eq_true rfl) (rfl) ?_
  intro p e s m below meth c A Q ls H locs S hP hK hD hS hA hl hret
  obtain ⟨hx, hb, hml, hown, hts⟩ := id S
  have hin1 : ∀ w ∈ u_ws RX1 TX1 19, w ∈ wsM_close := fun _ h => List.mem_cons_of_mem _ (List.mem_append_right _ h)
  have lkf49 := hts (.fieldLink RX1 49 "BlockTapeModel" "thrown" "I") (by decide +kernel)
  have lkf59 := hts (.fieldLink RX1 59 "BlockTapeModel" "used" "I") (by decide +kernel)
  have hl : lv_has ls 2 [(0, .ref g)] := hl
  refine lv_aload_n hx hb dM_close_0 rfl (lv_at hl 0 rfl) ?_
  refine lv_iconst (v := nI 0) hx hb dM_close_1 (by decide) ?_
  refine va_put (D := (dC, dI)) (ci := 1) (v := .int (nI 0)) (ty := .int) (C := RX1) (T := TX1) (N := 19) hx hb hts hin1 tyX1 tyX1_ok nmX1 hown hK hP hD hS 0 rfl rfl 0 (by decide) lkf49 (fun _ h9 => h9) rfl (by decide +kernel) rfl rfl (Nat.le_of_ble_eq_true rfl) dM_close_2 (fun H locs hP hD hS => ?_)
  have hP : va_P (dC, dI) vwCl (wM g m1 m2 m3 m4 m5 m6 m7 m8 m9 m10 m11 m12 m13 ci mt tl rc kp ms mi ml mb mf mo my (np / 56) (np % 56) md mu fi sp sq) H := hP
  have hD : va_D A (wM g m1 m2 m3 m4 m5 m6 m7 m8 m9 m10 m11 m12 m13 ci mt tl rc kp ms mi ml mb mf mo my (np / 56) (np % 56) md mu fi sp sq) := hD
  refine lv_aload_n hx hb dM_close_5 rfl (lv_at hl 0 rfl) ?_
  refine va_get (D := (dC, dI)) (ci := 1) (v := .int (nI (np % 56))) (C := RX1) (T := TX1) (N := 19) hx hb hts hin1 hown hK hP 0 rfl rfl 13 (by decide) lkf59 (fun _ h9 => h9) rfl dM_close_6 ?_
  refine lv_if_ne (tgt := 14) hx hb dM_close_9 (by decide) (fun c_9 => ?_) (fun c_9 => ?_)
  · have c_9 := kmt (kn_eq0 (by omega)).mpr c_9
    exfalso; omega
  · have c_9 := (kn_eq0 (by omega)).mp c_9
    refine lv_iconst (v := nI 0) hx hb dM_close_12 (by decide) ?_
    exact hret _ _ _ _ hP hD hS dM_close_13
set_option maxHeartbeats 4000000 in
set_option maxRecDepth 100000 in
theorem r_plain (l : Launch) (dC : Nat → ClassId) (dI : Nat → Nat → Nat) (g m1 m2 m3 m4 m5 m6 m7 m8 m9 m10 m11 m12 m13 : Nat) (ci : ClassId) (mt : Nat → Nat) (tl rc kp : Nat) (ms mi ml mb mf mo my : Nat → Nat) (np : Nat) (md mu fi : Nat → Nat) (sp : Nat → Int32) (sq : Nat → Nat) (sz : Nat) (b : Nat) (i : Nat) (hb80 : b < 80) (hi : i < 64 ∧ ¬ (3 < i ∧ i < 8)) : Met l yM_plain wsM_plain ({ frames := 0, cells := 0, slots := 0, locals := 0 }) (kPre (dC, dI) vwCl (wM g m1 m2 m3 m4 m5 m6 m7 m8 m9 m10 m11 m12 m13 ci mt tl rc kp ms mi ml mb mf mo my (np / 56) (np % 56) md mu fi sp sq) (tM ci) sz [.ref g, .int (nI b), .int (nI i)]) (kQi (dC, dI) vwCl (wM g m1 m2 m3 m4 m5 m6 m7 m8 m9 m10 m11 m12 m13 ci mt tl rc kp ms mi ml mb mf mo my (np / 56) (np % 56) md mu fi sp sq) (tM ci) sz (nI (plN mu fi md b i)) (wM g m1 m2 m3 m4 m5 m6 m7 m8 m9 m10 m11 m12 m13 ci mt tl rc kp ms mi ml mb mf mo my (np / 56) (np % 56) md mu fi sp sq)) 0 0 (va_A (wM g m1 m2 m3 m4 m5 m6 m7 m8 m9 m10 m11 m12 m13 ci mt tl rc kp ms mi ml mb mf mo my (np / 56) (np % 56) md mu fi sp sq) sz) := by
  refine kM_i (cc := cM_plain) (maxL := 3) (by decide) rfl (Nat.le_of_ble_eq_true rfl) ?_
  intro p e s m below meth c A Q ls H locs S hP hK hD hS hA hl hret
  obtain ⟨hx, hb, hml, hown, hts⟩ := id S
  have hin1 : ∀ w ∈ u_ws RX1 TX1 19, w ∈ wsM_plain := fun _ h => List.mem_cons_of_mem _ (List.mem_append_right _ h)
  have lkf34 := hts (.fieldLink RX1 34 "BlockTapeModel" "data" "[I") (by decide +kernel)
  have lkf40 := hts (.fieldLink RX1 40 "BlockTapeModel" "first" "[I") (by decide +kernel)
  have lkf37 := hts (.fieldLink RX1 37 "BlockTapeModel" "uses" "[I") (by decide +kernel)
  have hl : lv_has ls 3 [(0, .ref g), (1, .int (nI b)), (2, .int (nI i))] := hl
  refine lv_iload_n hx hb dM_plain_0 rfl (lv_at hl 2 rfl) ?_
  refine lv_iconst (v := nI 2) hx hb dM_plain_1 (by decide) ?_
  refine lv_icmp_ge (tgt := 22) hx hb dM_plain_2 (by decide) (fun c_2 => ?_) (fun c_2 => ?_)
  · have c_2 := (nI_leI (by omega) (by omega)).mp c_2
    refine lv_iload_n hx hb dM_plain_22 rfl (lv_at hl 2 rfl) ?_
    refine lv_iconst (v := nI 4) hx hb dM_plain_23 (by decide) ?_
    refine lv_icmp_ge (tgt := 48) hx hb dM_plain_24 (by decide) (fun c_24 => ?_) (fun c_24 => ?_)
    · have c_24 := (nI_leI (by omega) (by omega)).mp c_24
      refine lv_aload_n hx hb dM_plain_48 rfl (lv_at hl 0 rfl) ?_
      refine va_get (D := (dC, dI)) (ci := 1) (v := .ref m9) (C := RX1) (T := TX1) (N := 19) hx hb hts hin1 hown hK hP 0 rfl rfl 14 (by decide) lkf34 (fun _ h9 => h9) rfl dM_plain_49 ?_
      refine lv_bipush (v := nI 56) hx hb dM_plain_52 (by decide) ?_
      refine lv_iload_n hx hb dM_plain_54 rfl (lv_at hl 1 rfl) ?_
      refine lv_imul hx hb dM_plain_55 ?_
      refine kv_top (show _ = nI (56 * b) from pk_mul _ _) ?_
      refine lv_iload_n hx hb dM_plain_56 rfl (lv_at hl 2 rfl) ?_
      refine lv_iadd hx hb dM_plain_57 ?_
      refine kv_top (show _ = nI ((56 * b) + i) from nI_add _ _) ?_
      refine lv_bipush (v := nI 8) hx hb dM_plain_58 (by decide) ?_
      refine lv_isub hx hb dM_plain_60 ?_
      refine kv_top (show _ = nI (((56 * b) + i) - 8) from pk_sub (by omega)) ?_
      refine ka_ialdN hx hb hK hP 9 0 rfl rfl (k := ((56 * b) + i) - 8) (by omega) (by decide) dM_plain_61 ?_
      refine kv_top (show _ = nI (plN mu fi md b i) from (by rw [plN, if_neg (by omega), if_neg (by omega), if_neg (by omega), if_neg (by omega)])) ?_
      exact hret _ _ _ _ hP hD hS dM_plain_62
    · have c_24 := kmt (nI_leI (by omega) (by omega)).mpr c_24
      refine lv_iload_n hx hb dM_plain_27 rfl (lv_at hl 2 rfl) ?_
      refine lv_iconst (v := nI 2) hx hb dM_plain_28 (by decide) ?_
      refine lv_icmp_ne (tgt := 41) hx hb dM_plain_29 (by decide) (fun c_29 => ?_) (fun c_29 => ?_)
      · have c_29 := kmt (nI_eq (by omega) (by omega)).mpr c_29
        refine lv_aload_n hx hb dM_plain_41 rfl (lv_at hl 0 rfl) ?_
        refine va_get (D := (dC, dI)) (ci := 1) (v := .ref m11) (C := RX1) (T := TX1) (N := 19) hx hb hts hin1 hown hK hP 0 rfl rfl 16 (by decide) lkf40 (fun _ h9 => h9) rfl dM_plain_42 ?_
        refine lv_iload_n hx hb dM_plain_45 rfl (lv_at hl 1 rfl) ?_
        refine ka_ialdN hx hb hK hP 11 0 rfl rfl (k := b) (by omega) (by decide) dM_plain_46 ?_
        refine kv_top (show _ = nI (plN mu fi md b i) from (by rw [plN, if_neg (by omega), if_neg (by omega), if_neg c_29, if_pos (by omega)])) ?_
        exact hret _ _ _ _ hP hD hS dM_plain_47
      · have c_29 := (nI_eq (by omega) (by omega)).mp c_29
        refine lv_aload_n hx hb dM_plain_32 rfl (lv_at hl 0 rfl) ?_
        refine va_get (D := (dC, dI)) (ci := 1) (v := .ref m10) (C := RX1) (T := TX1) (N := 19) hx hb hts hin1 hown hK hP 0 rfl rfl 15 (by decide) lkf37 (fun _ h9 => h9) rfl dM_plain_33 ?_
        refine lv_iload_n hx hb dM_plain_36 rfl (lv_at hl 1 rfl) ?_
        refine ka_ialdN hx hb hK hP 10 0 rfl rfl (k := b) (by omega) (by decide) dM_plain_37 ?_
        refine lv_goto (tgt := 47) hx hb dM_plain_38 (by decide) ?_
        refine kv_top (show _ = nI (plN mu fi md b i) from (by rw [plN, if_neg (by omega), if_neg (by omega), if_pos c_29])) ?_
        exact hret _ _ _ _ hP hD hS dM_plain_47
  · have c_2 := kmt (nI_leI (by omega) (by omega)).mpr c_2
    refine lv_iload_n hx hb dM_plain_5 rfl (lv_at hl 2 rfl) ?_
    refine lv_if_ne (tgt := 16) hx hb dM_plain_6 (by decide) (fun c_6 => ?_) (fun c_6 => ?_)
    · have c_6 := kmt (kn_eq0 (by omega)).mpr c_6
      refine lv_iload_n hx hb dM_plain_16 rfl (lv_at hl 1 rfl) ?_
      refine lv_sipush (v := nI 255) hx hb dM_plain_17 (by decide) ?_
      refine lv_iand hx hb dM_plain_20 ?_
      refine kv_top (show _ = nI (b % 256) from pk_andN (by omega) 8 (by decide)) ?_
      refine kv_top (show _ = nI (plN mu fi md b i) from (by rw [plN, if_neg c_6, if_pos (by omega)])) ?_
      exact hret _ _ _ _ hP hD hS dM_plain_21
    · have c_6 := (kn_eq0 (by omega)).mp c_6
      refine lv_iload_n hx hb dM_plain_9 rfl (lv_at hl 1 rfl) ?_
      refine lv_bipush (v := nI 8) hx hb dM_plain_10 (by decide) ?_
      refine lv_ishr hx hb dM_plain_12 ?_
      refine kv_top (show _ = nI (b / 256) from pk_shrN (by omega) _ 8 (by decide)) ?_
      refine lv_goto (tgt := 21) hx hb dM_plain_13 (by decide) ?_
      refine kv_top (show _ = nI (plN mu fi md b i) from (by rw [plN, if_pos c_6])) ?_
      exact hret _ _ _ _ hP hD hS dM_plain_21
set_option maxHeartbeats 4000000 in
set_option maxRecDepth 100000 in
theorem r_sum (l : Launch) (dC : Nat → ClassId) (dI : Nat → Nat → Nat) (g m1 m2 m3 m4 m5 m6 m7 m8 m9 m10 m11 m12 m13 : Nat) (ci : ClassId) (mt : Nat → Nat) (tl rc kp : Nat) (ms mi ml mb mf mo my : Nat → Nat) (np : Nat) (md mu fi : Nat → Nat) (sp : Nat → Int32) (sq : Nat → Nat) (sz : Nat) (b : Nat) (hb80 : b < 80) : Met l yM_sum wsM_sum ({ frames := 1, cells := 0, slots := 0, locals := 22 }) (kPre (dC, dI) vwCl (wM g m1 m2 m3 m4 m5 m6 m7 m8 m9 m10 m11 m12 m13 ci mt tl rc kp ms mi ml mb mf mo my (np / 56) (np % 56) md mu fi sp sq) (tM ci) sz [.ref g, .int (nI b)]) (kQi (dC, dI) vwCl (wM g m1 m2 m3 m4 m5 m6 m7 m8 m9 m10 m11 m12 m13 ci mt tl rc kp ms mi ml mb mf mo my (np / 56) (np % 56) md mu fi sp sq) (tM ci) sz (sumX mu fi md b) (wM g m1 m2 m3 m4 m5 m6 m7 m8 m9 m10 m11 m12 m13 ci mt tl rc kp ms mi ml mb mf mo my (np / 56) (np % 56) md mu fi sp sq)) 0 0 (va_A (wM g m1 m2 m3 m4 m5 m6 m7 m8 m9 m10 m11 m12 m13 ci mt tl rc kp ms mi ml mb mf mo my (np / 56) (np % 56) md mu fi sp sq) sz) := by
  refine kM_i (cc := cM_sum) (maxL := 5) (by decide) rfl (Nat.le_of_ble_eq_true rfl) ?_
  intro p e s m below meth c A Q ls H locs S hP hK hD hS hA hl hret
  obtain ⟨hx, hb, hml, hown, hts⟩ := id S
  have lkc84 := hts (.constant RX1 84 (-306674912)) (by decide +kernel)
  have hl : lv_has ls 5 [(0, .ref g), (1, .int (nI b))] := hl
  refine lv_iconst (v := (-1)) hx hb dM_sum_0 (by decide) ?_
  refine lv_istore_n (lv' := [(2, .int ((-1))), (0, .ref g), (1, .int (nI b))]) hx hb dM_sum_1 rfl hl (by decide) rfl (fun ls hl => ?_)
  refine lv_iconst (v := nI 0) hx hb dM_sum_2 (by decide) ?_
  refine lv_istore_n (lv' := [(3, .int (nI 0)), (2, .int ((-1))), (0, .ref g), (1, .int (nI b))]) hx hb dM_sum_3 rfl hl (by decide) rfl (fun ls hl => ?_)
  have hloopi : ∀ (n i : Nat), i ≤ 64 → 64 + 1 ≤ i + n → ∀ (H : Heap) (locs : List Loc) (ls : Array Slot), va_P (dC, dI) vwCl (wM g m1 m2 m3 m4 m5 m6 m7 m8 m9 m10 m11 m12 m13 ci mt tl rc kp ms mi ml mb mf mo my (np / 56) (np % 56) md mu fi sp sq) H → va_D A (wM g m1 m2 m3 m4 m5 m6 m7 m8 m9 m10 m11 m12 m13 ci mt tl rc kp ms mi ml mb mf mo my (np / 56) (np % 56) md mu fi sp sq) → va_S A s.heap H locs → lv_has ls 5 [(3, .int (nI i)), (2, .int (sumM mu fi md b i)), (0, .ref g), (1, .int (nI b))] → W p l e ({ frames := 1, cells := 0, slots := 0, locals := 22 }) s m ([.ref g, .int (nI b)] : List Value).toArray below meth c H locs 0 0 Q (F0 m 4 ls []) := by
    intro n
    induction n with
    | zero => intro i h1 h2; exact absurd h2 (by omega)
    | succ n ih =>
      intro i hiA hiB H locs ls hP hD hS hl
      refine lv_iload_n hx hb dM_sum_4 rfl (lv_at hl 0 rfl) ?_
      refine lv_bipush (v := nI 64) hx hb dM_sum_5 (by decide) ?_
      refine lv_icmp_ge (tgt := 75) hx hb dM_sum_7 (by decide) (fun c_7 => ?_) (fun c_7 => ?_)
      · have c_7 := (nI_leI (by omega) (by omega)).mp c_7
        have hiE : i = 64 := by omega
        subst hiE
        refine lv_iload_n hx hb dM_sum_75 rfl (lv_at hl 1 rfl) ?_
        refine lv_iconst (v := (-1)) hx hb dM_sum_76 (by decide) ?_
        refine lv_ixor hx hb dM_sum_77 ?_
        refine kv_top (show _ = sumX mu fi md b from rfl) ?_
        exact hret _ _ _ _ hP hD hS dM_sum_78
      · have c_7 := kmt (nI_leI (by omega) (by omega)).mpr c_7
        refine lv_iload_n hx hb dM_sum_10 rfl (lv_at hl 0 rfl) ?_
        refine lv_iconst (v := nI 3) hx hb dM_sum_11 (by decide) ?_
        refine lv_icmp_le (tgt := 24) hx hb dM_sum_12 (by decide) (fun c_12 => ?_) (fun c_12 => ?_)
        · have c_12 := (nI_leI (by omega) (by omega)).mp c_12
          refine lv_iload_n hx hb dM_sum_24 rfl (lv_at hl 1 rfl) ?_
          refine lv_aload_n hx hb dM_sum_25 rfl (lv_at hl 2 rfl) ?_
          refine lv_iload_n hx hb dM_sum_26 rfl (lv_at hl 3 rfl) ?_
          refine lv_iload_n hx hb dM_sum_27 rfl (lv_at hl 0 rfl) ?_
          refine kc_vi (WR := []) (As := [.int (nI b), .int (nI i)]) (rest := [.int (sumM mu fi md b i)]) ⟨hx, hb, hml, hown, hts⟩ (r_plain l dC dI g m1 m2 m3 m4 m5 m6 m7 m8 m9 m10 m11 m12 m13 ci mt tl rc kp ms mi ml mb mf mo my np md mu fi sp sq H.size b i (by omega) (by omega)) (cwV 2 hts gM_sum_M_plain rfl rfl rfl (by decide +kernel) ⟨Nat.le_of_ble_eq_true rfl, Nat.le_of_ble_eq_true rfl⟩) hK hP hD hS hA [0, 1, 2, 3, 4, 5, 6, 7, 8, 9, 10, 11, 12, 13] [] [0] rfl rfl (by decide) (by decide) (by decide) rfl 0 1 rfl rfl rfl rfl hl.1 rfl (Nat.le_of_ble_eq_true rfl) dM_sum_28 ⟨Nat.zero_le _, Nat.zero_le _⟩ (fun H locs hP hD hS => ?_)
          have hP : va_P (dC, dI) vwCl (wM g m1 m2 m3 m4 m5 m6 m7 m8 m9 m10 m11 m12 m13 ci mt tl rc kp ms mi ml mb mf mo my (np / 56) (np % 56) md mu fi sp sq) H := hP
          have hD : va_D A (wM g m1 m2 m3 m4 m5 m6 m7 m8 m9 m10 m11 m12 m13 ci mt tl rc kp ms mi ml mb mf mo my (np / 56) (np % 56) md mu fi sp sq) := hD
          refine lv_ixor hx hb dM_sum_31 ?_
          refine lv_istore_n (lv' := [(2, .int ((sumM mu fi md b i) ^^^ (nI (plN mu fi md b i)))), (3, .int (nI i)), (0, .ref g), (1, .int (nI b))]) hx hb dM_sum_32 rfl hl (by decide) rfl (fun ls hl => ?_)
          refine lv_iconst (v := nI 0) hx hb dM_sum_33 (by decide) ?_
          refine lv_istore (lv' := [(4, .int (nI 0)), (2, .int ((sumM mu fi md b i) ^^^ (nI (plN mu fi md b i)))), (3, .int (nI i)), (0, .ref g), (1, .int (nI b))]) hx hb dM_sum_34 hl (by decide) rfl (fun ls hl => ?_)
          have hloopj : ∀ (n2 j : Nat), j ≤ 8 → 8 + 1 ≤ j + n2 → ∀ (H : Heap) (locs : List Loc) (ls : Array Slot), va_P (dC, dI) vwCl (wM g m1 m2 m3 m4 m5 m6 m7 m8 m9 m10 m11 m12 m13 ci mt tl rc kp ms mi ml mb mf mo my (np / 56) (np % 56) md mu fi sp sq) H → va_D A (wM g m1 m2 m3 m4 m5 m6 m7 m8 m9 m10 m11 m12 m13 ci mt tl rc kp ms mi ml mb mf mo my (np / 56) (np % 56) md mu fi sp sq) → va_S A s.heap H locs → lv_has ls 5 [(4, .int (nI j)), (2, .int (crcN (sumM mu fi md b i ^^^ nI (plN mu fi md b i)) j)), (0, .ref g), (1, .int (nI b)), (3, .int (nI i))] → W p l e ({ frames := 1, cells := 0, slots := 0, locals := 22 }) s m ([.ref g, .int (nI b)] : List Value).toArray below meth c H locs 0 0 Q (F0 m 36 ls []) := by
            intro n2
            induction n2 with
            | zero => intro j h1 h2; exact absurd h2 (by omega)
            | succ n2 ih2 =>
              intro j hjA hjB H locs ls hP hD hS hl
              refine lv_iload hx hb dM_sum_36 (lv_at hl 0 rfl) ?_
              refine lv_bipush (v := nI 8) hx hb dM_sum_38 (by decide) ?_
              refine lv_icmp_ge (tgt := 69) hx hb dM_sum_40 (by decide) (fun c_40 => ?_) (fun c_40 => ?_)
              · have c_40 := (nI_leI (by omega) (by omega)).mp c_40
                have hjE : j = 8 := by omega
                subst hjE
                rw [show crcN (sumM mu fi md b i ^^^ nI (plN mu fi md b i)) 8 = sumM mu fi md b (i + 1) from (by rw [sumM, if_neg (by omega)])] at hl
                refine lv_iinc (v := nI (i + 1)) (lv' := [(3, .int (nI (i + 1))), (4, .int (nI 8)), (2, .int (sumM mu fi md b (i + 1))), (0, .ref g), (1, .int (nI b))]) hx hb dM_sum_69 hl (k := 4) rfl (ki_inc _) (by decide) rfl (fun ls hl => ?_)
                refine lv_goto (tgt := 4) hx hb dM_sum_72 (by decide) ?_
                have hP : va_P (dC, dI) vwCl (wM g m1 m2 m3 m4 m5 m6 m7 m8 m9 m10 m11 m12 m13 ci mt tl rc kp ms mi ml mb mf mo my (np / 56) (np % 56) md mu fi sp sq) H := hP
                have hD : va_D A (wM g m1 m2 m3 m4 m5 m6 m7 m8 m9 m10 m11 m12 m13 ci mt tl rc kp ms mi ml mb mf mo my (np / 56) (np % 56) md mu fi sp sq) := hD
                exact ih (i + 1) (by omega) (by omega) _ _ _ hP hD hS (lv_sub hl [0, 2, 3, 4] rfl)
              · have c_40 := kmt (nI_leI (by omega) (by omega)).mpr c_40
                refine lv_iload_n hx hb dM_sum_43 rfl (lv_at hl 1 rfl) ?_
                refine lv_iconst (v := nI 1) hx hb dM_sum_44 (by decide) ?_
                refine lv_iand hx hb dM_sum_45 ?_
                refine lv_iconst (v := nI 1) hx hb dM_sum_46 (by decide) ?_
                refine lv_icmp_ne (tgt := 59) hx hb dM_sum_47 (by decide) (fun c_47 => ?_) (fun c_47 => ?_)
                · refine lv_iload_n hx hb dM_sum_59 rfl (lv_at hl 1 rfl) ?_
                  refine lv_iconst (v := nI 1) hx hb dM_sum_60 (by decide) ?_
                  refine lv_iushr (v := ush (crcN (sumM mu fi md b i ^^^ nI (plN mu fi md b i)) j) 1) hx hb dM_sum_61 rfl ?_
                  refine kv_top (show _ = crcN (sumM mu fi md b i ^^^ nI (plN mu fi md b i)) (j + 1) from (by show _ = crc1 _; rw [crc1, if_pos (Decidable.byContradiction (fun h9 => c_47 (c1_one.mpr h9)))])) ?_
                  refine lv_istore_n (lv' := [(2, .int (crcN (sumM mu fi md b i ^^^ nI (plN mu fi md b i)) (j + 1))), (4, .int (nI j)), (0, .ref g), (1, .int (nI b)), (3, .int (nI i))]) hx hb dM_sum_62 rfl hl (by decide) rfl (fun ls hl => ?_)
                  refine lv_iinc (v := nI (j + 1)) (lv' := [(4, .int (nI (j + 1))), (2, .int (crcN (sumM mu fi md b i ^^^ nI (plN mu fi md b i)) (j + 1))), (0, .ref g), (1, .int (nI b)), (3, .int (nI i))]) hx hb dM_sum_63 hl (k := 1) rfl (ki_inc _) (by decide) rfl (fun ls hl => ?_)
                  refine lv_goto (tgt := 36) hx hb dM_sum_66 (by decide) ?_
                  have hP : va_P (dC, dI) vwCl (wM g m1 m2 m3 m4 m5 m6 m7 m8 m9 m10 m11 m12 m13 ci mt tl rc kp ms mi ml mb mf mo my (np / 56) (np % 56) md mu fi sp sq) H := hP
                  have hD : va_D A (wM g m1 m2 m3 m4 m5 m6 m7 m8 m9 m10 m11 m12 m13 ci mt tl rc kp ms mi ml mb mf mo my (np / 56) (np % 56) md mu fi sp sq) := hD
                  exact ih2 (j + 1) (by omega) (by omega) _ _ _ hP hD hS (lv_sub hl [0, 1, 2, 3, 4] rfl)
                · refine lv_iload_n hx hb dM_sum_50 rfl (lv_at hl 1 rfl) ?_
                  refine lv_iconst (v := nI 1) hx hb dM_sum_51 (by decide) ?_
                  refine lv_iushr (v := ush (crcN (sumM mu fi md b i ^^^ nI (plN mu fi md b i)) j) 1) hx hb dM_sum_52 rfl ?_
                  refine lv_ldc (v := (-306674912)) hx hb hown lkc84 dM_sum_53 ?_
                  refine lv_ixor hx hb dM_sum_55 ?_
                  refine lv_goto (tgt := 62) hx hb dM_sum_56 (by decide) ?_
                  refine kv_top (show _ = crcN (sumM mu fi md b i ^^^ nI (plN mu fi md b i)) (j + 1) from (by show _ = crc1 _; rw [crc1, if_neg (c1_one.mp c_47)])) ?_
                  refine lv_istore_n (lv' := [(2, .int (crcN (sumM mu fi md b i ^^^ nI (plN mu fi md b i)) (j + 1))), (4, .int (nI j)), (0, .ref g), (1, .int (nI b)), (3, .int (nI i))]) hx hb dM_sum_62 rfl hl (by decide) rfl (fun ls hl => ?_)
                  refine lv_iinc (v := nI (j + 1)) (lv' := [(4, .int (nI (j + 1))), (2, .int (crcN (sumM mu fi md b i ^^^ nI (plN mu fi md b i)) (j + 1))), (0, .ref g), (1, .int (nI b)), (3, .int (nI i))]) hx hb dM_sum_63 hl (k := 1) rfl (ki_inc _) (by decide) rfl (fun ls hl => ?_)
                  refine lv_goto (tgt := 36) hx hb dM_sum_66 (by decide) ?_
                  have hP : va_P (dC, dI) vwCl (wM g m1 m2 m3 m4 m5 m6 m7 m8 m9 m10 m11 m12 m13 ci mt tl rc kp ms mi ml mb mf mo my (np / 56) (np % 56) md mu fi sp sq) H := hP
                  have hD : va_D A (wM g m1 m2 m3 m4 m5 m6 m7 m8 m9 m10 m11 m12 m13 ci mt tl rc kp ms mi ml mb mf mo my (np / 56) (np % 56) md mu fi sp sq) := hD
                  exact ih2 (j + 1) (by omega) (by omega) _ _ _ hP hD hS (lv_sub hl [0, 1, 2, 3, 4] rfl)
          have hP : va_P (dC, dI) vwCl (wM g m1 m2 m3 m4 m5 m6 m7 m8 m9 m10 m11 m12 m13 ci mt tl rc kp ms mi ml mb mf mo my (np / 56) (np % 56) md mu fi sp sq) H := hP
          have hD : va_D A (wM g m1 m2 m3 m4 m5 m6 m7 m8 m9 m10 m11 m12 m13 ci mt tl rc kp ms mi ml mb mf mo my (np / 56) (np % 56) md mu fi sp sq) := hD
          exact hloopj (8 + 1) 0 (by omega) (by omega) _ _ _ hP hD hS (lv_sub hl [0, 1, 3, 4, 2] rfl)
        · have c_12 := kmt (nI_leI (by omega) (by omega)).mpr c_12
          refine lv_iload_n hx hb dM_sum_15 rfl (lv_at hl 0 rfl) ?_
          refine lv_bipush (v := nI 8) hx hb dM_sum_16 (by decide) ?_
          refine lv_icmp_ge (tgt := 24) hx hb dM_sum_18 (by decide) (fun c_18 => ?_) (fun c_18 => ?_)
          · have c_18 := (nI_leI (by omega) (by omega)).mp c_18
            refine lv_iload_n hx hb dM_sum_24 rfl (lv_at hl 1 rfl) ?_
            refine lv_aload_n hx hb dM_sum_25 rfl (lv_at hl 2 rfl) ?_
            refine lv_iload_n hx hb dM_sum_26 rfl (lv_at hl 3 rfl) ?_
            refine lv_iload_n hx hb dM_sum_27 rfl (lv_at hl 0 rfl) ?_
            refine kc_vi (WR := []) (As := [.int (nI b), .int (nI i)]) (rest := [.int (sumM mu fi md b i)]) ⟨hx, hb, hml, hown, hts⟩ (r_plain l dC dI g m1 m2 m3 m4 m5 m6 m7 m8 m9 m10 m11 m12 m13 ci mt tl rc kp ms mi ml mb mf mo my np md mu fi sp sq H.size b i (by omega) (by omega)) (cwV 2 hts gM_sum_M_plain rfl rfl rfl (by decide +kernel) ⟨Nat.le_of_ble_eq_true rfl, Nat.le_of_ble_eq_true rfl⟩) hK hP hD hS hA [0, 1, 2, 3, 4, 5, 6, 7, 8, 9, 10, 11, 12, 13] [] [0] rfl rfl (by decide) (by decide) (by decide) rfl 0 1 rfl rfl rfl rfl hl.1 rfl (Nat.le_of_ble_eq_true rfl) dM_sum_28 ⟨Nat.zero_le _, Nat.zero_le _⟩ (fun H locs hP hD hS => ?_)
            have hP : va_P (dC, dI) vwCl (wM g m1 m2 m3 m4 m5 m6 m7 m8 m9 m10 m11 m12 m13 ci mt tl rc kp ms mi ml mb mf mo my (np / 56) (np % 56) md mu fi sp sq) H := hP
            have hD : va_D A (wM g m1 m2 m3 m4 m5 m6 m7 m8 m9 m10 m11 m12 m13 ci mt tl rc kp ms mi ml mb mf mo my (np / 56) (np % 56) md mu fi sp sq) := hD
            refine lv_ixor hx hb dM_sum_31 ?_
            refine lv_istore_n (lv' := [(2, .int ((sumM mu fi md b i) ^^^ (nI (plN mu fi md b i)))), (3, .int (nI i)), (0, .ref g), (1, .int (nI b))]) hx hb dM_sum_32 rfl hl (by decide) rfl (fun ls hl => ?_)
            refine lv_iconst (v := nI 0) hx hb dM_sum_33 (by decide) ?_
            refine lv_istore (lv' := [(4, .int (nI 0)), (2, .int ((sumM mu fi md b i) ^^^ (nI (plN mu fi md b i)))), (3, .int (nI i)), (0, .ref g), (1, .int (nI b))]) hx hb dM_sum_34 hl (by decide) rfl (fun ls hl => ?_)
            have hloopj : ∀ (n2 j : Nat), j ≤ 8 → 8 + 1 ≤ j + n2 → ∀ (H : Heap) (locs : List Loc) (ls : Array Slot), va_P (dC, dI) vwCl (wM g m1 m2 m3 m4 m5 m6 m7 m8 m9 m10 m11 m12 m13 ci mt tl rc kp ms mi ml mb mf mo my (np / 56) (np % 56) md mu fi sp sq) H → va_D A (wM g m1 m2 m3 m4 m5 m6 m7 m8 m9 m10 m11 m12 m13 ci mt tl rc kp ms mi ml mb mf mo my (np / 56) (np % 56) md mu fi sp sq) → va_S A s.heap H locs → lv_has ls 5 [(4, .int (nI j)), (2, .int (crcN (sumM mu fi md b i ^^^ nI (plN mu fi md b i)) j)), (0, .ref g), (1, .int (nI b)), (3, .int (nI i))] → W p l e ({ frames := 1, cells := 0, slots := 0, locals := 22 }) s m ([.ref g, .int (nI b)] : List Value).toArray below meth c H locs 0 0 Q (F0 m 36 ls []) := by
              intro n2
              induction n2 with
              | zero => intro j h1 h2; exact absurd h2 (by omega)
              | succ n2 ih2 =>
                intro j hjA hjB H locs ls hP hD hS hl
                refine lv_iload hx hb dM_sum_36 (lv_at hl 0 rfl) ?_
                refine lv_bipush (v := nI 8) hx hb dM_sum_38 (by decide) ?_
                refine lv_icmp_ge (tgt := 69) hx hb dM_sum_40 (by decide) (fun c_40 => ?_) (fun c_40 => ?_)
                · have c_40 := (nI_leI (by omega) (by omega)).mp c_40
                  have hjE : j = 8 := by omega
                  subst hjE
                  rw [show crcN (sumM mu fi md b i ^^^ nI (plN mu fi md b i)) 8 = sumM mu fi md b (i + 1) from (by rw [sumM, if_neg (by omega)])] at hl
                  refine lv_iinc (v := nI (i + 1)) (lv' := [(3, .int (nI (i + 1))), (4, .int (nI 8)), (2, .int (sumM mu fi md b (i + 1))), (0, .ref g), (1, .int (nI b))]) hx hb dM_sum_69 hl (k := 4) rfl (ki_inc _) (by decide) rfl (fun ls hl => ?_)
                  refine lv_goto (tgt := 4) hx hb dM_sum_72 (by decide) ?_
                  have hP : va_P (dC, dI) vwCl (wM g m1 m2 m3 m4 m5 m6 m7 m8 m9 m10 m11 m12 m13 ci mt tl rc kp ms mi ml mb mf mo my (np / 56) (np % 56) md mu fi sp sq) H := hP
                  have hD : va_D A (wM g m1 m2 m3 m4 m5 m6 m7 m8 m9 m10 m11 m12 m13 ci mt tl rc kp ms mi ml mb mf mo my (np / 56) (np % 56) md mu fi sp sq) := hD
                  exact ih (i + 1) (by omega) (by omega) _ _ _ hP hD hS (lv_sub hl [0, 2, 3, 4] rfl)
                · have c_40 := kmt (nI_leI (by omega) (by omega)).mpr c_40
                  refine lv_iload_n hx hb dM_sum_43 rfl (lv_at hl 1 rfl) ?_
                  refine lv_iconst (v := nI 1) hx hb dM_sum_44 (by decide) ?_
                  refine lv_iand hx hb dM_sum_45 ?_
                  refine lv_iconst (v := nI 1) hx hb dM_sum_46 (by decide) ?_
                  refine lv_icmp_ne (tgt := 59) hx hb dM_sum_47 (by decide) (fun c_47 => ?_) (fun c_47 => ?_)
                  · refine lv_iload_n hx hb dM_sum_59 rfl (lv_at hl 1 rfl) ?_
                    refine lv_iconst (v := nI 1) hx hb dM_sum_60 (by decide) ?_
                    refine lv_iushr (v := ush (crcN (sumM mu fi md b i ^^^ nI (plN mu fi md b i)) j) 1) hx hb dM_sum_61 rfl ?_
                    refine kv_top (show _ = crcN (sumM mu fi md b i ^^^ nI (plN mu fi md b i)) (j + 1) from (by show _ = crc1 _; rw [crc1, if_pos (Decidable.byContradiction (fun h9 => c_47 (c1_one.mpr h9)))])) ?_
                    refine lv_istore_n (lv' := [(2, .int (crcN (sumM mu fi md b i ^^^ nI (plN mu fi md b i)) (j + 1))), (4, .int (nI j)), (0, .ref g), (1, .int (nI b)), (3, .int (nI i))]) hx hb dM_sum_62 rfl hl (by decide) rfl (fun ls hl => ?_)
                    refine lv_iinc (v := nI (j + 1)) (lv' := [(4, .int (nI (j + 1))), (2, .int (crcN (sumM mu fi md b i ^^^ nI (plN mu fi md b i)) (j + 1))), (0, .ref g), (1, .int (nI b)), (3, .int (nI i))]) hx hb dM_sum_63 hl (k := 1) rfl (ki_inc _) (by decide) rfl (fun ls hl => ?_)
                    refine lv_goto (tgt := 36) hx hb dM_sum_66 (by decide) ?_
                    have hP : va_P (dC, dI) vwCl (wM g m1 m2 m3 m4 m5 m6 m7 m8 m9 m10 m11 m12 m13 ci mt tl rc kp ms mi ml mb mf mo my (np / 56) (np % 56) md mu fi sp sq) H := hP
                    have hD : va_D A (wM g m1 m2 m3 m4 m5 m6 m7 m8 m9 m10 m11 m12 m13 ci mt tl rc kp ms mi ml mb mf mo my (np / 56) (np % 56) md mu fi sp sq) := hD
                    exact ih2 (j + 1) (by omega) (by omega) _ _ _ hP hD hS (lv_sub hl [0, 1, 2, 3, 4] rfl)
                  · refine lv_iload_n hx hb dM_sum_50 rfl (lv_at hl 1 rfl) ?_
                    refine lv_iconst (v := nI 1) hx hb dM_sum_51 (by decide) ?_
                    refine lv_iushr (v := ush (crcN (sumM mu fi md b i ^^^ nI (plN mu fi md b i)) j) 1) hx hb dM_sum_52 rfl ?_
                    refine lv_ldc (v := (-306674912)) hx hb hown lkc84 dM_sum_53 ?_
                    refine lv_ixor hx hb dM_sum_55 ?_
                    refine lv_goto (tgt := 62) hx hb dM_sum_56 (by decide) ?_
                    refine kv_top (show _ = crcN (sumM mu fi md b i ^^^ nI (plN mu fi md b i)) (j + 1) from (by show _ = crc1 _; rw [crc1, if_neg (c1_one.mp c_47)])) ?_
                    refine lv_istore_n (lv' := [(2, .int (crcN (sumM mu fi md b i ^^^ nI (plN mu fi md b i)) (j + 1))), (4, .int (nI j)), (0, .ref g), (1, .int (nI b)), (3, .int (nI i))]) hx hb dM_sum_62 rfl hl (by decide) rfl (fun ls hl => ?_)
                    refine lv_iinc (v := nI (j + 1)) (lv' := [(4, .int (nI (j + 1))), (2, .int (crcN (sumM mu fi md b i ^^^ nI (plN mu fi md b i)) (j + 1))), (0, .ref g), (1, .int (nI b)), (3, .int (nI i))]) hx hb dM_sum_63 hl (k := 1) rfl (ki_inc _) (by decide) rfl (fun ls hl => ?_)
                    refine lv_goto (tgt := 36) hx hb dM_sum_66 (by decide) ?_
                    have hP : va_P (dC, dI) vwCl (wM g m1 m2 m3 m4 m5 m6 m7 m8 m9 m10 m11 m12 m13 ci mt tl rc kp ms mi ml mb mf mo my (np / 56) (np % 56) md mu fi sp sq) H := hP
                    have hD : va_D A (wM g m1 m2 m3 m4 m5 m6 m7 m8 m9 m10 m11 m12 m13 ci mt tl rc kp ms mi ml mb mf mo my (np / 56) (np % 56) md mu fi sp sq) := hD
                    exact ih2 (j + 1) (by omega) (by omega) _ _ _ hP hD hS (lv_sub hl [0, 1, 2, 3, 4] rfl)
            have hP : va_P (dC, dI) vwCl (wM g m1 m2 m3 m4 m5 m6 m7 m8 m9 m10 m11 m12 m13 ci mt tl rc kp ms mi ml mb mf mo my (np / 56) (np % 56) md mu fi sp sq) H := hP
            have hD : va_D A (wM g m1 m2 m3 m4 m5 m6 m7 m8 m9 m10 m11 m12 m13 ci mt tl rc kp ms mi ml mb mf mo my (np / 56) (np % 56) md mu fi sp sq) := hD
            exact hloopj (8 + 1) 0 (by omega) (by omega) _ _ _ hP hD hS (lv_sub hl [0, 1, 3, 4, 2] rfl)
          · have c_18 := kmt (nI_leI (by omega) (by omega)).mpr c_18
            rw [show sumM mu fi md b i = sumM mu fi md b (i + 1) from (by rw [sumM, if_pos (by omega)])] at hl
            refine lv_goto (tgt := 69) hx hb dM_sum_21 (by decide) ?_
            refine lv_iinc (v := nI (i + 1)) (lv' := [(3, .int (nI (i + 1))), (2, .int (sumM mu fi md b (i + 1))), (0, .ref g), (1, .int (nI b))]) hx hb dM_sum_69 hl (k := 0) rfl (ki_inc _) (by decide) rfl (fun ls hl => ?_)
            refine lv_goto (tgt := 4) hx hb dM_sum_72 (by decide) ?_
            have hP : va_P (dC, dI) vwCl (wM g m1 m2 m3 m4 m5 m6 m7 m8 m9 m10 m11 m12 m13 ci mt tl rc kp ms mi ml mb mf mo my (np / 56) (np % 56) md mu fi sp sq) H := hP
            have hD : va_D A (wM g m1 m2 m3 m4 m5 m6 m7 m8 m9 m10 m11 m12 m13 ci mt tl rc kp ms mi ml mb mf mo my (np / 56) (np % 56) md mu fi sp sq) := hD
            exact ih (i + 1) (by omega) (by omega) _ _ _ hP hD hS (lv_sub hl [0, 1, 2, 3] rfl)
  have hP : va_P (dC, dI) vwCl (wM g m1 m2 m3 m4 m5 m6 m7 m8 m9 m10 m11 m12 m13 ci mt tl rc kp ms mi ml mb mf mo my (np / 56) (np % 56) md mu fi sp sq) H := hP
  have hD : va_D A (wM g m1 m2 m3 m4 m5 m6 m7 m8 m9 m10 m11 m12 m13 ci mt tl rc kp ms mi ml mb mf mo my (np / 56) (np % 56) md mu fi sp sq) := hD
  exact hloopi (64 + 1) 0 (by omega) (by omega) _ _ _ hP hD hS (lv_sub hl [0, 1, 2, 3] rfl)
set_option maxHeartbeats 4000000 in
set_option maxRecDepth 100000 in
theorem r_isWritten (l : Launch) (dC : Nat → ClassId) (dI : Nat → Nat → Nat) (g m1 m2 m3 m4 m5 m6 m7 m8 m9 m10 m11 m12 m13 : Nat) (ci : ClassId) (mt : Nat → Nat) (tl rc kp : Nat) (ms mi ml mb mf mo my : Nat → Nat) (np : Nat) (md mu fi : Nat → Nat) (sp : Nat → Int32) (sq : Nat → Nat) (sz : Nat) (x : Int32) (hnp : np ≤ 4480) : Met l yM_isWritten wsM_isWritten ({ frames := 0, cells := 0, slots := 0, locals := 0 }) (kPre (dC, dI) vwCl (wM g m1 m2 m3 m4 m5 m6 m7 m8 m9 m10 m11 m12 m13 ci mt tl rc kp ms mi ml mb mf mo my (np / 56) (np % 56) md mu fi sp sq) (tM ci) sz [.ref g, .int x]) (kQi (dC, dI) vwCl (wM g m1 m2 m3 m4 m5 m6 m7 m8 m9 m10 m11 m12 m13 ci mt tl rc kp ms mi ml mb mf mo my (np / 56) (np % 56) md mu fi sp sq) (tM ci) sz (bI (isW np x)) (wM g m1 m2 m3 m4 m5 m6 m7 m8 m9 m10 m11 m12 m13 ci mt tl rc kp ms mi ml mb mf mo my (np / 56) (np % 56) md mu fi sp sq)) 0 0 (va_A (wM g m1 m2 m3 m4 m5 m6 m7 m8 m9 m10 m11 m12 m13 ci mt tl rc kp ms mi ml mb mf mo my (np / 56) (np % 56) md mu fi sp sq) sz) := by
  refine kM_z (cc := cM_isWritten) (maxL := 2) (by decide) rfl (Nat.le_of_ble_eq_true rfl) (bI_n _) ?_
  intro p e s m below meth c A Q ls H locs S hP hK hD hS hA hl hret
  obtain ⟨hx, hb, hml, hown, hts⟩ := id S
  have hin1 : ∀ w ∈ u_ws RX1 TX1 19, w ∈ wsM_isWritten := fun _ h => List.mem_cons_of_mem _ (List.mem_append_right _ h)
  have lkf56 := hts (.fieldLink RX1 56 "BlockTapeModel" "written" "I") (by decide +kernel)
  have hl : lv_has ls 2 [(0, .ref g), (1, .int x)] := hl
  refine lv_iload_n hx hb dM_isWritten_0 rfl (lv_at hl 1 rfl) ?_
  refine lv_if_lt (tgt := 16) hx hb dM_isWritten_1 (by decide) (fun c_1 => ?_) (fun c_1 => ?_)
  · have c_1 := (kx_lt0).mp c_1
    refine lv_iconst (v := nI 0) hx hb dM_isWritten_16 (by decide) ?_
    refine kv_top (show _ = bI (isW np x) from (bI_f (by simp [isW]; omega))) ?_
    exact hret _ _ _ _ hP hD hS dM_isWritten_17
  · have c_1 := kmt (kx_lt0).mpr c_1
    refine lv_iload_n hx hb dM_isWritten_4 rfl (lv_at hl 1 rfl) ?_
    refine lv_aload_n hx hb dM_isWritten_5 rfl (lv_at hl 0 rfl) ?_
    refine va_get (D := (dC, dI)) (ci := 1) (v := .int (nI (np / 56))) (C := RX1) (T := TX1) (N := 19) hx hb hts hin1 hown hK hP 0 rfl rfl 12 (by decide) lkf56 (fun _ h9 => h9) rfl dM_isWritten_6 ?_
    refine lv_icmp_ge (tgt := 16) hx hb dM_isWritten_9 (by decide) (fun c_9 => ?_) (fun c_9 => ?_)
    · have c_9 := (kx_ge (by omega)).mp c_9
      refine lv_iconst (v := nI 0) hx hb dM_isWritten_16 (by decide) ?_
      refine kv_top (show _ = bI (isW np x) from (bI_f (by simp [isW]; omega))) ?_
      exact hret _ _ _ _ hP hD hS dM_isWritten_17
    · have c_9 := kmt (kx_ge (by omega)).mpr c_9
      refine lv_iconst (v := nI 1) hx hb dM_isWritten_12 (by decide) ?_
      refine lv_goto (tgt := 17) hx hb dM_isWritten_13 (by decide) ?_
      refine kv_top (show _ = bI (isW np x) from (bI_t (by simp [isW]; omega))) ?_
      exact hret _ _ _ _ hP hD hS dM_isWritten_17
set_option maxHeartbeats 4000000 in
set_option maxRecDepth 100000 in
theorem r_byteOf (l : Launch) (dC : Nat → ClassId) (dI : Nat → Nat → Nat) (g m1 m2 m3 m4 m5 m6 m7 m8 m9 m10 m11 m12 m13 : Nat) (ci : ClassId) (mt : Nat → Nat) (tl rc kp : Nat) (ms mi ml mb mf mo my : Nat → Nat) (np : Nat) (md mu fi : Nat → Nat) (sp : Nat → Int32) (sq : Nat → Nat) (sz : Nat) (x : Int32) (i : Int32) (hnp : np ≤ 4480) : Met l yM_byteOf wsM_byteOf ({ frames := 2, cells := 0, slots := 0, locals := 46 }) (kPre (dC, dI) vwCl (wM g m1 m2 m3 m4 m5 m6 m7 m8 m9 m10 m11 m12 m13 ci mt tl rc kp ms mi ml mb mf mo my (np / 56) (np % 56) md mu fi sp sq) (tM ci) sz [.ref g, .int x, .int i]) (kQi (dC, dI) vwCl (wM g m1 m2 m3 m4 m5 m6 m7 m8 m9 m10 m11 m12 m13 ci mt tl rc kp ms mi ml mb mf mo my (np / 56) (np % 56) md mu fi sp sq) (tM ci) sz (byM np mu fi md sp sq x i) (wM g m1 m2 m3 m4 m5 m6 m7 m8 m9 m10 m11 m12 m13 ci mt tl rc kp ms mi ml mb mf mo my (np / 56) (np % 56) md mu fi sp sq)) 0 0 (va_A (wM g m1 m2 m3 m4 m5 m6 m7 m8 m9 m10 m11 m12 m13 ci mt tl rc kp ms mi ml mb mf mo my (np / 56) (np % 56) md mu fi sp sq) sz) := by
  refine kM_i (cc := cM_byteOf) (maxL := 4) (by decide) rfl (Nat.le_of_ble_eq_true rfl) ?_
  intro p e s m below meth c A Q ls H locs S hP hK hD hS hA hl hret
  obtain ⟨hx, hb, hml, hown, hts⟩ := id S
  have hin1 : ∀ w ∈ u_ws RX1 TX1 19, w ∈ wsM_byteOf := fun _ h => List.mem_cons_of_mem _ (List.mem_append_right _ h)
  have lkf49 := hts (.fieldLink RX1 49 "BlockTapeModel" "thrown" "I") (by decide +kernel)
  have lkf43 := hts (.fieldLink RX1 43 "BlockTapeModel" "spoilt" "[I") (by decide +kernel)
  have lkf46 := hts (.fieldLink RX1 46 "BlockTapeModel" "spoiltBy" "[I") (by decide +kernel)
  have hl : lv_has ls 4 [(0, .ref g), (1, .int x), (2, .int i)] := hl
  refine lv_aload_n hx hb dM_byteOf_0 rfl (lv_at hl 0 rfl) ?_
  refine lv_iconst (v := nI 0) hx hb dM_byteOf_1 (by decide) ?_
  refine va_put (D := (dC, dI)) (ci := 1) (v := .int (nI 0)) (ty := .int) (C := RX1) (T := TX1) (N := 19) hx hb hts hin1 tyX1 tyX1_ok nmX1 hown hK hP hD hS 0 rfl rfl 0 (by decide) lkf49 (fun _ h9 => h9) rfl (by decide +kernel) rfl rfl (Nat.le_of_ble_eq_true rfl) dM_byteOf_2 (fun H locs hP hD hS => ?_)
  have hP : va_P (dC, dI) vwCl (wM g m1 m2 m3 m4 m5 m6 m7 m8 m9 m10 m11 m12 m13 ci mt tl rc kp ms mi ml mb mf mo my (np / 56) (np % 56) md mu fi sp sq) H := hP
  have hD : va_D A (wM g m1 m2 m3 m4 m5 m6 m7 m8 m9 m10 m11 m12 m13 ci mt tl rc kp ms mi ml mb mf mo my (np / 56) (np % 56) md mu fi sp sq) := hD
  refine lv_aload_n hx hb dM_byteOf_5 rfl (lv_at hl 0 rfl) ?_
  refine lv_iload_n hx hb dM_byteOf_6 rfl (lv_at hl 1 rfl) ?_
  refine kc_vi (WR := []) (As := [.int x]) (rest := []) ⟨hx, hb, hml, hown, hts⟩ (r_isWritten l dC dI g m1 m2 m3 m4 m5 m6 m7 m8 m9 m10 m11 m12 m13 ci mt tl rc kp ms mi ml mb mf mo my np md mu fi sp sq H.size x (by omega)) (cwV 1 hts gM_byteOf_M_isWritten rfl rfl rfl (by decide +kernel) ⟨Nat.le_of_ble_eq_true rfl, Nat.le_of_ble_eq_true rfl⟩) hK hP hD hS hA [0, 1, 2, 3, 4, 5, 6, 7, 8, 9, 10, 11, 12, 13] [] [0] rfl rfl (by decide) (by decide) (by decide) rfl 0 1 rfl rfl rfl rfl hl.1 rfl (Nat.le_of_ble_eq_true rfl) dM_byteOf_7 ⟨Nat.zero_le _, Nat.zero_le _⟩ (fun H locs hP hD hS => ?_)
  have hP : va_P (dC, dI) vwCl (wM g m1 m2 m3 m4 m5 m6 m7 m8 m9 m10 m11 m12 m13 ci mt tl rc kp ms mi ml mb mf mo my (np / 56) (np % 56) md mu fi sp sq) H := hP
  have hD : va_D A (wM g m1 m2 m3 m4 m5 m6 m7 m8 m9 m10 m11 m12 m13 ci mt tl rc kp ms mi ml mb mf mo my (np / 56) (np % 56) md mu fi sp sq) := hD
  refine lv_if_eq (tgt := 23) hx hb dM_byteOf_10 (by decide) (fun c_10 => ?_) (fun c_10 => ?_)
  · have c_10 := (bI_e _).mp c_10
    refine lv_iconst (v := (-1)) hx hb dM_byteOf_23 (by decide) ?_
    refine kv_top (show _ = byM np mu fi md sp sq x i from (byM_f (Or.inl c_10)).symm) ?_
    exact hret _ _ _ _ hP hD hS dM_byteOf_24
  · have c_10 := kmt (bI_e _).mpr c_10
    refine lv_iload_n hx hb dM_byteOf_13 rfl (lv_at hl 2 rfl) ?_
    refine lv_if_lt (tgt := 23) hx hb dM_byteOf_14 (by decide) (fun c_14 => ?_) (fun c_14 => ?_)
    · have c_14 := (kx_lt0).mp c_14
      refine lv_iconst (v := (-1)) hx hb dM_byteOf_23 (by decide) ?_
      refine kv_top (show _ = byM np mu fi md sp sq x i from (byM_f (Or.inr (by simp [inB]; omega))).symm) ?_
      exact hret _ _ _ _ hP hD hS dM_byteOf_24
    · have c_14 := kmt (kx_lt0).mpr c_14
      refine lv_iload_n hx hb dM_byteOf_17 rfl (lv_at hl 2 rfl) ?_
      refine lv_bipush (v := nI 63) hx hb dM_byteOf_18 (by decide) ?_
      refine lv_icmp_le (tgt := 25) hx hb dM_byteOf_20 (by decide) (fun c_20 => ?_) (fun c_20 => ?_)
      · have c_20 := (kx_le (by omega)).mp c_20
        have c_10 := bT c_10
        obtain ⟨j, hj, rfl⟩ := isW_of c_10
        obtain ⟨q, hq, rfl⟩ := kx_of (x := i) (by omega)
        rw [nI_toInt hq] at c_14 c_20
        rw [byM_t (by omega) (by omega) hnp] at hret
        refine lv_iload_n hx hb dM_byteOf_25 rfl (lv_at hl 2 rfl) ?_
        refine lv_iconst (v := nI 3) hx hb dM_byteOf_26 (by decide) ?_
        refine lv_icmp_le (tgt := 56) hx hb dM_byteOf_27 (by decide) (fun c_27 => ?_) (fun c_27 => ?_)
        · have c_27 := (nI_leI (by omega) (by omega)).mp c_27
          refine lv_aload_n hx hb dM_byteOf_56 rfl (lv_at hl 0 rfl) ?_
          refine lv_iload_n hx hb dM_byteOf_57 rfl (lv_at hl 1 rfl) ?_
          refine lv_iload_n hx hb dM_byteOf_58 rfl (lv_at hl 2 rfl) ?_
          refine kc_vi (WR := []) (As := [.int (nI j), .int (nI q)]) (rest := []) ⟨hx, hb, hml, hown, hts⟩ (r_plain l dC dI g m1 m2 m3 m4 m5 m6 m7 m8 m9 m10 m11 m12 m13 ci mt tl rc kp ms mi ml mb mf mo my np md mu fi sp sq H.size j q (by omega) (by omega)) (cwV 2 hts gM_byteOf_M_plain rfl rfl rfl (by decide +kernel) ⟨Nat.le_of_ble_eq_true rfl, Nat.le_of_ble_eq_true rfl⟩) hK hP hD hS hA [0, 1, 2, 3, 4, 5, 6, 7, 8, 9, 10, 11, 12, 13] [] [0] rfl rfl (by decide) (by decide) (by decide) rfl 0 1 rfl rfl rfl rfl hl.1 rfl (Nat.le_of_ble_eq_true rfl) dM_byteOf_59 ⟨Nat.zero_le _, Nat.zero_le _⟩ (fun H locs hP hD hS => ?_)
          have hP : va_P (dC, dI) vwCl (wM g m1 m2 m3 m4 m5 m6 m7 m8 m9 m10 m11 m12 m13 ci mt tl rc kp ms mi ml mb mf mo my (np / 56) (np % 56) md mu fi sp sq) H := hP
          have hD : va_D A (wM g m1 m2 m3 m4 m5 m6 m7 m8 m9 m10 m11 m12 m13 ci mt tl rc kp ms mi ml mb mf mo my (np / 56) (np % 56) md mu fi sp sq) := hD
          refine kv_top (show _ = nI (pmN mu fi md j q) from (by rw [pmN, if_neg (by omega)])) ?_
          refine lv_istore_n (lv' := [(3, .int (nI (pmN mu fi md j q))), (0, .ref g), (1, .int (nI j)), (2, .int (nI q))]) hx hb dM_byteOf_62 rfl hl (by decide) rfl (fun ls hl => ?_)
          refine lv_aload_n hx hb dM_byteOf_63 rfl (lv_at hl 1 rfl) ?_
          refine va_get (D := (dC, dI)) (ci := 1) (v := .ref m12) (C := RX1) (T := TX1) (N := 19) hx hb hts hin1 hown hK hP 0 rfl rfl 17 (by decide) lkf43 (fun _ h9 => h9) rfl dM_byteOf_64 ?_
          refine lv_iload_n hx hb dM_byteOf_67 rfl (lv_at hl 2 rfl) ?_
          refine ka_iald hx hb hK hP 12 0 rfl rfl (k := j) (by omega) (by decide) dM_byteOf_68 ?_
          refine lv_iload_n hx hb dM_byteOf_69 rfl (lv_at hl 3 rfl) ?_
          refine lv_icmp_ne (tgt := 88) hx hb dM_byteOf_70 (by decide) (fun c_70 => ?_) (fun c_70 => ?_)
          · have c_70 := kmt (kx_eq (by omega)).mpr c_70
            refine lv_iload_n hx hb dM_byteOf_88 rfl (lv_at hl 0 rfl) ?_
            refine kv_top (show _ = nI (byN mu fi md sp sq j q) from (by rw [byN, if_neg (fun h9 => c_70 ((kx_eq (by omega)).mp h9))])) ?_
            exact hret _ _ _ _ hP hD hS dM_byteOf_89
          · have c_70 := (kx_eq (by omega)).mp c_70
            refine lv_iload_n hx hb dM_byteOf_73 rfl (lv_at hl 0 rfl) ?_
            refine lv_aload_n hx hb dM_byteOf_74 rfl (lv_at hl 1 rfl) ?_
            refine va_get (D := (dC, dI)) (ci := 1) (v := .ref m13) (C := RX1) (T := TX1) (N := 19) hx hb hts hin1 hown hK hP 0 rfl rfl 18 (by decide) lkf46 (fun _ h9 => h9) rfl dM_byteOf_75 ?_
            refine lv_iload_n hx hb dM_byteOf_78 rfl (lv_at hl 2 rfl) ?_
            refine ka_ialdN hx hb hK hP 13 0 rfl rfl (k := j) (by omega) (by decide) dM_byteOf_79 ?_
            refine lv_iadd hx hb dM_byteOf_80 ?_
            refine kv_top (show _ = nI ((pmN mu fi md j q) + (sq j)) from nI_add _ _) ?_
            refine lv_sipush (v := nI 255) hx hb dM_byteOf_81 (by decide) ?_
            refine lv_iand hx hb dM_byteOf_84 ?_
            refine kv_top (show _ = nI (lb (nI (pmN mu fi md j q + sq j))) from and255 _) ?_
            refine lv_goto (tgt := 89) hx hb dM_byteOf_85 (by decide) ?_
            refine kv_top (show _ = nI (byN mu fi md sp sq j q) from (by rw [byN, if_pos ((kx_eq (by omega)).mpr c_70)])) ?_
            exact hret _ _ _ _ hP hD hS dM_byteOf_89
        · have c_27 := kmt (nI_leI (by omega) (by omega)).mpr c_27
          refine lv_iload_n hx hb dM_byteOf_30 rfl (lv_at hl 2 rfl) ?_
          refine lv_bipush (v := nI 8) hx hb dM_byteOf_31 (by decide) ?_
          refine lv_icmp_ge (tgt := 56) hx hb dM_byteOf_33 (by decide) (fun c_33 => ?_) (fun c_33 => ?_)
          · have c_33 := (nI_leI (by omega) (by omega)).mp c_33
            refine lv_aload_n hx hb dM_byteOf_56 rfl (lv_at hl 0 rfl) ?_
            refine lv_iload_n hx hb dM_byteOf_57 rfl (lv_at hl 1 rfl) ?_
            refine lv_iload_n hx hb dM_byteOf_58 rfl (lv_at hl 2 rfl) ?_
            refine kc_vi (WR := []) (As := [.int (nI j), .int (nI q)]) (rest := []) ⟨hx, hb, hml, hown, hts⟩ (r_plain l dC dI g m1 m2 m3 m4 m5 m6 m7 m8 m9 m10 m11 m12 m13 ci mt tl rc kp ms mi ml mb mf mo my np md mu fi sp sq H.size j q (by omega) (by omega)) (cwV 2 hts gM_byteOf_M_plain rfl rfl rfl (by decide +kernel) ⟨Nat.le_of_ble_eq_true rfl, Nat.le_of_ble_eq_true rfl⟩) hK hP hD hS hA [0, 1, 2, 3, 4, 5, 6, 7, 8, 9, 10, 11, 12, 13] [] [0] rfl rfl (by decide) (by decide) (by decide) rfl 0 1 rfl rfl rfl rfl hl.1 rfl (Nat.le_of_ble_eq_true rfl) dM_byteOf_59 ⟨Nat.zero_le _, Nat.zero_le _⟩ (fun H locs hP hD hS => ?_)
            have hP : va_P (dC, dI) vwCl (wM g m1 m2 m3 m4 m5 m6 m7 m8 m9 m10 m11 m12 m13 ci mt tl rc kp ms mi ml mb mf mo my (np / 56) (np % 56) md mu fi sp sq) H := hP
            have hD : va_D A (wM g m1 m2 m3 m4 m5 m6 m7 m8 m9 m10 m11 m12 m13 ci mt tl rc kp ms mi ml mb mf mo my (np / 56) (np % 56) md mu fi sp sq) := hD
            refine kv_top (show _ = nI (pmN mu fi md j q) from (by rw [pmN, if_neg (by omega)])) ?_
            refine lv_istore_n (lv' := [(3, .int (nI (pmN mu fi md j q))), (0, .ref g), (1, .int (nI j)), (2, .int (nI q))]) hx hb dM_byteOf_62 rfl hl (by decide) rfl (fun ls hl => ?_)
            refine lv_aload_n hx hb dM_byteOf_63 rfl (lv_at hl 1 rfl) ?_
            refine va_get (D := (dC, dI)) (ci := 1) (v := .ref m12) (C := RX1) (T := TX1) (N := 19) hx hb hts hin1 hown hK hP 0 rfl rfl 17 (by decide) lkf43 (fun _ h9 => h9) rfl dM_byteOf_64 ?_
            refine lv_iload_n hx hb dM_byteOf_67 rfl (lv_at hl 2 rfl) ?_
            refine ka_iald hx hb hK hP 12 0 rfl rfl (k := j) (by omega) (by decide) dM_byteOf_68 ?_
            refine lv_iload_n hx hb dM_byteOf_69 rfl (lv_at hl 3 rfl) ?_
            refine lv_icmp_ne (tgt := 88) hx hb dM_byteOf_70 (by decide) (fun c_70 => ?_) (fun c_70 => ?_)
            · have c_70 := kmt (kx_eq (by omega)).mpr c_70
              refine lv_iload_n hx hb dM_byteOf_88 rfl (lv_at hl 0 rfl) ?_
              refine kv_top (show _ = nI (byN mu fi md sp sq j q) from (by rw [byN, if_neg (fun h9 => c_70 ((kx_eq (by omega)).mp h9))])) ?_
              exact hret _ _ _ _ hP hD hS dM_byteOf_89
            · have c_70 := (kx_eq (by omega)).mp c_70
              refine lv_iload_n hx hb dM_byteOf_73 rfl (lv_at hl 0 rfl) ?_
              refine lv_aload_n hx hb dM_byteOf_74 rfl (lv_at hl 1 rfl) ?_
              refine va_get (D := (dC, dI)) (ci := 1) (v := .ref m13) (C := RX1) (T := TX1) (N := 19) hx hb hts hin1 hown hK hP 0 rfl rfl 18 (by decide) lkf46 (fun _ h9 => h9) rfl dM_byteOf_75 ?_
              refine lv_iload_n hx hb dM_byteOf_78 rfl (lv_at hl 2 rfl) ?_
              refine ka_ialdN hx hb hK hP 13 0 rfl rfl (k := j) (by omega) (by decide) dM_byteOf_79 ?_
              refine lv_iadd hx hb dM_byteOf_80 ?_
              refine kv_top (show _ = nI ((pmN mu fi md j q) + (sq j)) from nI_add _ _) ?_
              refine lv_sipush (v := nI 255) hx hb dM_byteOf_81 (by decide) ?_
              refine lv_iand hx hb dM_byteOf_84 ?_
              refine kv_top (show _ = nI (lb (nI (pmN mu fi md j q + sq j))) from and255 _) ?_
              refine lv_goto (tgt := 89) hx hb dM_byteOf_85 (by decide) ?_
              refine kv_top (show _ = nI (byN mu fi md sp sq j q) from (by rw [byN, if_pos ((kx_eq (by omega)).mpr c_70)])) ?_
              exact hret _ _ _ _ hP hD hS dM_byteOf_89
          · have c_33 := kmt (nI_leI (by omega) (by omega)).mpr c_33
            refine lv_aload_n hx hb dM_byteOf_36 rfl (lv_at hl 0 rfl) ?_
            refine lv_iload_n hx hb dM_byteOf_37 rfl (lv_at hl 1 rfl) ?_
            refine kc_vi (WR := []) (As := [.int (nI j)]) (rest := []) ⟨hx, hb, hml, hown, hts⟩ (r_sum l dC dI g m1 m2 m3 m4 m5 m6 m7 m8 m9 m10 m11 m12 m13 ci mt tl rc kp ms mi ml mb mf mo my np md mu fi sp sq H.size j (by omega)) (cwV 1 hts gM_byteOf_M_sum rfl rfl rfl (by decide +kernel) ⟨Nat.le_of_ble_eq_true rfl, Nat.le_of_ble_eq_true rfl⟩) hK hP hD hS hA [0, 1, 2, 3, 4, 5, 6, 7, 8, 9, 10, 11, 12, 13] [] [0] rfl rfl (by decide) (by decide) (by decide) rfl 0 1 rfl rfl rfl rfl hl.1 rfl (Nat.le_of_ble_eq_true rfl) dM_byteOf_38 ⟨Nat.zero_le _, Nat.zero_le _⟩ (fun H locs hP hD hS => ?_)
            have hP : va_P (dC, dI) vwCl (wM g m1 m2 m3 m4 m5 m6 m7 m8 m9 m10 m11 m12 m13 ci mt tl rc kp ms mi ml mb mf mo my (np / 56) (np % 56) md mu fi sp sq) H := hP
            have hD : va_D A (wM g m1 m2 m3 m4 m5 m6 m7 m8 m9 m10 m11 m12 m13 ci mt tl rc kp ms mi ml mb mf mo my (np / 56) (np % 56) md mu fi sp sq) := hD
            refine lv_bipush (v := nI 8) hx hb dM_byteOf_41 (by decide) ?_
            refine lv_bipush (v := nI 7) hx hb dM_byteOf_43 (by decide) ?_
            refine lv_iload_n hx hb dM_byteOf_45 rfl (lv_at hl 2 rfl) ?_
            refine lv_isub hx hb dM_byteOf_46 ?_
            refine kv_top (show _ = nI (7 - q) from pk_sub (by omega)) ?_
            refine lv_imul hx hb dM_byteOf_47 ?_
            refine kv_top (show _ = nI (8 * (7 - q)) from pk_mul _ _) ?_
            refine lv_ishr hx hb dM_byteOf_48 ?_
            refine lv_sipush (v := nI 255) hx hb dM_byteOf_49 (by decide) ?_
            refine lv_iand hx hb dM_byteOf_52 ?_
            refine kv_top (show _ = nI (pmN mu fi md j q) from (by rw [pmN, if_pos (by omega), ← and255])) ?_
            refine lv_goto (tgt := 62) hx hb dM_byteOf_53 (by decide) ?_
            refine lv_istore_n (lv' := [(3, .int (nI (pmN mu fi md j q))), (0, .ref g), (1, .int (nI j)), (2, .int (nI q))]) hx hb dM_byteOf_62 rfl hl (by decide) rfl (fun ls hl => ?_)
            refine lv_aload_n hx hb dM_byteOf_63 rfl (lv_at hl 1 rfl) ?_
            refine va_get (D := (dC, dI)) (ci := 1) (v := .ref m12) (C := RX1) (T := TX1) (N := 19) hx hb hts hin1 hown hK hP 0 rfl rfl 17 (by decide) lkf43 (fun _ h9 => h9) rfl dM_byteOf_64 ?_
            refine lv_iload_n hx hb dM_byteOf_67 rfl (lv_at hl 2 rfl) ?_
            refine ka_iald hx hb hK hP 12 0 rfl rfl (k := j) (by omega) (by decide) dM_byteOf_68 ?_
            refine lv_iload_n hx hb dM_byteOf_69 rfl (lv_at hl 3 rfl) ?_
            refine lv_icmp_ne (tgt := 88) hx hb dM_byteOf_70 (by decide) (fun c_70 => ?_) (fun c_70 => ?_)
            · have c_70 := kmt (kx_eq (by omega)).mpr c_70
              refine lv_iload_n hx hb dM_byteOf_88 rfl (lv_at hl 0 rfl) ?_
              refine kv_top (show _ = nI (byN mu fi md sp sq j q) from (by rw [byN, if_neg (fun h9 => c_70 ((kx_eq (by omega)).mp h9))])) ?_
              exact hret _ _ _ _ hP hD hS dM_byteOf_89
            · have c_70 := (kx_eq (by omega)).mp c_70
              refine lv_iload_n hx hb dM_byteOf_73 rfl (lv_at hl 0 rfl) ?_
              refine lv_aload_n hx hb dM_byteOf_74 rfl (lv_at hl 1 rfl) ?_
              refine va_get (D := (dC, dI)) (ci := 1) (v := .ref m13) (C := RX1) (T := TX1) (N := 19) hx hb hts hin1 hown hK hP 0 rfl rfl 18 (by decide) lkf46 (fun _ h9 => h9) rfl dM_byteOf_75 ?_
              refine lv_iload_n hx hb dM_byteOf_78 rfl (lv_at hl 2 rfl) ?_
              refine ka_ialdN hx hb hK hP 13 0 rfl rfl (k := j) (by omega) (by decide) dM_byteOf_79 ?_
              refine lv_iadd hx hb dM_byteOf_80 ?_
              refine kv_top (show _ = nI ((pmN mu fi md j q) + (sq j)) from nI_add _ _) ?_
              refine lv_sipush (v := nI 255) hx hb dM_byteOf_81 (by decide) ?_
              refine lv_iand hx hb dM_byteOf_84 ?_
              refine kv_top (show _ = nI (lb (nI (pmN mu fi md j q + sq j))) from and255 _) ?_
              refine lv_goto (tgt := 89) hx hb dM_byteOf_85 (by decide) ?_
              refine kv_top (show _ = nI (byN mu fi md sp sq j q) from (by rw [byN, if_pos ((kx_eq (by omega)).mpr c_70)])) ?_
              exact hret _ _ _ _ hP hD hS dM_byteOf_89
      · have c_20 := kmt (kx_le (by omega)).mpr c_20
        refine lv_iconst (v := (-1)) hx hb dM_byteOf_23 (by decide) ?_
        refine kv_top (show _ = byM np mu fi md sp sq x i from (byM_f (Or.inr (by simp [inB]; omega))).symm) ?_
        exact hret _ _ _ _ hP hD hS dM_byteOf_24
set_option maxHeartbeats 4000000 in
set_option maxRecDepth 100000 in
theorem r_spoil (l : Launch) (dC : Nat → ClassId) (dI : Nat → Nat → Nat) (g m1 m2 m3 m4 m5 m6 m7 m8 m9 m10 m11 m12 m13 : Nat) (ci : ClassId) (mt : Nat → Nat) (tl rc kp : Nat) (ms mi ml mb mf mo my : Nat → Nat) (np : Nat) (md mu fi : Nat → Nat) (sp : Nat → Int32) (sq : Nat → Nat) (sz : Nat) (b : Nat) (q : Nat) (v : Nat) (hnp : np ≤ 4480) (hb80 : b < np / 56) (hq : q < 64) (hv : 1 ≤ v ∧ v ≤ 255) (hs0 : (sp b).toInt < 0) : Met l yM_spoil wsM_spoil ({ frames := 1, cells := 0, slots := 0, locals := 21 }) (kPre (dC, dI) vwCl (wM g m1 m2 m3 m4 m5 m6 m7 m8 m9 m10 m11 m12 m13 ci mt tl rc kp ms mi ml mb mf mo my (np / 56) (np % 56) md mu fi sp sq) (tM ci) sz [.ref g, .int (nI b), .int (nI q), .int (nI v)]) (kQi (dC, dI) vwCl (wM g m1 m2 m3 m4 m5 m6 m7 m8 m9 m10 m11 m12 m13 ci mt tl rc kp ms mi ml mb mf mo my (np / 56) (np % 56) md mu fi sp sq) (tM ci) sz (nI 1) (wM g m1 m2 m3 m4 m5 m6 m7 m8 m9 m10 m11 m12 m13 ci mt tl rc kp ms mi ml mb mf mo my (np / 56) (np % 56) md mu fi (upd sp b (nI q)) (updN sq b v))) 0 0 (va_A (wM g m1 m2 m3 m4 m5 m6 m7 m8 m9 m10 m11 m12 m13 ci mt tl rc kp ms mi ml mb mf mo my (np / 56) (np % 56) md mu fi sp sq) sz) := by
  refine kM_z (cc := cM_spoil) (maxL := 4) (by decide) rfl (Nat.le_of_ble_eq_true rfl) (rfl) ?_
  intro p e s m below meth c A Q ls H locs S hP hK hD hS hA hl hret
  obtain ⟨hx, hb, hml, hown, hts⟩ := id S
  have hin1 : ∀ w ∈ u_ws RX1 TX1 19, w ∈ wsM_spoil := fun _ h => List.mem_cons_of_mem _ (List.mem_append_right _ h)
  have lkf49 := hts (.fieldLink RX1 49 "BlockTapeModel" "thrown" "I") (by decide +kernel)
  have lkf43 := hts (.fieldLink RX1 43 "BlockTapeModel" "spoilt" "[I") (by decide +kernel)
  have lkf46 := hts (.fieldLink RX1 46 "BlockTapeModel" "spoiltBy" "[I") (by decide +kernel)
  have hl : lv_has ls 4 [(0, .ref g), (1, .int (nI b)), (2, .int (nI q)), (3, .int (nI v))] := hl
  refine lv_aload_n hx hb dM_spoil_0 rfl (lv_at hl 0 rfl) ?_
  refine lv_iconst (v := nI 0) hx hb dM_spoil_1 (by decide) ?_
  refine va_put (D := (dC, dI)) (ci := 1) (v := .int (nI 0)) (ty := .int) (C := RX1) (T := TX1) (N := 19) hx hb hts hin1 tyX1 tyX1_ok nmX1 hown hK hP hD hS 0 rfl rfl 0 (by decide) lkf49 (fun _ h9 => h9) rfl (by decide +kernel) rfl rfl (Nat.le_of_ble_eq_true rfl) dM_spoil_2 (fun H locs hP hD hS => ?_)
  have hP : va_P (dC, dI) vwCl (wM g m1 m2 m3 m4 m5 m6 m7 m8 m9 m10 m11 m12 m13 ci mt tl rc kp ms mi ml mb mf mo my (np / 56) (np % 56) md mu fi sp sq) H := hP
  have hD : va_D A (wM g m1 m2 m3 m4 m5 m6 m7 m8 m9 m10 m11 m12 m13 ci mt tl rc kp ms mi ml mb mf mo my (np / 56) (np % 56) md mu fi sp sq) := hD
  refine lv_aload_n hx hb dM_spoil_5 rfl (lv_at hl 0 rfl) ?_
  refine lv_iload_n hx hb dM_spoil_6 rfl (lv_at hl 1 rfl) ?_
  refine kc_vi (WR := []) (As := [.int (nI b)]) (rest := []) ⟨hx, hb, hml, hown, hts⟩ (r_isWritten l dC dI g m1 m2 m3 m4 m5 m6 m7 m8 m9 m10 m11 m12 m13 ci mt tl rc kp ms mi ml mb mf mo my np md mu fi sp sq H.size (nI b) (by omega)) (cwV 1 hts gM_spoil_M_isWritten rfl rfl rfl (by decide +kernel) ⟨Nat.le_of_ble_eq_true rfl, Nat.le_of_ble_eq_true rfl⟩) hK hP hD hS hA [0, 1, 2, 3, 4, 5, 6, 7, 8, 9, 10, 11, 12, 13] [] [0] rfl rfl (by decide) (by decide) (by decide) rfl 0 1 rfl rfl rfl rfl hl.1 rfl (Nat.le_of_ble_eq_true rfl) dM_spoil_7 ⟨Nat.zero_le _, Nat.zero_le _⟩ (fun H locs hP hD hS => ?_)
  have hP : va_P (dC, dI) vwCl (wM g m1 m2 m3 m4 m5 m6 m7 m8 m9 m10 m11 m12 m13 ci mt tl rc kp ms mi ml mb mf mo my (np / 56) (np % 56) md mu fi sp sq) H := hP
  have hD : va_D A (wM g m1 m2 m3 m4 m5 m6 m7 m8 m9 m10 m11 m12 m13 ci mt tl rc kp ms mi ml mb mf mo my (np / 56) (np % 56) md mu fi sp sq) := hD
  refine lv_if_eq (tgt := 44) hx hb dM_spoil_10 (by decide) (fun c_10 => ?_) (fun c_10 => ?_)
  · have c_10 := (bI_e _).mp c_10
    exact absurd c_10 (by rw [isW_n (by omega)]; simp; omega)
  · have c_10 := kmt (bI_e _).mpr c_10
    refine lv_iload_n hx hb dM_spoil_13 rfl (lv_at hl 2 rfl) ?_
    refine lv_if_lt (tgt := 44) hx hb dM_spoil_14 (by decide) (fun c_14 => ?_) (fun c_14 => ?_)
    · have c_14 := (kn_lt0 (by omega)).mp c_14
      exfalso; omega
    · have c_14 := kmt (kn_lt0 (by omega)).mpr c_14
      refine lv_iload_n hx hb dM_spoil_17 rfl (lv_at hl 2 rfl) ?_
      refine lv_bipush (v := nI 63) hx hb dM_spoil_18 (by decide) ?_
      refine lv_icmp_gt (tgt := 44) hx hb dM_spoil_20 (by decide) (fun c_20 => ?_) (fun c_20 => ?_)
      · have c_20 := (nI_ltI (by omega) (by omega)).mp c_20
        exfalso; omega
      · have c_20 := kmt (nI_ltI (by omega) (by omega)).mpr c_20
        refine lv_iload_n hx hb dM_spoil_23 rfl (lv_at hl 3 rfl) ?_
        refine lv_iconst (v := nI 1) hx hb dM_spoil_24 (by decide) ?_
        refine lv_icmp_lt (tgt := 44) hx hb dM_spoil_25 (by decide) (fun c_25 => ?_) (fun c_25 => ?_)
        · have c_25 := (nI_ltI (by omega) (by omega)).mp c_25
          exfalso; omega
        · have c_25 := kmt (nI_ltI (by omega) (by omega)).mpr c_25
          refine lv_iload_n hx hb dM_spoil_28 rfl (lv_at hl 3 rfl) ?_
          refine lv_sipush (v := nI 255) hx hb dM_spoil_29 (by decide) ?_
          refine lv_icmp_gt (tgt := 44) hx hb dM_spoil_32 (by decide) (fun c_32 => ?_) (fun c_32 => ?_)
          · have c_32 := (nI_ltI (by omega) (by omega)).mp c_32
            exfalso; omega
          · have c_32 := kmt (nI_ltI (by omega) (by omega)).mpr c_32
            refine lv_aload_n hx hb dM_spoil_35 rfl (lv_at hl 0 rfl) ?_
            refine va_get (D := (dC, dI)) (ci := 1) (v := .ref m12) (C := RX1) (T := TX1) (N := 19) hx hb hts hin1 hown hK hP 0 rfl rfl 17 (by decide) lkf43 (fun _ h9 => h9) rfl dM_spoil_36 ?_
            refine lv_iload_n hx hb dM_spoil_39 rfl (lv_at hl 1 rfl) ?_
            refine ka_iald hx hb hK hP 12 0 rfl rfl (k := b) (by omega) (by decide) dM_spoil_40 ?_
            refine lv_if_lt (tgt := 46) hx hb dM_spoil_41 (by decide) (fun c_41 => ?_) (fun c_41 => ?_)
            · have c_41 := (kx_lt0).mp c_41
              refine lv_aload_n hx hb dM_spoil_46 rfl (lv_at hl 0 rfl) ?_
              refine va_get (D := (dC, dI)) (ci := 1) (v := .ref m12) (C := RX1) (T := TX1) (N := 19) hx hb hts hin1 hown hK hP 0 rfl rfl 17 (by decide) lkf43 (fun _ h9 => h9) rfl dM_spoil_47 ?_
              refine lv_iload_n hx hb dM_spoil_50 rfl (lv_at hl 1 rfl) ?_
              refine lv_iload_n hx hb dM_spoil_51 rfl (lv_at hl 2 rfl) ?_
              refine ka_iast hx hb hK hP hD hS 12 0 rfl rfl (k := b) (x := nI q) (by omega) (by decide) dM_spoil_52 (fun H locs hP hD hS => ?_)
              have hP : va_P (dC, dI) vwCl (wM g m1 m2 m3 m4 m5 m6 m7 m8 m9 m10 m11 m12 m13 ci mt tl rc kp ms mi ml mb mf mo my (np / 56) (np % 56) md mu fi (upd sp b (nI q)) sq) H := hP
              have hD : va_D A (wM g m1 m2 m3 m4 m5 m6 m7 m8 m9 m10 m11 m12 m13 ci mt tl rc kp ms mi ml mb mf mo my (np / 56) (np % 56) md mu fi (upd sp b (nI q)) sq) := hD
              refine lv_aload_n hx hb dM_spoil_53 rfl (lv_at hl 0 rfl) ?_
              refine va_get (D := (dC, dI)) (ci := 1) (v := .ref m13) (C := RX1) (T := TX1) (N := 19) hx hb hts hin1 hown hK hP 0 rfl rfl 18 (by decide) lkf46 (fun _ h9 => h9) rfl dM_spoil_54 ?_
              refine lv_iload_n hx hb dM_spoil_57 rfl (lv_at hl 1 rfl) ?_
              refine lv_iload_n hx hb dM_spoil_58 rfl (lv_at hl 3 rfl) ?_
              refine ka_iastN hx hb hK hP hD hS 13 0 rfl rfl (k := b) (x := v) (by omega) (by decide) dM_spoil_59 (fun H locs hP hD hS => ?_)
              have hP : va_P (dC, dI) vwCl (wM g m1 m2 m3 m4 m5 m6 m7 m8 m9 m10 m11 m12 m13 ci mt tl rc kp ms mi ml mb mf mo my (np / 56) (np % 56) md mu fi (upd sp b (nI q)) (updN sq b v)) H := hP
              have hD : va_D A (wM g m1 m2 m3 m4 m5 m6 m7 m8 m9 m10 m11 m12 m13 ci mt tl rc kp ms mi ml mb mf mo my (np / 56) (np % 56) md mu fi (upd sp b (nI q)) (updN sq b v)) := hD
              refine lv_iconst (v := nI 1) hx hb dM_spoil_60 (by decide) ?_
              exact hret _ _ _ _ hP hD hS dM_spoil_61
            · have c_41 := kmt (kx_lt0).mpr c_41
              exfalso; omega
set_option maxHeartbeats 4000000 in
set_option maxRecDepth 100000 in
theorem r_spoilN (l : Launch) (dC : Nat → ClassId) (dI : Nat → Nat → Nat) (g m1 m2 m3 m4 m5 m6 m7 m8 m9 m10 m11 m12 m13 : Nat) (ci : ClassId) (mt : Nat → Nat) (tl rc kp : Nat) (ms mi ml mb mf mo my : Nat → Nat) (np : Nat) (md mu fi : Nat → Nat) (sp : Nat → Int32) (sq : Nat → Nat) (sz : Nat) (x : Int32) (q : Int32) (v : Int32) (hnp : np ≤ 4480) (hno : isW np x = true → inB q = true → 1 ≤ v.toInt → v.toInt ≤ 255 → ¬ (sp x.toInt.toNat).toInt < 0) : Met l yM_spoil wsM_spoil ({ frames := 1, cells := 0, slots := 0, locals := 21 }) (kPre (dC, dI) vwCl (wM g m1 m2 m3 m4 m5 m6 m7 m8 m9 m10 m11 m12 m13 ci mt tl rc kp ms mi ml mb mf mo my (np / 56) (np % 56) md mu fi sp sq) (tM ci) sz [.ref g, .int x, .int q, .int v]) (kQi (dC, dI) vwCl (wM g m1 m2 m3 m4 m5 m6 m7 m8 m9 m10 m11 m12 m13 ci mt tl rc kp ms mi ml mb mf mo my (np / 56) (np % 56) md mu fi sp sq) (tM ci) sz (nI 0) (wM g m1 m2 m3 m4 m5 m6 m7 m8 m9 m10 m11 m12 m13 ci mt tl rc kp ms mi ml mb mf mo my (np / 56) (np % 56) md mu fi sp sq)) 0 0 (va_A (wM g m1 m2 m3 m4 m5 m6 m7 m8 m9 m10 m11 m12 m13 ci mt tl rc kp ms mi ml mb mf mo my (np / 56) (np % 56) md mu fi sp sq) sz) := by
  refine kM_z (cc := cM_spoil) (maxL := 4) (by decide) rfl (Nat.le_of_ble_eq_true rfl) (rfl) ?_
  intro p e s m below meth c A Q ls H locs S hP hK hD hS hA hl hret
  obtain ⟨hx, hb, hml, hown, hts⟩ := id S
  have hin1 : ∀ w ∈ u_ws RX1 TX1 19, w ∈ wsM_spoil := fun _ h => List.mem_cons_of_mem _ (List.mem_append_right _ h)
  have lkf49 := hts (.fieldLink RX1 49 "BlockTapeModel" "thrown" "I") (by decide +kernel)
  have lkf43 := hts (.fieldLink RX1 43 "BlockTapeModel" "spoilt" "[I") (by decide +kernel)
  have hl : lv_has ls 4 [(0, .ref g), (1, .int x), (2, .int q), (3, .int v)] := hl
  refine lv_aload_n hx hb dM_spoil_0 rfl (lv_at hl 0 rfl) ?_
  refine lv_iconst (v := nI 0) hx hb dM_spoil_1 (by decide) ?_
  refine va_put (D := (dC, dI)) (ci := 1) (v := .int (nI 0)) (ty := .int) (C := RX1) (T := TX1) (N := 19) hx hb hts hin1 tyX1 tyX1_ok nmX1 hown hK hP hD hS 0 rfl rfl 0 (by decide) lkf49 (fun _ h9 => h9) rfl (by decide +kernel) rfl rfl (Nat.le_of_ble_eq_true rfl) dM_spoil_2 (fun H locs hP hD hS => ?_)
  have hP : va_P (dC, dI) vwCl (wM g m1 m2 m3 m4 m5 m6 m7 m8 m9 m10 m11 m12 m13 ci mt tl rc kp ms mi ml mb mf mo my (np / 56) (np % 56) md mu fi sp sq) H := hP
  have hD : va_D A (wM g m1 m2 m3 m4 m5 m6 m7 m8 m9 m10 m11 m12 m13 ci mt tl rc kp ms mi ml mb mf mo my (np / 56) (np % 56) md mu fi sp sq) := hD
  refine lv_aload_n hx hb dM_spoil_5 rfl (lv_at hl 0 rfl) ?_
  refine lv_iload_n hx hb dM_spoil_6 rfl (lv_at hl 1 rfl) ?_
  refine kc_vi (WR := []) (As := [.int x]) (rest := []) ⟨hx, hb, hml, hown, hts⟩ (r_isWritten l dC dI g m1 m2 m3 m4 m5 m6 m7 m8 m9 m10 m11 m12 m13 ci mt tl rc kp ms mi ml mb mf mo my np md mu fi sp sq H.size x (by omega)) (cwV 1 hts gM_spoil_M_isWritten rfl rfl rfl (by decide +kernel) ⟨Nat.le_of_ble_eq_true rfl, Nat.le_of_ble_eq_true rfl⟩) hK hP hD hS hA [0, 1, 2, 3, 4, 5, 6, 7, 8, 9, 10, 11, 12, 13] [] [0] rfl rfl (by decide) (by decide) (by decide) rfl 0 1 rfl rfl rfl rfl hl.1 rfl (Nat.le_of_ble_eq_true rfl) dM_spoil_7 ⟨Nat.zero_le _, Nat.zero_le _⟩ (fun H locs hP hD hS => ?_)
  have hP : va_P (dC, dI) vwCl (wM g m1 m2 m3 m4 m5 m6 m7 m8 m9 m10 m11 m12 m13 ci mt tl rc kp ms mi ml mb mf mo my (np / 56) (np % 56) md mu fi sp sq) H := hP
  have hD : va_D A (wM g m1 m2 m3 m4 m5 m6 m7 m8 m9 m10 m11 m12 m13 ci mt tl rc kp ms mi ml mb mf mo my (np / 56) (np % 56) md mu fi sp sq) := hD
  refine lv_if_eq (tgt := 44) hx hb dM_spoil_10 (by decide) (fun c_10 => ?_) (fun c_10 => ?_)
  · have c_10 := (bI_e _).mp c_10
    refine lv_iconst (v := nI 0) hx hb dM_spoil_44 (by decide) ?_
    exact hret _ _ _ _ hP hD hS dM_spoil_45
  · have c_10 := kmt (bI_e _).mpr c_10
    have c_10 := bT c_10
    obtain ⟨j, hj, rfl⟩ := isW_of c_10
    refine lv_iload_n hx hb dM_spoil_13 rfl (lv_at hl 2 rfl) ?_
    refine lv_if_lt (tgt := 44) hx hb dM_spoil_14 (by decide) (fun c_14 => ?_) (fun c_14 => ?_)
    · have c_14 := (kx_lt0).mp c_14
      refine lv_iconst (v := nI 0) hx hb dM_spoil_44 (by decide) ?_
      exact hret _ _ _ _ hP hD hS dM_spoil_45
    · have c_14 := kmt (kx_lt0).mpr c_14
      refine lv_iload_n hx hb dM_spoil_17 rfl (lv_at hl 2 rfl) ?_
      refine lv_bipush (v := nI 63) hx hb dM_spoil_18 (by decide) ?_
      refine lv_icmp_gt (tgt := 44) hx hb dM_spoil_20 (by decide) (fun c_20 => ?_) (fun c_20 => ?_)
      · have c_20 := (kx_gt (by omega)).mp c_20
        refine lv_iconst (v := nI 0) hx hb dM_spoil_44 (by decide) ?_
        exact hret _ _ _ _ hP hD hS dM_spoil_45
      · have c_20 := kmt (kx_gt (by omega)).mpr c_20
        refine lv_iload_n hx hb dM_spoil_23 rfl (lv_at hl 3 rfl) ?_
        refine lv_iconst (v := nI 1) hx hb dM_spoil_24 (by decide) ?_
        refine lv_icmp_lt (tgt := 44) hx hb dM_spoil_25 (by decide) (fun c_25 => ?_) (fun c_25 => ?_)
        · have c_25 := (kx_lt (by omega)).mp c_25
          refine lv_iconst (v := nI 0) hx hb dM_spoil_44 (by decide) ?_
          exact hret _ _ _ _ hP hD hS dM_spoil_45
        · have c_25 := kmt (kx_lt (by omega)).mpr c_25
          refine lv_iload_n hx hb dM_spoil_28 rfl (lv_at hl 3 rfl) ?_
          refine lv_sipush (v := nI 255) hx hb dM_spoil_29 (by decide) ?_
          refine lv_icmp_gt (tgt := 44) hx hb dM_spoil_32 (by decide) (fun c_32 => ?_) (fun c_32 => ?_)
          · have c_32 := (kx_gt (by omega)).mp c_32
            refine lv_iconst (v := nI 0) hx hb dM_spoil_44 (by decide) ?_
            exact hret _ _ _ _ hP hD hS dM_spoil_45
          · have c_32 := kmt (kx_gt (by omega)).mpr c_32
            refine lv_aload_n hx hb dM_spoil_35 rfl (lv_at hl 0 rfl) ?_
            refine va_get (D := (dC, dI)) (ci := 1) (v := .ref m12) (C := RX1) (T := TX1) (N := 19) hx hb hts hin1 hown hK hP 0 rfl rfl 17 (by decide) lkf43 (fun _ h9 => h9) rfl dM_spoil_36 ?_
            refine lv_iload_n hx hb dM_spoil_39 rfl (lv_at hl 1 rfl) ?_
            refine ka_iald hx hb hK hP 12 0 rfl rfl (k := j) (by omega) (by decide) dM_spoil_40 ?_
            refine lv_if_lt (tgt := 46) hx hb dM_spoil_41 (by decide) (fun c_41 => ?_) (fun c_41 => ?_)
            · have c_41 := (kx_lt0).mp c_41
              exact absurd (by rw [nI_tn (by omega)]; exact c_41) (hno c_10 (by simp [inB]; omega) (by omega) (by omega))
            · have c_41 := kmt (kx_lt0).mpr c_41
              refine lv_iconst (v := nI 0) hx hb dM_spoil_44 (by decide) ?_
              exact hret _ _ _ _ hP hD hS dM_spoil_45
set_option maxHeartbeats 4000000 in
set_option maxRecDepth 100000 in
theorem r_heal (l : Launch) (dC : Nat → ClassId) (dI : Nat → Nat → Nat) (g m1 m2 m3 m4 m5 m6 m7 m8 m9 m10 m11 m12 m13 : Nat) (ci : ClassId) (mt : Nat → Nat) (tl rc kp : Nat) (ms mi ml mb mf mo my : Nat → Nat) (np : Nat) (md mu fi : Nat → Nat) (sp : Nat → Int32) (sq : Nat → Nat) (sz : Nat) (b : Nat) (hnp : np ≤ 4480) (hb80 : b < np / 56) (hs0 : ¬ (sp b).toInt < 0) : Met l yM_heal wsM_heal ({ frames := 1, cells := 0, slots := 0, locals := 21 }) (kPre (dC, dI) vwCl (wM g m1 m2 m3 m4 m5 m6 m7 m8 m9 m10 m11 m12 m13 ci mt tl rc kp ms mi ml mb mf mo my (np / 56) (np % 56) md mu fi sp sq) (tM ci) sz [.ref g, .int (nI b)]) (kQi (dC, dI) vwCl (wM g m1 m2 m3 m4 m5 m6 m7 m8 m9 m10 m11 m12 m13 ci mt tl rc kp ms mi ml mb mf mo my (np / 56) (np % 56) md mu fi sp sq) (tM ci) sz (nI 1) (wM g m1 m2 m3 m4 m5 m6 m7 m8 m9 m10 m11 m12 m13 ci mt tl rc kp ms mi ml mb mf mo my (np / 56) (np % 56) md mu fi (upd sp b (-1)) sq)) 0 0 (va_A (wM g m1 m2 m3 m4 m5 m6 m7 m8 m9 m10 m11 m12 m13 ci mt tl rc kp ms mi ml mb mf mo my (np / 56) (np % 56) md mu fi sp sq) sz) := by
  refine kM_z (cc := cM_heal) (maxL := 2) (by decide) rfl (Nat.le_of_ble_eq_true rfl) (rfl) ?_
  intro p e s m below meth c A Q ls H locs S hP hK hD hS hA hl hret
  obtain ⟨hx, hb, hml, hown, hts⟩ := id S
  have hin1 : ∀ w ∈ u_ws RX1 TX1 19, w ∈ wsM_heal := fun _ h => List.mem_cons_of_mem _ (List.mem_append_right _ h)
  have lkf49 := hts (.fieldLink RX1 49 "BlockTapeModel" "thrown" "I") (by decide +kernel)
  have lkf43 := hts (.fieldLink RX1 43 "BlockTapeModel" "spoilt" "[I") (by decide +kernel)
  have hl : lv_has ls 2 [(0, .ref g), (1, .int (nI b))] := hl
  refine lv_aload_n hx hb dM_heal_0 rfl (lv_at hl 0 rfl) ?_
  refine lv_iconst (v := nI 0) hx hb dM_heal_1 (by decide) ?_
  refine va_put (D := (dC, dI)) (ci := 1) (v := .int (nI 0)) (ty := .int) (C := RX1) (T := TX1) (N := 19) hx hb hts hin1 tyX1 tyX1_ok nmX1 hown hK hP hD hS 0 rfl rfl 0 (by decide) lkf49 (fun _ h9 => h9) rfl (by decide +kernel) rfl rfl (Nat.le_of_ble_eq_true rfl) dM_heal_2 (fun H locs hP hD hS => ?_)
  have hP : va_P (dC, dI) vwCl (wM g m1 m2 m3 m4 m5 m6 m7 m8 m9 m10 m11 m12 m13 ci mt tl rc kp ms mi ml mb mf mo my (np / 56) (np % 56) md mu fi sp sq) H := hP
  have hD : va_D A (wM g m1 m2 m3 m4 m5 m6 m7 m8 m9 m10 m11 m12 m13 ci mt tl rc kp ms mi ml mb mf mo my (np / 56) (np % 56) md mu fi sp sq) := hD
  refine lv_aload_n hx hb dM_heal_5 rfl (lv_at hl 0 rfl) ?_
  refine lv_iload_n hx hb dM_heal_6 rfl (lv_at hl 1 rfl) ?_
  refine kc_vi (WR := []) (As := [.int (nI b)]) (rest := []) ⟨hx, hb, hml, hown, hts⟩ (r_isWritten l dC dI g m1 m2 m3 m4 m5 m6 m7 m8 m9 m10 m11 m12 m13 ci mt tl rc kp ms mi ml mb mf mo my np md mu fi sp sq H.size (nI b) (by omega)) (cwV 1 hts gM_heal_M_isWritten rfl rfl rfl (by decide +kernel) ⟨Nat.le_of_ble_eq_true rfl, Nat.le_of_ble_eq_true rfl⟩) hK hP hD hS hA [0, 1, 2, 3, 4, 5, 6, 7, 8, 9, 10, 11, 12, 13] [] [0] rfl rfl (by decide) (by decide) (by decide) rfl 0 1 rfl rfl rfl rfl hl.1 rfl (Nat.le_of_ble_eq_true rfl) dM_heal_7 ⟨Nat.zero_le _, Nat.zero_le _⟩ (fun H locs hP hD hS => ?_)
  have hP : va_P (dC, dI) vwCl (wM g m1 m2 m3 m4 m5 m6 m7 m8 m9 m10 m11 m12 m13 ci mt tl rc kp ms mi ml mb mf mo my (np / 56) (np % 56) md mu fi sp sq) H := hP
  have hD : va_D A (wM g m1 m2 m3 m4 m5 m6 m7 m8 m9 m10 m11 m12 m13 ci mt tl rc kp ms mi ml mb mf mo my (np / 56) (np % 56) md mu fi sp sq) := hD
  refine lv_if_eq (tgt := 22) hx hb dM_heal_10 (by decide) (fun c_10 => ?_) (fun c_10 => ?_)
  · have c_10 := (bI_e _).mp c_10
    exact absurd c_10 (by rw [isW_n (by omega)]; simp; omega)
  · have c_10 := kmt (bI_e _).mpr c_10
    refine lv_aload_n hx hb dM_heal_13 rfl (lv_at hl 0 rfl) ?_
    refine va_get (D := (dC, dI)) (ci := 1) (v := .ref m12) (C := RX1) (T := TX1) (N := 19) hx hb hts hin1 hown hK hP 0 rfl rfl 17 (by decide) lkf43 (fun _ h9 => h9) rfl dM_heal_14 ?_
    refine lv_iload_n hx hb dM_heal_17 rfl (lv_at hl 1 rfl) ?_
    refine ka_iald hx hb hK hP 12 0 rfl rfl (k := b) (by omega) (by decide) dM_heal_18 ?_
    refine lv_if_ge (tgt := 24) hx hb dM_heal_19 (by decide) (fun c_19 => ?_) (fun c_19 => ?_)
    · have c_19 := (kx_ge0).mp c_19
      refine lv_aload_n hx hb dM_heal_24 rfl (lv_at hl 0 rfl) ?_
      refine va_get (D := (dC, dI)) (ci := 1) (v := .ref m12) (C := RX1) (T := TX1) (N := 19) hx hb hts hin1 hown hK hP 0 rfl rfl 17 (by decide) lkf43 (fun _ h9 => h9) rfl dM_heal_25 ?_
      refine lv_iload_n hx hb dM_heal_28 rfl (lv_at hl 1 rfl) ?_
      refine lv_iconst (v := (-1)) hx hb dM_heal_29 (by decide) ?_
      refine ka_iast hx hb hK hP hD hS 12 0 rfl rfl (k := b) (x := (-1)) (by omega) (by decide) dM_heal_30 (fun H locs hP hD hS => ?_)
      have hP : va_P (dC, dI) vwCl (wM g m1 m2 m3 m4 m5 m6 m7 m8 m9 m10 m11 m12 m13 ci mt tl rc kp ms mi ml mb mf mo my (np / 56) (np % 56) md mu fi (upd sp b ((-1))) sq) H := hP
      have hD : va_D A (wM g m1 m2 m3 m4 m5 m6 m7 m8 m9 m10 m11 m12 m13 ci mt tl rc kp ms mi ml mb mf mo my (np / 56) (np % 56) md mu fi (upd sp b ((-1))) sq) := hD
      refine lv_iconst (v := nI 1) hx hb dM_heal_31 (by decide) ?_
      have hP : va_P (dC, dI) vwCl (wM g m1 m2 m3 m4 m5 m6 m7 m8 m9 m10 m11 m12 m13 ci mt tl rc kp ms mi ml mb mf mo my (np / 56) (np % 56) md mu fi (upd sp b (-1)) sq) H := hP
      have hD : va_D A (wM g m1 m2 m3 m4 m5 m6 m7 m8 m9 m10 m11 m12 m13 ci mt tl rc kp ms mi ml mb mf mo my (np / 56) (np % 56) md mu fi (upd sp b (-1)) sq) := hD
      exact hret _ _ _ _ hP hD hS dM_heal_32
    · have c_19 := kmt (kx_ge0).mpr c_19
      exfalso; omega
set_option maxHeartbeats 4000000 in
set_option maxRecDepth 100000 in
theorem r_healN (l : Launch) (dC : Nat → ClassId) (dI : Nat → Nat → Nat) (g m1 m2 m3 m4 m5 m6 m7 m8 m9 m10 m11 m12 m13 : Nat) (ci : ClassId) (mt : Nat → Nat) (tl rc kp : Nat) (ms mi ml mb mf mo my : Nat → Nat) (np : Nat) (md mu fi : Nat → Nat) (sp : Nat → Int32) (sq : Nat → Nat) (sz : Nat) (x : Int32) (hnp : np ≤ 4480) (hno : isW np x = true → (sp x.toInt.toNat).toInt < 0) : Met l yM_heal wsM_heal ({ frames := 1, cells := 0, slots := 0, locals := 21 }) (kPre (dC, dI) vwCl (wM g m1 m2 m3 m4 m5 m6 m7 m8 m9 m10 m11 m12 m13 ci mt tl rc kp ms mi ml mb mf mo my (np / 56) (np % 56) md mu fi sp sq) (tM ci) sz [.ref g, .int x]) (kQi (dC, dI) vwCl (wM g m1 m2 m3 m4 m5 m6 m7 m8 m9 m10 m11 m12 m13 ci mt tl rc kp ms mi ml mb mf mo my (np / 56) (np % 56) md mu fi sp sq) (tM ci) sz (nI 0) (wM g m1 m2 m3 m4 m5 m6 m7 m8 m9 m10 m11 m12 m13 ci mt tl rc kp ms mi ml mb mf mo my (np / 56) (np % 56) md mu fi sp sq)) 0 0 (va_A (wM g m1 m2 m3 m4 m5 m6 m7 m8 m9 m10 m11 m12 m13 ci mt tl rc kp ms mi ml mb mf mo my (np / 56) (np % 56) md mu fi sp sq) sz) := by
  refine kM_z (cc := cM_heal) (maxL := 2) (by decide) rfl (Nat.le_of_ble_eq_true rfl) (rfl) ?_
  intro p e s m below meth c A Q ls H locs S hP hK hD hS hA hl hret
  obtain ⟨hx, hb, hml, hown, hts⟩ := id S
  have hin1 : ∀ w ∈ u_ws RX1 TX1 19, w ∈ wsM_heal := fun _ h => List.mem_cons_of_mem _ (List.mem_append_right _ h)
  have lkf49 := hts (.fieldLink RX1 49 "BlockTapeModel" "thrown" "I") (by decide +kernel)
  have lkf43 := hts (.fieldLink RX1 43 "BlockTapeModel" "spoilt" "[I") (by decide +kernel)
  have hl : lv_has ls 2 [(0, .ref g), (1, .int x)] := hl
  refine lv_aload_n hx hb dM_heal_0 rfl (lv_at hl 0 rfl) ?_
  refine lv_iconst (v := nI 0) hx hb dM_heal_1 (by decide) ?_
  refine va_put (D := (dC, dI)) (ci := 1) (v := .int (nI 0)) (ty := .int) (C := RX1) (T := TX1) (N := 19) hx hb hts hin1 tyX1 tyX1_ok nmX1 hown hK hP hD hS 0 rfl rfl 0 (by decide) lkf49 (fun _ h9 => h9) rfl (by decide +kernel) rfl rfl (Nat.le_of_ble_eq_true rfl) dM_heal_2 (fun H locs hP hD hS => ?_)
  have hP : va_P (dC, dI) vwCl (wM g m1 m2 m3 m4 m5 m6 m7 m8 m9 m10 m11 m12 m13 ci mt tl rc kp ms mi ml mb mf mo my (np / 56) (np % 56) md mu fi sp sq) H := hP
  have hD : va_D A (wM g m1 m2 m3 m4 m5 m6 m7 m8 m9 m10 m11 m12 m13 ci mt tl rc kp ms mi ml mb mf mo my (np / 56) (np % 56) md mu fi sp sq) := hD
  refine lv_aload_n hx hb dM_heal_5 rfl (lv_at hl 0 rfl) ?_
  refine lv_iload_n hx hb dM_heal_6 rfl (lv_at hl 1 rfl) ?_
  refine kc_vi (WR := []) (As := [.int x]) (rest := []) ⟨hx, hb, hml, hown, hts⟩ (r_isWritten l dC dI g m1 m2 m3 m4 m5 m6 m7 m8 m9 m10 m11 m12 m13 ci mt tl rc kp ms mi ml mb mf mo my np md mu fi sp sq H.size x (by omega)) (cwV 1 hts gM_heal_M_isWritten rfl rfl rfl (by decide +kernel) ⟨Nat.le_of_ble_eq_true rfl, Nat.le_of_ble_eq_true rfl⟩) hK hP hD hS hA [0, 1, 2, 3, 4, 5, 6, 7, 8, 9, 10, 11, 12, 13] [] [0] rfl rfl (by decide) (by decide) (by decide) rfl 0 1 rfl rfl rfl rfl hl.1 rfl (Nat.le_of_ble_eq_true rfl) dM_heal_7 ⟨Nat.zero_le _, Nat.zero_le _⟩ (fun H locs hP hD hS => ?_)
  have hP : va_P (dC, dI) vwCl (wM g m1 m2 m3 m4 m5 m6 m7 m8 m9 m10 m11 m12 m13 ci mt tl rc kp ms mi ml mb mf mo my (np / 56) (np % 56) md mu fi sp sq) H := hP
  have hD : va_D A (wM g m1 m2 m3 m4 m5 m6 m7 m8 m9 m10 m11 m12 m13 ci mt tl rc kp ms mi ml mb mf mo my (np / 56) (np % 56) md mu fi sp sq) := hD
  refine lv_if_eq (tgt := 22) hx hb dM_heal_10 (by decide) (fun c_10 => ?_) (fun c_10 => ?_)
  · have c_10 := (bI_e _).mp c_10
    refine lv_iconst (v := nI 0) hx hb dM_heal_22 (by decide) ?_
    exact hret _ _ _ _ hP hD hS dM_heal_23
  · have c_10 := kmt (bI_e _).mpr c_10
    have c_10 := bT c_10
    obtain ⟨j, hj, rfl⟩ := isW_of c_10
    have hno := hno c_10
    rw [nI_tn (by omega)] at hno
    refine lv_aload_n hx hb dM_heal_13 rfl (lv_at hl 0 rfl) ?_
    refine va_get (D := (dC, dI)) (ci := 1) (v := .ref m12) (C := RX1) (T := TX1) (N := 19) hx hb hts hin1 hown hK hP 0 rfl rfl 17 (by decide) lkf43 (fun _ h9 => h9) rfl dM_heal_14 ?_
    refine lv_iload_n hx hb dM_heal_17 rfl (lv_at hl 1 rfl) ?_
    refine ka_iald hx hb hK hP 12 0 rfl rfl (k := j) (by omega) (by decide) dM_heal_18 ?_
    refine lv_if_ge (tgt := 24) hx hb dM_heal_19 (by decide) (fun c_19 => ?_) (fun c_19 => ?_)
    · have c_19 := (kx_ge0).mp c_19
      exfalso; omega
    · have c_19 := kmt (kx_ge0).mpr c_19
      refine lv_iconst (v := nI 0) hx hb dM_heal_22 (by decide) ?_
      exact hret _ _ _ _ hP hD hS dM_heal_23
