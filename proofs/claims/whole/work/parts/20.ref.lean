abbrev wM (g m1 m2 m3 m4 m5 m6 m7 m8 m9 m10 m11 m12 m13 : Nat) (ci : ClassId) (mt : Nat → Nat) (tl rc kp : Nat) (ms mi ml mb mf mo my : Nat → Nat) (wr us : Nat) (md mu fi : Nat → Nat) (sp : Nat → Int32) (sq : Nat → Nat) : va_W :=
  [(g, .inr (1, [.int (nI 0), .ref m1, .int (nI tl), .int (nI rc), .int (nI kp), .ref m2, .ref m3, .ref m4, .ref m5, .ref m6, .ref m7, .ref m8, .int (nI wr), .int (nI us), .ref m9, .ref m10, .ref m11, .ref m12, .ref m13])), (m1, .inl (ci, 300, .inl (nA mt))), (m2, .inl (ci, 200, .inl (nA ms))), (m3, .inl (ci, 200, .inl (nA mi))), (m4, .inl (ci, 200, .inl (nA ml))), (m5, .inl (ci, 200, .inl (nA mb))), (m6, .inl (ci, 200, .inl (nA mf))), (m7, .inl (ci, 200, .inl (nA mo))), (m8, .inl (ci, 4480, .inl (nA my))), (m9, .inl (ci, 4480, .inl (nA md))), (m10, .inl (ci, 80, .inl (nA mu))), (m11, .inl (ci, 80, .inl (nA fi))), (m12, .inl (ci, 80, .inl sp)), (m13, .inl (ci, 80, .inl (nA sq)))]
abbrev tM (ci : ClassId) : List (ClassId × FieldType) := [(ci, .int)]
set_option maxHeartbeats 4000000 in
set_option maxRecDepth 100000 in
theorem r_room (l : Launch) (dC : Nat → ClassId) (dI : Nat → Nat → Nat) (g m1 m2 m3 m4 m5 m6 m7 m8 m9 m10 m11 m12 m13 : Nat) (ci : ClassId) (mt : Nat → Nat) (tl rc kp : Nat) (ms mi ml mb mf mo my : Nat → Nat) (np : Nat) (md mu fi : Nat → Nat) (sp : Nat → Int32) (sq : Nat → Nat) (sz : Nat) (hnp : np ≤ 4480) : Met l yM_room wsM_room ({ frames := 0, cells := 0, slots := 0, locals := 0 }) (kPre (dC, dI) vwCl (wM g m1 m2 m3 m4 m5 m6 m7 m8 m9 m10 m11 m12 m13 ci mt tl rc kp ms mi ml mb mf mo my (np / 56) (np % 56) md mu fi sp sq) (tM ci) sz [.ref g]) (kQi (dC, dI) vwCl (wM g m1 m2 m3 m4 m5 m6 m7 m8 m9 m10 m11 m12 m13 ci mt tl rc kp ms mi ml mb mf mo my (np / 56) (np % 56) md mu fi sp sq) (tM ci) sz (nI (4480 - np)) (wM g m1 m2 m3 m4 m5 m6 m7 m8 m9 m10 m11 m12 m13 ci mt tl rc kp ms mi ml mb mf mo my (np / 56) (np % 56) md mu fi sp sq)) 0 0 (va_A (wM g m1 m2 m3 m4 m5 m6 m7 m8 m9 m10 m11 m12 m13 ci mt tl rc kp ms mi ml mb mf mo my (np / 56) (np % 56) md mu fi sp sq) sz) := by
  refine kM_i (cc := cM_room) (maxL := 1) (by decide) rfl (Nat.le_of_ble_eq_true rfl) ?_
  intro p e s m below meth c A Q ls H locs S hP hK hD hS hA hl hret
  obtain ⟨hx, hb, hml, hown, hts⟩ := id S
  have hin1 : ∀ w ∈ u_ws RX1 TX1 19, w ∈ wsM_room := fun _ h => List.mem_cons_of_mem _ (List.mem_append_right _ h)
  have lkf56 := hts (.fieldLink RX1 56 "BlockTapeModel" "written" "I") (by decide +kernel)
  have lkf59 := hts (.fieldLink RX1 59 "BlockTapeModel" "used" "I") (by decide +kernel)
  have hl : lv_has ls 1 [(0, .ref g)] := hl
  refine lv_bipush (v := nI 56) hx hb dM_room_0 (by decide) ?_
  refine lv_bipush (v := nI 80) hx hb dM_room_2 (by decide) ?_
  refine lv_aload_n hx hb dM_room_4 rfl (lv_at hl 0 rfl) ?_
  refine va_get (D := (dC, dI)) (ci := 1) (v := .int (nI (np / 56))) (C := RX1) (T := TX1) (N := 19) hx hb hts hin1 hown hK hP 0 rfl rfl 12 (by decide) lkf56 (fun _ h9 => h9) rfl dM_room_5 ?_
  refine lv_isub hx hb dM_room_8 ?_
  refine kv_top (show _ = nI (80 - (np / 56)) from pk_sub (by omega)) ?_
  refine lv_imul hx hb dM_room_9 ?_
  refine kv_top (show _ = nI (56 * (80 - (np / 56))) from pk_mul _ _) ?_
  refine lv_aload_n hx hb dM_room_10 rfl (lv_at hl 0 rfl) ?_
  refine va_get (D := (dC, dI)) (ci := 1) (v := .int (nI (np % 56))) (C := RX1) (T := TX1) (N := 19) hx hb hts hin1 hown hK hP 0 rfl rfl 13 (by decide) lkf59 (fun _ h9 => h9) rfl dM_room_11 ?_
  refine lv_isub hx hb dM_room_14 ?_
  refine kv_top (show _ = nI ((56 * (80 - (np / 56))) - (np % 56)) from pk_sub (by omega)) ?_
  refine kv_top (show _ = nI (4480 - np) from (by rw [show 56 * (80 - (np / 56)) - (np % 56) = 4480 - np by omega])) ?_
  exact hret _ _ _ _ hP hD hS dM_room_15
set_option maxHeartbeats 4000000 in
set_option maxRecDepth 100000 in
theorem r_write (l : Launch) (dC : Nat → ClassId) (dI : Nat → Nat → Nat) (g m1 m2 m3 m4 m5 m6 m7 m8 m9 m10 m11 m12 m13 : Nat) (ci : ClassId) (mt : Nat → Nat) (tl rc kp : Nat) (ms mi ml mb mf mo my : Nat → Nat) (wr us : Nat) (md mu fi : Nat → Nat) (sp : Nat → Int32) (sq : Nat → Nat) (sz : Nat) (hwr : wr < 80) : Met l yM_write wsM_write ({ frames := 0, cells := 0, slots := 0, locals := 0 }) (kPre (dC, dI) vwCl (wM g m1 m2 m3 m4 m5 m6 m7 m8 m9 m10 m11 m12 m13 ci mt tl rc kp ms mi ml mb mf mo my wr us md mu fi sp sq) (tM ci) sz [.ref g]) (kQv (dC, dI) vwCl (wM g m1 m2 m3 m4 m5 m6 m7 m8 m9 m10 m11 m12 m13 ci mt tl rc kp ms mi ml mb mf mo my wr us md mu fi sp sq) (tM ci) sz (wM g m1 m2 m3 m4 m5 m6 m7 m8 m9 m10 m11 m12 m13 ci mt tl rc kp ms mi ml mb mf mo my (wr + 1) 0 md (updN mu wr us) fi sp sq)) 0 0 (va_A (wM g m1 m2 m3 m4 m5 m6 m7 m8 m9 m10 m11 m12 m13 ci mt tl rc kp ms mi ml mb mf mo my wr us md mu fi sp sq) sz) := by
  refine kM_v (cc := cM_write) (maxL := 1) (by decide) rfl (Nat.le_of_ble_eq_true rfl) ?_
  intro p e s m below meth c A Q ls H locs S hP hK hD hS hA hl hret
  obtain ⟨hx, hb, hml, hown, hts⟩ := id S
  have hin1 : ∀ w ∈ u_ws RX1 TX1 19, w ∈ wsM_write := fun _ h => List.mem_cons_of_mem _ (List.mem_append_right _ h)
  have lkf37 := hts (.fieldLink RX1 37 "BlockTapeModel" "uses" "[I") (by decide +kernel)
  have lkf56 := hts (.fieldLink RX1 56 "BlockTapeModel" "written" "I") (by decide +kernel)
  have lkf59 := hts (.fieldLink RX1 59 "BlockTapeModel" "used" "I") (by decide +kernel)
  have hl : lv_has ls 1 [(0, .ref g)] := hl
  refine lv_aload_n hx hb dM_write_0 rfl (lv_at hl 0 rfl) ?_
  refine va_get (D := (dC, dI)) (ci := 1) (v := .ref m10) (C := RX1) (T := TX1) (N := 19) hx hb hts hin1 hown hK hP 0 rfl rfl 15 (by decide) lkf37 (fun _ h9 => h9) rfl dM_write_1 ?_
  refine lv_aload_n hx hb dM_write_4 rfl (lv_at hl 0 rfl) ?_
  refine va_get (D := (dC, dI)) (ci := 1) (v := .int (nI wr)) (C := RX1) (T := TX1) (N := 19) hx hb hts hin1 hown hK hP 0 rfl rfl 12 (by decide) lkf56 (fun _ h9 => h9) rfl dM_write_5 ?_
  refine lv_aload_n hx hb dM_write_8 rfl (lv_at hl 0 rfl) ?_
  refine va_get (D := (dC, dI)) (ci := 1) (v := .int (nI us)) (C := RX1) (T := TX1) (N := 19) hx hb hts hin1 hown hK hP 0 rfl rfl 13 (by decide) lkf59 (fun _ h9 => h9) rfl dM_write_9 ?_
  refine ka_iastN hx hb hK hP hD hS 10 0 rfl rfl (k := wr) (x := us) (by omega) (by decide) dM_write_12 (fun H locs hP hD hS => ?_)
  have hP : va_P (dC, dI) vwCl (wM g m1 m2 m3 m4 m5 m6 m7 m8 m9 m10 m11 m12 m13 ci mt tl rc kp ms mi ml mb mf mo my wr us md (updN mu wr us) fi sp sq) H := hP
  have hD : va_D A (wM g m1 m2 m3 m4 m5 m6 m7 m8 m9 m10 m11 m12 m13 ci mt tl rc kp ms mi ml mb mf mo my wr us md (updN mu wr us) fi sp sq) := hD
  refine lv_aload_n hx hb dM_write_13 rfl (lv_at hl 0 rfl) ?_
  refine lv_dup hx hb dM_write_14 rfl ?_
  refine va_get (D := (dC, dI)) (ci := 1) (v := .int (nI wr)) (C := RX1) (T := TX1) (N := 19) hx hb hts hin1 hown hK hP 0 rfl rfl 12 (by decide) lkf56 (fun _ h9 => h9) rfl dM_write_15 ?_
  refine lv_iconst (v := nI 1) hx hb dM_write_18 (by decide) ?_
  refine lv_iadd hx hb dM_write_19 ?_
  refine kv_top (show _ = nI (wr + 1) from nI_add _ _) ?_
  refine va_put (D := (dC, dI)) (ci := 1) (v := .int (nI (wr + 1))) (ty := .int) (C := RX1) (T := TX1) (N := 19) hx hb hts hin1 tyX1 tyX1_ok nmX1 hown hK hP hD hS 0 rfl rfl 12 (by decide) lkf56 (fun _ h9 => h9) rfl (by decide +kernel) rfl rfl (Nat.le_of_ble_eq_true rfl) dM_write_20 (fun H locs hP hD hS => ?_)
  have hP : va_P (dC, dI) vwCl (wM g m1 m2 m3 m4 m5 m6 m7 m8 m9 m10 m11 m12 m13 ci mt tl rc kp ms mi ml mb mf mo my (wr + 1) us md (updN mu wr us) fi sp sq) H := hP
  have hD : va_D A (wM g m1 m2 m3 m4 m5 m6 m7 m8 m9 m10 m11 m12 m13 ci mt tl rc kp ms mi ml mb mf mo my (wr + 1) us md (updN mu wr us) fi sp sq) := hD
  refine lv_aload_n hx hb dM_write_23 rfl (lv_at hl 0 rfl) ?_
  refine lv_iconst (v := nI 0) hx hb dM_write_24 (by decide) ?_
  refine va_put (D := (dC, dI)) (ci := 1) (v := .int (nI 0)) (ty := .int) (C := RX1) (T := TX1) (N := 19) hx hb hts hin1 tyX1 tyX1_ok nmX1 hown hK hP hD hS 0 rfl rfl 13 (by decide) lkf59 (fun _ h9 => h9) rfl (by decide +kernel) rfl rfl (Nat.le_of_ble_eq_true rfl) dM_write_25 (fun H locs hP hD hS => ?_)
  have hP : va_P (dC, dI) vwCl (wM g m1 m2 m3 m4 m5 m6 m7 m8 m9 m10 m11 m12 m13 ci mt tl rc kp ms mi ml mb mf mo my (wr + 1) 0 md (updN mu wr us) fi sp sq) H := hP
  have hD : va_D A (wM g m1 m2 m3 m4 m5 m6 m7 m8 m9 m10 m11 m12 m13 ci mt tl rc kp ms mi ml mb mf mo my (wr + 1) 0 md (updN mu wr us) fi sp sq) := hD
  exact hret _ _ _ _ hP hD hS dM_write_28
set_option maxHeartbeats 4000000 in
set_option maxRecDepth 100000 in
theorem r_add0 (l : Launch) (dC : Nat → ClassId) (dI : Nat → Nat → Nat) (g m1 m2 m3 m4 m5 m6 m7 m8 m9 m10 m11 m12 m13 : Nat) (ci : ClassId) (mt : Nat → Nat) (tl rc kp : Nat) (ms mi ml mb mf mo my : Nat → Nat) (np : Nat) (md mu fi : Nat → Nat) (sp : Nat → Int32) (sq : Nat → Nat) (sz : Nat) (v : Int32) (hnp : np < 4480) : Met l yM_add wsM_add ({ frames := 1, cells := 0, slots := 0, locals := 20 }) (kPre (dC, dI) vwCl (wM g m1 m2 m3 m4 m5 m6 m7 m8 m9 m10 m11 m12 m13 ci mt tl rc kp ms mi ml mb mf mo my (np / 56) (np % 56) md mu fi sp sq) (tM ci) sz [.ref g, .int v, .int (nI 0)]) (kQv (dC, dI) vwCl (wM g m1 m2 m3 m4 m5 m6 m7 m8 m9 m10 m11 m12 m13 ci mt tl rc kp ms mi ml mb mf mo my (np / 56) (np % 56) md mu fi sp sq) (tM ci) sz (wM g m1 m2 m3 m4 m5 m6 m7 m8 m9 m10 m11 m12 m13 ci mt tl rc kp ms mi ml mb mf mo my ((np + 1) / 56) ((np + 1) % 56) (updN md np (lb v)) (aU mu np) (aG fi np) (aS sp np) sq)) 0 0 (va_A (wM g m1 m2 m3 m4 m5 m6 m7 m8 m9 m10 m11 m12 m13 ci mt tl rc kp ms mi ml mb mf mo my (np / 56) (np % 56) md mu fi sp sq) sz) := by
  refine kM_v (cc := cM_add) (maxL := 3) (by decide) rfl (Nat.le_of_ble_eq_true rfl) ?_
  intro p e s m below meth c A Q ls H locs S hP hK hD hS hA hl hret
  obtain ⟨hx, hb, hml, hown, hts⟩ := id S
  have hin1 : ∀ w ∈ u_ws RX1 TX1 19, w ∈ wsM_add := fun _ h => List.mem_cons_of_mem _ (List.mem_append_right _ h)
  have lkf59 := hts (.fieldLink RX1 59 "BlockTapeModel" "used" "I") (by decide +kernel)
  have lkf34 := hts (.fieldLink RX1 34 "BlockTapeModel" "data" "[I") (by decide +kernel)
  have lkf56 := hts (.fieldLink RX1 56 "BlockTapeModel" "written" "I") (by decide +kernel)
  have lkf40 := hts (.fieldLink RX1 40 "BlockTapeModel" "first" "[I") (by decide +kernel)
  have lkf43 := hts (.fieldLink RX1 43 "BlockTapeModel" "spoilt" "[I") (by decide +kernel)
  have hl : lv_has ls 3 [(0, .ref g), (1, .int v), (2, .int (nI 0))] := hl
  refine lv_aload_n hx hb dM_add_0 rfl (lv_at hl 0 rfl) ?_
  refine va_get (D := (dC, dI)) (ci := 1) (v := .int (nI (np % 56))) (C := RX1) (T := TX1) (N := 19) hx hb hts hin1 hown hK hP 0 rfl rfl 13 (by decide) lkf59 (fun _ h9 => h9) rfl dM_add_1 ?_
  refine lv_if_ne (tgt := 29) hx hb dM_add_4 (by decide) (fun c_4 => ?_) (fun c_4 => ?_)
  · have c_4 := kmt (kn_eq0 (by omega)).mpr c_4
    have hP : va_P (dC, dI) vwCl (wM g m1 m2 m3 m4 m5 m6 m7 m8 m9 m10 m11 m12 m13 ci mt tl rc kp ms mi ml mb mf mo my (np / 56) (np % 56) md mu (aG fi np) (aS sp np) sq) H := by rw [aS, if_neg c_4, aG, if_neg c_4]; exact hP
    have hD : va_D A (wM g m1 m2 m3 m4 m5 m6 m7 m8 m9 m10 m11 m12 m13 ci mt tl rc kp ms mi ml mb mf mo my (np / 56) (np % 56) md mu (aG fi np) (aS sp np) sq) := by rw [aS, if_neg c_4, aG, if_neg c_4]; exact hD
    refine lv_iload_n hx hb dM_add_29 rfl (lv_at hl 2 rfl) ?_
    refine lv_if_eq (tgt := 61) hx hb dM_add_30 (by decide) (fun c_30 => ?_) (fun c_30 => ?_)
    · have c_30 := (kn_eq0 (by omega)).mp c_30
      refine lv_aload_n hx hb dM_add_61 rfl (lv_at hl 0 rfl) ?_
      refine va_get (D := (dC, dI)) (ci := 1) (v := .ref m9) (C := RX1) (T := TX1) (N := 19) hx hb hts hin1 hown hK hP 0 rfl rfl 14 (by decide) lkf34 (fun _ h9 => h9) rfl dM_add_62 ?_
      refine lv_bipush (v := nI 56) hx hb dM_add_65 (by decide) ?_
      refine lv_aload_n hx hb dM_add_67 rfl (lv_at hl 0 rfl) ?_
      refine va_get (D := (dC, dI)) (ci := 1) (v := .int (nI (np / 56))) (C := RX1) (T := TX1) (N := 19) hx hb hts hin1 hown hK hP 0 rfl rfl 12 (by decide) lkf56 (fun _ h9 => h9) rfl dM_add_68 ?_
      refine lv_imul hx hb dM_add_71 ?_
      refine kv_top (show _ = nI (56 * (np / 56)) from pk_mul _ _) ?_
      refine lv_aload_n hx hb dM_add_72 rfl (lv_at hl 0 rfl) ?_
      refine va_get (D := (dC, dI)) (ci := 1) (v := .int (nI (np % 56))) (C := RX1) (T := TX1) (N := 19) hx hb hts hin1 hown hK hP 0 rfl rfl 13 (by decide) lkf59 (fun _ h9 => h9) rfl dM_add_73 ?_
      refine lv_iadd hx hb dM_add_76 ?_
      refine kv_top (show _ = nI ((56 * (np / 56)) + (np % 56)) from nI_add _ _) ?_
      refine kv_top (show _ = nI np from (by rw [show (56 * (np / 56)) + (np % 56) = np by omega])) ?_
      refine lv_iload_n hx hb dM_add_77 rfl (lv_at hl 1 rfl) ?_
      refine lv_sipush (v := nI 255) hx hb dM_add_78 (by decide) ?_
      refine lv_iand hx hb dM_add_81 ?_
      refine kv_top (show _ = nI (lb v) from and255 v) ?_
      refine ka_iastN hx hb hK hP hD hS 9 0 rfl rfl (k := np) (x := lb v) (by omega) (by decide) dM_add_82 (fun H locs hP hD hS => ?_)
      have hP : va_P (dC, dI) vwCl (wM g m1 m2 m3 m4 m5 m6 m7 m8 m9 m10 m11 m12 m13 ci mt tl rc kp ms mi ml mb mf mo my (np / 56) (np % 56) (updN md np (lb v)) mu (aG fi np) (aS sp np) sq) H := hP
      have hD : va_D A (wM g m1 m2 m3 m4 m5 m6 m7 m8 m9 m10 m11 m12 m13 ci mt tl rc kp ms mi ml mb mf mo my (np / 56) (np % 56) (updN md np (lb v)) mu (aG fi np) (aS sp np) sq) := hD
      refine lv_aload_n hx hb dM_add_83 rfl (lv_at hl 0 rfl) ?_
      refine lv_dup hx hb dM_add_84 rfl ?_
      refine va_get (D := (dC, dI)) (ci := 1) (v := .int (nI (np % 56))) (C := RX1) (T := TX1) (N := 19) hx hb hts hin1 hown hK hP 0 rfl rfl 13 (by decide) lkf59 (fun _ h9 => h9) rfl dM_add_85 ?_
      refine lv_iconst (v := nI 1) hx hb dM_add_88 (by decide) ?_
      refine lv_iadd hx hb dM_add_89 ?_
      refine kv_top (show _ = nI ((np % 56) + 1) from nI_add _ _) ?_
      refine va_put (D := (dC, dI)) (ci := 1) (v := .int (nI ((np % 56) + 1))) (ty := .int) (C := RX1) (T := TX1) (N := 19) hx hb hts hin1 tyX1 tyX1_ok nmX1 hown hK hP hD hS 0 rfl rfl 13 (by decide) lkf59 (fun _ h9 => h9) rfl (by decide +kernel) rfl rfl (Nat.le_of_ble_eq_true rfl) dM_add_90 (fun H locs hP hD hS => ?_)
      have hP : va_P (dC, dI) vwCl (wM g m1 m2 m3 m4 m5 m6 m7 m8 m9 m10 m11 m12 m13 ci mt tl rc kp ms mi ml mb mf mo my (np / 56) ((np % 56) + 1) (updN md np (lb v)) mu (aG fi np) (aS sp np) sq) H := hP
      have hD : va_D A (wM g m1 m2 m3 m4 m5 m6 m7 m8 m9 m10 m11 m12 m13 ci mt tl rc kp ms mi ml mb mf mo my (np / 56) ((np % 56) + 1) (updN md np (lb v)) mu (aG fi np) (aS sp np) sq) := hD
      refine lv_aload_n hx hb dM_add_93 rfl (lv_at hl 0 rfl) ?_
      refine va_get (D := (dC, dI)) (ci := 1) (v := .int (nI ((np % 56) + 1))) (C := RX1) (T := TX1) (N := 19) hx hb hts hin1 hown hK hP 0 rfl rfl 13 (by decide) lkf59 (fun _ h9 => h9) rfl dM_add_94 ?_
      refine lv_bipush (v := nI 56) hx hb dM_add_97 (by decide) ?_
      refine lv_icmp_ne (tgt := 106) hx hb dM_add_99 (by decide) (fun c_99 => ?_) (fun c_99 => ?_)
      · have c_99 := kmt (nI_eq (by omega) (by omega)).mpr c_99
        have hP : va_P (dC, dI) vwCl (wM g m1 m2 m3 m4 m5 m6 m7 m8 m9 m10 m11 m12 m13 ci mt tl rc kp ms mi ml mb mf mo my ((np + 1) / 56) ((np + 1) % 56) (updN md np (lb v)) (aU mu np) (aG fi np) (aS sp np) sq) H := by rw [aU, if_neg (show ¬ np % 56 + 1 = 56 by omega), show (np + 1) / 56 = np / 56 by omega, show (np + 1) % 56 = (np % 56) + 1 by omega]; exact hP
        have hD : va_D A (wM g m1 m2 m3 m4 m5 m6 m7 m8 m9 m10 m11 m12 m13 ci mt tl rc kp ms mi ml mb mf mo my ((np + 1) / 56) ((np + 1) % 56) (updN md np (lb v)) (aU mu np) (aG fi np) (aS sp np) sq) := by rw [aU, if_neg (show ¬ np % 56 + 1 = 56 by omega), show (np + 1) / 56 = np / 56 by omega, show (np + 1) % 56 = (np % 56) + 1 by omega]; exact hD
        exact hret _ _ _ _ hP hD hS dM_add_106
      · have c_99 := (nI_eq (by omega) (by omega)).mp c_99
        refine lv_aload_n hx hb dM_add_102 rfl (lv_at hl 0 rfl) ?_
        refine kc_vv (WR := []) (As := []) (rest := []) ⟨hx, hb, hml, hown, hts⟩ (r_write l dC dI g m1 m2 m3 m4 m5 m6 m7 m8 m9 m10 m11 m12 m13 ci mt tl rc kp ms mi ml mb mf mo my (np / 56) ((np % 56) + 1) (updN md np (lb v)) mu (aG fi np) (aS sp np) sq H.size (by omega)) (cwV 0 hts gM_add_M_write rfl rfl rfl (by decide +kernel) ⟨Nat.le_of_ble_eq_true rfl, Nat.le_of_ble_eq_true rfl⟩) hK hP hD hS hA [0, 1, 2, 3, 4, 5, 6, 7, 8, 9, 10, 11, 12, 13] [] [0] rfl rfl (by decide) (by decide) (by decide) rfl 0 1 rfl rfl rfl rfl hl.1 rfl (Nat.le_of_ble_eq_true rfl) dM_add_103 ⟨Nat.zero_le _, Nat.zero_le _⟩ (fun H locs hP hD hS => ?_)
        have hP : va_P (dC, dI) vwCl (wM g m1 m2 m3 m4 m5 m6 m7 m8 m9 m10 m11 m12 m13 ci mt tl rc kp ms mi ml mb mf mo my ((np / 56) + 1) 0 (updN md np (lb v)) (updN mu (np / 56) ((np % 56) + 1)) (aG fi np) (aS sp np) sq) H := hP
        have hD : va_D A (wM g m1 m2 m3 m4 m5 m6 m7 m8 m9 m10 m11 m12 m13 ci mt tl rc kp ms mi ml mb mf mo my ((np / 56) + 1) 0 (updN md np (lb v)) (updN mu (np / 56) ((np % 56) + 1)) (aG fi np) (aS sp np) sq) := hD
        have hP : va_P (dC, dI) vwCl (wM g m1 m2 m3 m4 m5 m6 m7 m8 m9 m10 m11 m12 m13 ci mt tl rc kp ms mi ml mb mf mo my ((np + 1) / 56) ((np + 1) % 56) (updN md np (lb v)) (aU mu np) (aG fi np) (aS sp np) sq) H := by rw [aU, if_pos (show np % 56 + 1 = 56 by omega), show (np + 1) / 56 = (np / 56) + 1 by omega, show (np + 1) % 56 = 0 by omega]; exact hP
        have hD : va_D A (wM g m1 m2 m3 m4 m5 m6 m7 m8 m9 m10 m11 m12 m13 ci mt tl rc kp ms mi ml mb mf mo my ((np + 1) / 56) ((np + 1) % 56) (updN md np (lb v)) (aU mu np) (aG fi np) (aS sp np) sq) := by rw [aU, if_pos (show np % 56 + 1 = 56 by omega), show (np + 1) / 56 = (np / 56) + 1 by omega, show (np + 1) % 56 = 0 by omega]; exact hD
        exact hret _ _ _ _ hP hD hS dM_add_106
    · have c_30 := kmt (kn_eq0 (by omega)).mpr c_30
      exact absurd rfl c_30
  · have c_4 := (kn_eq0 (by omega)).mp c_4
    refine lv_aload_n hx hb dM_add_7 rfl (lv_at hl 0 rfl) ?_
    refine va_get (D := (dC, dI)) (ci := 1) (v := .ref m11) (C := RX1) (T := TX1) (N := 19) hx hb hts hin1 hown hK hP 0 rfl rfl 16 (by decide) lkf40 (fun _ h9 => h9) rfl dM_add_8 ?_
    refine lv_aload_n hx hb dM_add_11 rfl (lv_at hl 0 rfl) ?_
    refine va_get (D := (dC, dI)) (ci := 1) (v := .int (nI (np / 56))) (C := RX1) (T := TX1) (N := 19) hx hb hts hin1 hown hK hP 0 rfl rfl 12 (by decide) lkf56 (fun _ h9 => h9) rfl dM_add_12 ?_
    refine lv_sipush (v := nI 255) hx hb dM_add_15 (by decide) ?_
    refine ka_iastN hx hb hK hP hD hS 11 0 rfl rfl (k := np / 56) (x := 255) (by omega) (by decide) dM_add_18 (fun H locs hP hD hS => ?_)
    have hP : va_P (dC, dI) vwCl (wM g m1 m2 m3 m4 m5 m6 m7 m8 m9 m10 m11 m12 m13 ci mt tl rc kp ms mi ml mb mf mo my (np / 56) (np % 56) md mu (updN fi (np / 56) 255) sp sq) H := hP
    have hD : va_D A (wM g m1 m2 m3 m4 m5 m6 m7 m8 m9 m10 m11 m12 m13 ci mt tl rc kp ms mi ml mb mf mo my (np / 56) (np % 56) md mu (updN fi (np / 56) 255) sp sq) := hD
    refine lv_aload_n hx hb dM_add_19 rfl (lv_at hl 0 rfl) ?_
    refine va_get (D := (dC, dI)) (ci := 1) (v := .ref m12) (C := RX1) (T := TX1) (N := 19) hx hb hts hin1 hown hK hP 0 rfl rfl 17 (by decide) lkf43 (fun _ h9 => h9) rfl dM_add_20 ?_
    refine lv_aload_n hx hb dM_add_23 rfl (lv_at hl 0 rfl) ?_
    refine va_get (D := (dC, dI)) (ci := 1) (v := .int (nI (np / 56))) (C := RX1) (T := TX1) (N := 19) hx hb hts hin1 hown hK hP 0 rfl rfl 12 (by decide) lkf56 (fun _ h9 => h9) rfl dM_add_24 ?_
    refine lv_iconst (v := (-1)) hx hb dM_add_27 (by decide) ?_
    refine ka_iast hx hb hK hP hD hS 12 0 rfl rfl (k := np / 56) (x := (-1)) (by omega) (by decide) dM_add_28 (fun H locs hP hD hS => ?_)
    have hP : va_P (dC, dI) vwCl (wM g m1 m2 m3 m4 m5 m6 m7 m8 m9 m10 m11 m12 m13 ci mt tl rc kp ms mi ml mb mf mo my (np / 56) (np % 56) md mu (updN fi (np / 56) 255) (upd sp (np / 56) ((-1))) sq) H := hP
    have hD : va_D A (wM g m1 m2 m3 m4 m5 m6 m7 m8 m9 m10 m11 m12 m13 ci mt tl rc kp ms mi ml mb mf mo my (np / 56) (np % 56) md mu (updN fi (np / 56) 255) (upd sp (np / 56) ((-1))) sq) := hD
    have hP : va_P (dC, dI) vwCl (wM g m1 m2 m3 m4 m5 m6 m7 m8 m9 m10 m11 m12 m13 ci mt tl rc kp ms mi ml mb mf mo my (np / 56) (np % 56) md mu (aG fi np) (aS sp np) sq) H := by rw [aS, if_pos c_4, aG, if_pos c_4]; exact hP
    have hD : va_D A (wM g m1 m2 m3 m4 m5 m6 m7 m8 m9 m10 m11 m12 m13 ci mt tl rc kp ms mi ml mb mf mo my (np / 56) (np % 56) md mu (aG fi np) (aS sp np) sq) := by rw [aS, if_pos c_4, aG, if_pos c_4]; exact hD
    refine lv_iload_n hx hb dM_add_29 rfl (lv_at hl 2 rfl) ?_
    refine lv_if_eq (tgt := 61) hx hb dM_add_30 (by decide) (fun c_30 => ?_) (fun c_30 => ?_)
    · have c_30 := (kn_eq0 (by omega)).mp c_30
      refine lv_aload_n hx hb dM_add_61 rfl (lv_at hl 0 rfl) ?_
      refine va_get (D := (dC, dI)) (ci := 1) (v := .ref m9) (C := RX1) (T := TX1) (N := 19) hx hb hts hin1 hown hK hP 0 rfl rfl 14 (by decide) lkf34 (fun _ h9 => h9) rfl dM_add_62 ?_
      refine lv_bipush (v := nI 56) hx hb dM_add_65 (by decide) ?_
      refine lv_aload_n hx hb dM_add_67 rfl (lv_at hl 0 rfl) ?_
      refine va_get (D := (dC, dI)) (ci := 1) (v := .int (nI (np / 56))) (C := RX1) (T := TX1) (N := 19) hx hb hts hin1 hown hK hP 0 rfl rfl 12 (by decide) lkf56 (fun _ h9 => h9) rfl dM_add_68 ?_
      refine lv_imul hx hb dM_add_71 ?_
      refine kv_top (show _ = nI (56 * (np / 56)) from pk_mul _ _) ?_
      refine lv_aload_n hx hb dM_add_72 rfl (lv_at hl 0 rfl) ?_
      refine va_get (D := (dC, dI)) (ci := 1) (v := .int (nI (np % 56))) (C := RX1) (T := TX1) (N := 19) hx hb hts hin1 hown hK hP 0 rfl rfl 13 (by decide) lkf59 (fun _ h9 => h9) rfl dM_add_73 ?_
      refine lv_iadd hx hb dM_add_76 ?_
      refine kv_top (show _ = nI ((56 * (np / 56)) + (np % 56)) from nI_add _ _) ?_
      refine kv_top (show _ = nI np from (by rw [show (56 * (np / 56)) + (np % 56) = np by omega])) ?_
      refine lv_iload_n hx hb dM_add_77 rfl (lv_at hl 1 rfl) ?_
      refine lv_sipush (v := nI 255) hx hb dM_add_78 (by decide) ?_
      refine lv_iand hx hb dM_add_81 ?_
      refine kv_top (show _ = nI (lb v) from and255 v) ?_
      refine ka_iastN hx hb hK hP hD hS 9 0 rfl rfl (k := np) (x := lb v) (by omega) (by decide) dM_add_82 (fun H locs hP hD hS => ?_)
      have hP : va_P (dC, dI) vwCl (wM g m1 m2 m3 m4 m5 m6 m7 m8 m9 m10 m11 m12 m13 ci mt tl rc kp ms mi ml mb mf mo my (np / 56) (np % 56) (updN md np (lb v)) mu (aG fi np) (aS sp np) sq) H := hP
      have hD : va_D A (wM g m1 m2 m3 m4 m5 m6 m7 m8 m9 m10 m11 m12 m13 ci mt tl rc kp ms mi ml mb mf mo my (np / 56) (np % 56) (updN md np (lb v)) mu (aG fi np) (aS sp np) sq) := hD
      refine lv_aload_n hx hb dM_add_83 rfl (lv_at hl 0 rfl) ?_
      refine lv_dup hx hb dM_add_84 rfl ?_
      refine va_get (D := (dC, dI)) (ci := 1) (v := .int (nI (np % 56))) (C := RX1) (T := TX1) (N := 19) hx hb hts hin1 hown hK hP 0 rfl rfl 13 (by decide) lkf59 (fun _ h9 => h9) rfl dM_add_85 ?_
      refine lv_iconst (v := nI 1) hx hb dM_add_88 (by decide) ?_
      refine lv_iadd hx hb dM_add_89 ?_
      refine kv_top (show _ = nI ((np % 56) + 1) from nI_add _ _) ?_
      refine va_put (D := (dC, dI)) (ci := 1) (v := .int (nI ((np % 56) + 1))) (ty := .int) (C := RX1) (T := TX1) (N := 19) hx hb hts hin1 tyX1 tyX1_ok nmX1 hown hK hP hD hS 0 rfl rfl 13 (by decide) lkf59 (fun _ h9 => h9) rfl (by decide +kernel) rfl rfl (Nat.le_of_ble_eq_true rfl) dM_add_90 (fun H locs hP hD hS => ?_)
      have hP : va_P (dC, dI) vwCl (wM g m1 m2 m3 m4 m5 m6 m7 m8 m9 m10 m11 m12 m13 ci mt tl rc kp ms mi ml mb mf mo my (np / 56) ((np % 56) + 1) (updN md np (lb v)) mu (aG fi np) (aS sp np) sq) H := hP
      have hD : va_D A (wM g m1 m2 m3 m4 m5 m6 m7 m8 m9 m10 m11 m12 m13 ci mt tl rc kp ms mi ml mb mf mo my (np / 56) ((np % 56) + 1) (updN md np (lb v)) mu (aG fi np) (aS sp np) sq) := hD
      refine lv_aload_n hx hb dM_add_93 rfl (lv_at hl 0 rfl) ?_
      refine va_get (D := (dC, dI)) (ci := 1) (v := .int (nI ((np % 56) + 1))) (C := RX1) (T := TX1) (N := 19) hx hb hts hin1 hown hK hP 0 rfl rfl 13 (by decide) lkf59 (fun _ h9 => h9) rfl dM_add_94 ?_
      refine lv_bipush (v := nI 56) hx hb dM_add_97 (by decide) ?_
      refine lv_icmp_ne (tgt := 106) hx hb dM_add_99 (by decide) (fun c_99 => ?_) (fun c_99 => ?_)
      · have c_99 := kmt (nI_eq (by omega) (by omega)).mpr c_99
        have hP : va_P (dC, dI) vwCl (wM g m1 m2 m3 m4 m5 m6 m7 m8 m9 m10 m11 m12 m13 ci mt tl rc kp ms mi ml mb mf mo my ((np + 1) / 56) ((np + 1) % 56) (updN md np (lb v)) (aU mu np) (aG fi np) (aS sp np) sq) H := by rw [aU, if_neg (show ¬ np % 56 + 1 = 56 by omega), show (np + 1) / 56 = np / 56 by omega, show (np + 1) % 56 = (np % 56) + 1 by omega]; exact hP
        have hD : va_D A (wM g m1 m2 m3 m4 m5 m6 m7 m8 m9 m10 m11 m12 m13 ci mt tl rc kp ms mi ml mb mf mo my ((np + 1) / 56) ((np + 1) % 56) (updN md np (lb v)) (aU mu np) (aG fi np) (aS sp np) sq) := by rw [aU, if_neg (show ¬ np % 56 + 1 = 56 by omega), show (np + 1) / 56 = np / 56 by omega, show (np + 1) % 56 = (np % 56) + 1 by omega]; exact hD
        exact hret _ _ _ _ hP hD hS dM_add_106
      · have c_99 := (nI_eq (by omega) (by omega)).mp c_99
        refine lv_aload_n hx hb dM_add_102 rfl (lv_at hl 0 rfl) ?_
        refine kc_vv (WR := []) (As := []) (rest := []) ⟨hx, hb, hml, hown, hts⟩ (r_write l dC dI g m1 m2 m3 m4 m5 m6 m7 m8 m9 m10 m11 m12 m13 ci mt tl rc kp ms mi ml mb mf mo my (np / 56) ((np % 56) + 1) (updN md np (lb v)) mu (aG fi np) (aS sp np) sq H.size (by omega)) (cwV 0 hts gM_add_M_write rfl rfl rfl (by decide +kernel) ⟨Nat.le_of_ble_eq_true rfl, Nat.le_of_ble_eq_true rfl⟩) hK hP hD hS hA [0, 1, 2, 3, 4, 5, 6, 7, 8, 9, 10, 11, 12, 13] [] [0] rfl rfl (by decide) (by decide) (by decide) rfl 0 1 rfl rfl rfl rfl hl.1 rfl (Nat.le_of_ble_eq_true rfl) dM_add_103 ⟨Nat.zero_le _, Nat.zero_le _⟩ (fun H locs hP hD hS => ?_)
        have hP : va_P (dC, dI) vwCl (wM g m1 m2 m3 m4 m5 m6 m7 m8 m9 m10 m11 m12 m13 ci mt tl rc kp ms mi ml mb mf mo my ((np / 56) + 1) 0 (updN md np (lb v)) (updN mu (np / 56) ((np % 56) + 1)) (aG fi np) (aS sp np) sq) H := hP
        have hD : va_D A (wM g m1 m2 m3 m4 m5 m6 m7 m8 m9 m10 m11 m12 m13 ci mt tl rc kp ms mi ml mb mf mo my ((np / 56) + 1) 0 (updN md np (lb v)) (updN mu (np / 56) ((np % 56) + 1)) (aG fi np) (aS sp np) sq) := hD
        have hP : va_P (dC, dI) vwCl (wM g m1 m2 m3 m4 m5 m6 m7 m8 m9 m10 m11 m12 m13 ci mt tl rc kp ms mi ml mb mf mo my ((np + 1) / 56) ((np + 1) % 56) (updN md np (lb v)) (aU mu np) (aG fi np) (aS sp np) sq) H := by rw [aU, if_pos (show np % 56 + 1 = 56 by omega), show (np + 1) / 56 = (np / 56) + 1 by omega, show (np + 1) % 56 = 0 by omega]; exact hP
        have hD : va_D A (wM g m1 m2 m3 m4 m5 m6 m7 m8 m9 m10 m11 m12 m13 ci mt tl rc kp ms mi ml mb mf mo my ((np + 1) / 56) ((np + 1) % 56) (updN md np (lb v)) (aU mu np) (aG fi np) (aS sp np) sq) := by rw [aU, if_pos (show np % 56 + 1 = 56 by omega), show (np + 1) / 56 = (np / 56) + 1 by omega, show (np + 1) % 56 = 0 by omega]; exact hD
        exact hret _ _ _ _ hP hD hS dM_add_106
    · have c_30 := kmt (kn_eq0 (by omega)).mpr c_30
      exact absurd rfl c_30
set_option maxHeartbeats 4000000 in
set_option maxRecDepth 100000 in
theorem r_add1 (l : Launch) (dC : Nat → ClassId) (dI : Nat → Nat → Nat) (g m1 m2 m3 m4 m5 m6 m7 m8 m9 m10 m11 m12 m13 : Nat) (ci : ClassId) (mt : Nat → Nat) (tl rc kp : Nat) (ms mi ml mb mf mo my : Nat → Nat) (np : Nat) (md mu fi : Nat → Nat) (sp : Nat → Int32) (sq : Nat → Nat) (sz : Nat) (v : Int32) (hnp : np < 4480) (hfi : fi (np / 56) < 256) : Met l yM_add wsM_add ({ frames := 1, cells := 0, slots := 0, locals := 20 }) (kPre (dC, dI) vwCl (wM g m1 m2 m3 m4 m5 m6 m7 m8 m9 m10 m11 m12 m13 ci mt tl rc kp ms mi ml mb mf mo my (np / 56) (np % 56) md mu fi sp sq) (tM ci) sz [.ref g, .int v, .int (nI 1)]) (kQv (dC, dI) vwCl (wM g m1 m2 m3 m4 m5 m6 m7 m8 m9 m10 m11 m12 m13 ci mt tl rc kp ms mi ml mb mf mo my (np / 56) (np % 56) md mu fi sp sq) (tM ci) sz (wM g m1 m2 m3 m4 m5 m6 m7 m8 m9 m10 m11 m12 m13 ci mt tl rc kp ms mi ml mb mf mo my ((np + 1) / 56) ((np + 1) % 56) (updN md np (lb v)) (aU mu np) (aF fi np) (aS sp np) sq)) 0 0 (va_A (wM g m1 m2 m3 m4 m5 m6 m7 m8 m9 m10 m11 m12 m13 ci mt tl rc kp ms mi ml mb mf mo my (np / 56) (np % 56) md mu fi sp sq) sz) := by
  refine kM_v (cc := cM_add) (maxL := 3) (by decide) rfl (Nat.le_of_ble_eq_true rfl) ?_
  intro p e s m below meth c A Q ls H locs S hP hK hD hS hA hl hret
  obtain ⟨hx, hb, hml, hown, hts⟩ := id S
  have hin1 : ∀ w ∈ u_ws RX1 TX1 19, w ∈ wsM_add := fun _ h => List.mem_cons_of_mem _ (List.mem_append_right _ h)
  have lkf59 := hts (.fieldLink RX1 59 "BlockTapeModel" "used" "I") (by decide +kernel)
  have lkf40 := hts (.fieldLink RX1 40 "BlockTapeModel" "first" "[I") (by decide +kernel)
  have lkf56 := hts (.fieldLink RX1 56 "BlockTapeModel" "written" "I") (by decide +kernel)
  have lkf34 := hts (.fieldLink RX1 34 "BlockTapeModel" "data" "[I") (by decide +kernel)
  have lkf43 := hts (.fieldLink RX1 43 "BlockTapeModel" "spoilt" "[I") (by decide +kernel)
  have hl : lv_has ls 3 [(0, .ref g), (1, .int v), (2, .int (nI 1))] := hl
  refine lv_aload_n hx hb dM_add_0 rfl (lv_at hl 0 rfl) ?_
  refine va_get (D := (dC, dI)) (ci := 1) (v := .int (nI (np % 56))) (C := RX1) (T := TX1) (N := 19) hx hb hts hin1 hown hK hP 0 rfl rfl 13 (by decide) lkf59 (fun _ h9 => h9) rfl dM_add_1 ?_
  refine lv_if_ne (tgt := 29) hx hb dM_add_4 (by decide) (fun c_4 => ?_) (fun c_4 => ?_)
  · have c_4 := kmt (kn_eq0 (by omega)).mpr c_4
    have hP : va_P (dC, dI) vwCl (wM g m1 m2 m3 m4 m5 m6 m7 m8 m9 m10 m11 m12 m13 ci mt tl rc kp ms mi ml mb mf mo my (np / 56) (np % 56) md mu (aG fi np) (aS sp np) sq) H := by rw [aS, if_neg c_4, aG, if_neg c_4]; exact hP
    have hD : va_D A (wM g m1 m2 m3 m4 m5 m6 m7 m8 m9 m10 m11 m12 m13 ci mt tl rc kp ms mi ml mb mf mo my (np / 56) (np % 56) md mu (aG fi np) (aS sp np) sq) := by rw [aS, if_neg c_4, aG, if_neg c_4]; exact hD
    have hag := aG_lt hfi
    refine lv_iload_n hx hb dM_add_29 rfl (lv_at hl 2 rfl) ?_
    refine lv_if_eq (tgt := 61) hx hb dM_add_30 (by decide) (fun c_30 => ?_) (fun c_30 => ?_)
    · have c_30 := (kn_eq0 (by omega)).mp c_30
      exact absurd c_30 (by decide)
    · have c_30 := kmt (kn_eq0 (by omega)).mpr c_30
      refine lv_aload_n hx hb dM_add_33 rfl (lv_at hl 0 rfl) ?_
      refine va_get (D := (dC, dI)) (ci := 1) (v := .ref m11) (C := RX1) (T := TX1) (N := 19) hx hb hts hin1 hown hK hP 0 rfl rfl 16 (by decide) lkf40 (fun _ h9 => h9) rfl dM_add_34 ?_
      refine lv_aload_n hx hb dM_add_37 rfl (lv_at hl 0 rfl) ?_
      refine va_get (D := (dC, dI)) (ci := 1) (v := .int (nI (np / 56))) (C := RX1) (T := TX1) (N := 19) hx hb hts hin1 hown hK hP 0 rfl rfl 12 (by decide) lkf56 (fun _ h9 => h9) rfl dM_add_38 ?_
      refine ka_ialdN hx hb hK hP 11 0 rfl rfl (k := np / 56) (by omega) (by decide) dM_add_41 ?_
      refine lv_sipush (v := nI 255) hx hb dM_add_42 (by decide) ?_
      refine lv_icmp_ne (tgt := 61) hx hb dM_add_45 (by decide) (fun c_45 => ?_) (fun c_45 => ?_)
      · have c_45 := kmt (nI_eq (by omega) (by omega)).mpr c_45
        have hP : va_P (dC, dI) vwCl (wM g m1 m2 m3 m4 m5 m6 m7 m8 m9 m10 m11 m12 m13 ci mt tl rc kp ms mi ml mb mf mo my (np / 56) (np % 56) md mu (aF fi np) (aS sp np) sq) H := by rw [aF, if_neg c_45]; exact hP
        have hD : va_D A (wM g m1 m2 m3 m4 m5 m6 m7 m8 m9 m10 m11 m12 m13 ci mt tl rc kp ms mi ml mb mf mo my (np / 56) (np % 56) md mu (aF fi np) (aS sp np) sq) := by rw [aF, if_neg c_45]; exact hD
        refine lv_aload_n hx hb dM_add_61 rfl (lv_at hl 0 rfl) ?_
        refine va_get (D := (dC, dI)) (ci := 1) (v := .ref m9) (C := RX1) (T := TX1) (N := 19) hx hb hts hin1 hown hK hP 0 rfl rfl 14 (by decide) lkf34 (fun _ h9 => h9) rfl dM_add_62 ?_
        refine lv_bipush (v := nI 56) hx hb dM_add_65 (by decide) ?_
        refine lv_aload_n hx hb dM_add_67 rfl (lv_at hl 0 rfl) ?_
        refine va_get (D := (dC, dI)) (ci := 1) (v := .int (nI (np / 56))) (C := RX1) (T := TX1) (N := 19) hx hb hts hin1 hown hK hP 0 rfl rfl 12 (by decide) lkf56 (fun _ h9 => h9) rfl dM_add_68 ?_
        refine lv_imul hx hb dM_add_71 ?_
        refine kv_top (show _ = nI (56 * (np / 56)) from pk_mul _ _) ?_
        refine lv_aload_n hx hb dM_add_72 rfl (lv_at hl 0 rfl) ?_
        refine va_get (D := (dC, dI)) (ci := 1) (v := .int (nI (np % 56))) (C := RX1) (T := TX1) (N := 19) hx hb hts hin1 hown hK hP 0 rfl rfl 13 (by decide) lkf59 (fun _ h9 => h9) rfl dM_add_73 ?_
        refine lv_iadd hx hb dM_add_76 ?_
        refine kv_top (show _ = nI ((56 * (np / 56)) + (np % 56)) from nI_add _ _) ?_
        refine kv_top (show _ = nI np from (by rw [show (56 * (np / 56)) + (np % 56) = np by omega])) ?_
        refine lv_iload_n hx hb dM_add_77 rfl (lv_at hl 1 rfl) ?_
        refine lv_sipush (v := nI 255) hx hb dM_add_78 (by decide) ?_
        refine lv_iand hx hb dM_add_81 ?_
        refine kv_top (show _ = nI (lb v) from and255 v) ?_
        refine ka_iastN hx hb hK hP hD hS 9 0 rfl rfl (k := np) (x := lb v) (by omega) (by decide) dM_add_82 (fun H locs hP hD hS => ?_)
        have hP : va_P (dC, dI) vwCl (wM g m1 m2 m3 m4 m5 m6 m7 m8 m9 m10 m11 m12 m13 ci mt tl rc kp ms mi ml mb mf mo my (np / 56) (np % 56) (updN md np (lb v)) mu (aF fi np) (aS sp np) sq) H := hP
        have hD : va_D A (wM g m1 m2 m3 m4 m5 m6 m7 m8 m9 m10 m11 m12 m13 ci mt tl rc kp ms mi ml mb mf mo my (np / 56) (np % 56) (updN md np (lb v)) mu (aF fi np) (aS sp np) sq) := hD
        refine lv_aload_n hx hb dM_add_83 rfl (lv_at hl 0 rfl) ?_
        refine lv_dup hx hb dM_add_84 rfl ?_
        refine va_get (D := (dC, dI)) (ci := 1) (v := .int (nI (np % 56))) (C := RX1) (T := TX1) (N := 19) hx hb hts hin1 hown hK hP 0 rfl rfl 13 (by decide) lkf59 (fun _ h9 => h9) rfl dM_add_85 ?_
        refine lv_iconst (v := nI 1) hx hb dM_add_88 (by decide) ?_
        refine lv_iadd hx hb dM_add_89 ?_
        refine kv_top (show _ = nI ((np % 56) + 1) from nI_add _ _) ?_
        refine va_put (D := (dC, dI)) (ci := 1) (v := .int (nI ((np % 56) + 1))) (ty := .int) (C := RX1) (T := TX1) (N := 19) hx hb hts hin1 tyX1 tyX1_ok nmX1 hown hK hP hD hS 0 rfl rfl 13 (by decide) lkf59 (fun _ h9 => h9) rfl (by decide +kernel) rfl rfl (Nat.le_of_ble_eq_true rfl) dM_add_90 (fun H locs hP hD hS => ?_)
        have hP : va_P (dC, dI) vwCl (wM g m1 m2 m3 m4 m5 m6 m7 m8 m9 m10 m11 m12 m13 ci mt tl rc kp ms mi ml mb mf mo my (np / 56) ((np % 56) + 1) (updN md np (lb v)) mu (aF fi np) (aS sp np) sq) H := hP
        have hD : va_D A (wM g m1 m2 m3 m4 m5 m6 m7 m8 m9 m10 m11 m12 m13 ci mt tl rc kp ms mi ml mb mf mo my (np / 56) ((np % 56) + 1) (updN md np (lb v)) mu (aF fi np) (aS sp np) sq) := hD
        refine lv_aload_n hx hb dM_add_93 rfl (lv_at hl 0 rfl) ?_
        refine va_get (D := (dC, dI)) (ci := 1) (v := .int (nI ((np % 56) + 1))) (C := RX1) (T := TX1) (N := 19) hx hb hts hin1 hown hK hP 0 rfl rfl 13 (by decide) lkf59 (fun _ h9 => h9) rfl dM_add_94 ?_
        refine lv_bipush (v := nI 56) hx hb dM_add_97 (by decide) ?_
        refine lv_icmp_ne (tgt := 106) hx hb dM_add_99 (by decide) (fun c_99 => ?_) (fun c_99 => ?_)
        · have c_99 := kmt (nI_eq (by omega) (by omega)).mpr c_99
          have hP : va_P (dC, dI) vwCl (wM g m1 m2 m3 m4 m5 m6 m7 m8 m9 m10 m11 m12 m13 ci mt tl rc kp ms mi ml mb mf mo my ((np + 1) / 56) ((np + 1) % 56) (updN md np (lb v)) (aU mu np) (aF fi np) (aS sp np) sq) H := by rw [aU, if_neg (show ¬ np % 56 + 1 = 56 by omega), show (np + 1) / 56 = np / 56 by omega, show (np + 1) % 56 = (np % 56) + 1 by omega]; exact hP
          have hD : va_D A (wM g m1 m2 m3 m4 m5 m6 m7 m8 m9 m10 m11 m12 m13 ci mt tl rc kp ms mi ml mb mf mo my ((np + 1) / 56) ((np + 1) % 56) (updN md np (lb v)) (aU mu np) (aF fi np) (aS sp np) sq) := by rw [aU, if_neg (show ¬ np % 56 + 1 = 56 by omega), show (np + 1) / 56 = np / 56 by omega, show (np + 1) % 56 = (np % 56) + 1 by omega]; exact hD
          exact hret _ _ _ _ hP hD hS dM_add_106
        · have c_99 := (nI_eq (by omega) (by omega)).mp c_99
          refine lv_aload_n hx hb dM_add_102 rfl (lv_at hl 0 rfl) ?_
          refine kc_vv (WR := []) (As := []) (rest := []) ⟨hx, hb, hml, hown, hts⟩ (r_write l dC dI g m1 m2 m3 m4 m5 m6 m7 m8 m9 m10 m11 m12 m13 ci mt tl rc kp ms mi ml mb mf mo my (np / 56) ((np % 56) + 1) (updN md np (lb v)) mu (aF fi np) (aS sp np) sq H.size (by omega)) (cwV 0 hts gM_add_M_write rfl rfl rfl (by decide +kernel) ⟨Nat.le_of_ble_eq_true rfl, Nat.le_of_ble_eq_true rfl⟩) hK hP hD hS hA [0, 1, 2, 3, 4, 5, 6, 7, 8, 9, 10, 11, 12, 13] [] [0] rfl rfl (by decide) (by decide) (by decide) rfl 0 1 rfl rfl rfl rfl hl.1 rfl (Nat.le_of_ble_eq_true rfl) dM_add_103 ⟨Nat.zero_le _, Nat.zero_le _⟩ (fun H locs hP hD hS => ?_)
          have hP : va_P (dC, dI) vwCl (wM g m1 m2 m3 m4 m5 m6 m7 m8 m9 m10 m11 m12 m13 ci mt tl rc kp ms mi ml mb mf mo my ((np / 56) + 1) 0 (updN md np (lb v)) (updN mu (np / 56) ((np % 56) + 1)) (aF fi np) (aS sp np) sq) H := hP
          have hD : va_D A (wM g m1 m2 m3 m4 m5 m6 m7 m8 m9 m10 m11 m12 m13 ci mt tl rc kp ms mi ml mb mf mo my ((np / 56) + 1) 0 (updN md np (lb v)) (updN mu (np / 56) ((np % 56) + 1)) (aF fi np) (aS sp np) sq) := hD
          have hP : va_P (dC, dI) vwCl (wM g m1 m2 m3 m4 m5 m6 m7 m8 m9 m10 m11 m12 m13 ci mt tl rc kp ms mi ml mb mf mo my ((np + 1) / 56) ((np + 1) % 56) (updN md np (lb v)) (aU mu np) (aF fi np) (aS sp np) sq) H := by rw [aU, if_pos (show np % 56 + 1 = 56 by omega), show (np + 1) / 56 = (np / 56) + 1 by omega, show (np + 1) % 56 = 0 by omega]; exact hP
          have hD : va_D A (wM g m1 m2 m3 m4 m5 m6 m7 m8 m9 m10 m11 m12 m13 ci mt tl rc kp ms mi ml mb mf mo my ((np + 1) / 56) ((np + 1) % 56) (updN md np (lb v)) (aU mu np) (aF fi np) (aS sp np) sq) := by rw [aU, if_pos (show np % 56 + 1 = 56 by omega), show (np + 1) / 56 = (np / 56) + 1 by omega, show (np + 1) % 56 = 0 by omega]; exact hD
          exact hret _ _ _ _ hP hD hS dM_add_106
      · have c_45 := (nI_eq (by omega) (by omega)).mp c_45
        refine lv_aload_n hx hb dM_add_48 rfl (lv_at hl 0 rfl) ?_
        refine va_get (D := (dC, dI)) (ci := 1) (v := .ref m11) (C := RX1) (T := TX1) (N := 19) hx hb hts hin1 hown hK hP 0 rfl rfl 16 (by decide) lkf40 (fun _ h9 => h9) rfl dM_add_49 ?_
        refine lv_aload_n hx hb dM_add_52 rfl (lv_at hl 0 rfl) ?_
        refine va_get (D := (dC, dI)) (ci := 1) (v := .int (nI (np / 56))) (C := RX1) (T := TX1) (N := 19) hx hb hts hin1 hown hK hP 0 rfl rfl 12 (by decide) lkf56 (fun _ h9 => h9) rfl dM_add_53 ?_
        refine lv_aload_n hx hb dM_add_56 rfl (lv_at hl 0 rfl) ?_
        refine va_get (D := (dC, dI)) (ci := 1) (v := .int (nI (np % 56))) (C := RX1) (T := TX1) (N := 19) hx hb hts hin1 hown hK hP 0 rfl rfl 13 (by decide) lkf59 (fun _ h9 => h9) rfl dM_add_57 ?_
        refine ka_iastN hx hb hK hP hD hS 11 0 rfl rfl (k := np / 56) (x := np % 56) (by omega) (by decide) dM_add_60 (fun H locs hP hD hS => ?_)
        have hP : va_P (dC, dI) vwCl (wM g m1 m2 m3 m4 m5 m6 m7 m8 m9 m10 m11 m12 m13 ci mt tl rc kp ms mi ml mb mf mo my (np / 56) (np % 56) md mu (updN (aG fi np) (np / 56) (np % 56)) (aS sp np) sq) H := hP
        have hD : va_D A (wM g m1 m2 m3 m4 m5 m6 m7 m8 m9 m10 m11 m12 m13 ci mt tl rc kp ms mi ml mb mf mo my (np / 56) (np % 56) md mu (updN (aG fi np) (np / 56) (np % 56)) (aS sp np) sq) := hD
        have hP : va_P (dC, dI) vwCl (wM g m1 m2 m3 m4 m5 m6 m7 m8 m9 m10 m11 m12 m13 ci mt tl rc kp ms mi ml mb mf mo my (np / 56) (np % 56) md mu (aF fi np) (aS sp np) sq) H := by rw [aF, if_pos c_45]; exact hP
        have hD : va_D A (wM g m1 m2 m3 m4 m5 m6 m7 m8 m9 m10 m11 m12 m13 ci mt tl rc kp ms mi ml mb mf mo my (np / 56) (np % 56) md mu (aF fi np) (aS sp np) sq) := by rw [aF, if_pos c_45]; exact hD
        refine lv_aload_n hx hb dM_add_61 rfl (lv_at hl 0 rfl) ?_
        refine va_get (D := (dC, dI)) (ci := 1) (v := .ref m9) (C := RX1) (T := TX1) (N := 19) hx hb hts hin1 hown hK hP 0 rfl rfl 14 (by decide) lkf34 (fun _ h9 => h9) rfl dM_add_62 ?_
        refine lv_bipush (v := nI 56) hx hb dM_add_65 (by decide) ?_
        refine lv_aload_n hx hb dM_add_67 rfl (lv_at hl 0 rfl) ?_
        refine va_get (D := (dC, dI)) (ci := 1) (v := .int (nI (np / 56))) (C := RX1) (T := TX1) (N := 19) hx hb hts hin1 hown hK hP 0 rfl rfl 12 (by decide) lkf56 (fun _ h9 => h9) rfl dM_add_68 ?_
        refine lv_imul hx hb dM_add_71 ?_
        refine kv_top (show _ = nI (56 * (np / 56)) from pk_mul _ _) ?_
        refine lv_aload_n hx hb dM_add_72 rfl (lv_at hl 0 rfl) ?_
        refine va_get (D := (dC, dI)) (ci := 1) (v := .int (nI (np % 56))) (C := RX1) (T := TX1) (N := 19) hx hb hts hin1 hown hK hP 0 rfl rfl 13 (by decide) lkf59 (fun _ h9 => h9) rfl dM_add_73 ?_
        refine lv_iadd hx hb dM_add_76 ?_
        refine kv_top (show _ = nI ((56 * (np / 56)) + (np % 56)) from nI_add _ _) ?_
        refine kv_top (show _ = nI np from (by rw [show (56 * (np / 56)) + (np % 56) = np by omega])) ?_
        refine lv_iload_n hx hb dM_add_77 rfl (lv_at hl 1 rfl) ?_
        refine lv_sipush (v := nI 255) hx hb dM_add_78 (by decide) ?_
        refine lv_iand hx hb dM_add_81 ?_
        refine kv_top (show _ = nI (lb v) from and255 v) ?_
        refine ka_iastN hx hb hK hP hD hS 9 0 rfl rfl (k := np) (x := lb v) (by omega) (by decide) dM_add_82 (fun H locs hP hD hS => ?_)
        have hP : va_P (dC, dI) vwCl (wM g m1 m2 m3 m4 m5 m6 m7 m8 m9 m10 m11 m12 m13 ci mt tl rc kp ms mi ml mb mf mo my (np / 56) (np % 56) (updN md np (lb v)) mu (aF fi np) (aS sp np) sq) H := hP
        have hD : va_D A (wM g m1 m2 m3 m4 m5 m6 m7 m8 m9 m10 m11 m12 m13 ci mt tl rc kp ms mi ml mb mf mo my (np / 56) (np % 56) (updN md np (lb v)) mu (aF fi np) (aS sp np) sq) := hD
        refine lv_aload_n hx hb dM_add_83 rfl (lv_at hl 0 rfl) ?_
        refine lv_dup hx hb dM_add_84 rfl ?_
        refine va_get (D := (dC, dI)) (ci := 1) (v := .int (nI (np % 56))) (C := RX1) (T := TX1) (N := 19) hx hb hts hin1 hown hK hP 0 rfl rfl 13 (by decide) lkf59 (fun _ h9 => h9) rfl dM_add_85 ?_
        refine lv_iconst (v := nI 1) hx hb dM_add_88 (by decide) ?_
        refine lv_iadd hx hb dM_add_89 ?_
        refine kv_top (show _ = nI ((np % 56) + 1) from nI_add _ _) ?_
        refine va_put (D := (dC, dI)) (ci := 1) (v := .int (nI ((np % 56) + 1))) (ty := .int) (C := RX1) (T := TX1) (N := 19) hx hb hts hin1 tyX1 tyX1_ok nmX1 hown hK hP hD hS 0 rfl rfl 13 (by decide) lkf59 (fun _ h9 => h9) rfl (by decide +kernel) rfl rfl (Nat.le_of_ble_eq_true rfl) dM_add_90 (fun H locs hP hD hS => ?_)
        have hP : va_P (dC, dI) vwCl (wM g m1 m2 m3 m4 m5 m6 m7 m8 m9 m10 m11 m12 m13 ci mt tl rc kp ms mi ml mb mf mo my (np / 56) ((np % 56) + 1) (updN md np (lb v)) mu (aF fi np) (aS sp np) sq) H := hP
        have hD : va_D A (wM g m1 m2 m3 m4 m5 m6 m7 m8 m9 m10 m11 m12 m13 ci mt tl rc kp ms mi ml mb mf mo my (np / 56) ((np % 56) + 1) (updN md np (lb v)) mu (aF fi np) (aS sp np) sq) := hD
        refine lv_aload_n hx hb dM_add_93 rfl (lv_at hl 0 rfl) ?_
        refine va_get (D := (dC, dI)) (ci := 1) (v := .int (nI ((np % 56) + 1))) (C := RX1) (T := TX1) (N := 19) hx hb hts hin1 hown hK hP 0 rfl rfl 13 (by decide) lkf59 (fun _ h9 => h9) rfl dM_add_94 ?_
        refine lv_bipush (v := nI 56) hx hb dM_add_97 (by decide) ?_
        refine lv_icmp_ne (tgt := 106) hx hb dM_add_99 (by decide) (fun c_99 => ?_) (fun c_99 => ?_)
        · have c_99 := kmt (nI_eq (by omega) (by omega)).mpr c_99
          have hP : va_P (dC, dI) vwCl (wM g m1 m2 m3 m4 m5 m6 m7 m8 m9 m10 m11 m12 m13 ci mt tl rc kp ms mi ml mb mf mo my ((np + 1) / 56) ((np + 1) % 56) (updN md np (lb v)) (aU mu np) (aF fi np) (aS sp np) sq) H := by rw [aU, if_neg (show ¬ np % 56 + 1 = 56 by omega), show (np + 1) / 56 = np / 56 by omega, show (np + 1) % 56 = (np % 56) + 1 by omega]; exact hP
          have hD : va_D A (wM g m1 m2 m3 m4 m5 m6 m7 m8 m9 m10 m11 m12 m13 ci mt tl rc kp ms mi ml mb mf mo my ((np + 1) / 56) ((np + 1) % 56) (updN md np (lb v)) (aU mu np) (aF fi np) (aS sp np) sq) := by rw [aU, if_neg (show ¬ np % 56 + 1 = 56 by omega), show (np + 1) / 56 = np / 56 by omega, show (np + 1) % 56 = (np % 56) + 1 by omega]; exact hD
          exact hret _ _ _ _ hP hD hS dM_add_106
        · have c_99 := (nI_eq (by omega) (by omega)).mp c_99
          refine lv_aload_n hx hb dM_add_102 rfl (lv_at hl 0 rfl) ?_
          refine kc_vv (WR := []) (As := []) (rest := []) ⟨hx, hb, hml, hown, hts⟩ (r_write l dC dI g m1 m2 m3 m4 m5 m6 m7 m8 m9 m10 m11 m12 m13 ci mt tl rc kp ms mi ml mb mf mo my (np / 56) ((np % 56) + 1) (updN md np (lb v)) mu (aF fi np) (aS sp np) sq H.size (by omega)) (cwV 0 hts gM_add_M_write rfl rfl rfl (by decide +kernel) ⟨Nat.le_of_ble_eq_true rfl, Nat.le_of_ble_eq_true rfl⟩) hK hP hD hS hA [0, 1, 2, 3, 4, 5, 6, 7, 8, 9, 10, 11, 12, 13] [] [0] rfl rfl (by decide) (by decide) (by decide) rfl 0 1 rfl rfl rfl rfl hl.1 rfl (Nat.le_of_ble_eq_true rfl) dM_add_103 ⟨Nat.zero_le _, Nat.zero_le _⟩ (fun H locs hP hD hS => ?_)
          have hP : va_P (dC, dI) vwCl (wM g m1 m2 m3 m4 m5 m6 m7 m8 m9 m10 m11 m12 m13 ci mt tl rc kp ms mi ml mb mf mo my ((np / 56) + 1) 0 (updN md np (lb v)) (updN mu (np / 56) ((np % 56) + 1)) (aF fi np) (aS sp np) sq) H := hP
          have hD : va_D A (wM g m1 m2 m3 m4 m5 m6 m7 m8 m9 m10 m11 m12 m13 ci mt tl rc kp ms mi ml mb mf mo my ((np / 56) + 1) 0 (updN md np (lb v)) (updN mu (np / 56) ((np % 56) + 1)) (aF fi np) (aS sp np) sq) := hD
          have hP : va_P (dC, dI) vwCl (wM g m1 m2 m3 m4 m5 m6 m7 m8 m9 m10 m11 m12 m13 ci mt tl rc kp ms mi ml mb mf mo my ((np + 1) / 56) ((np + 1) % 56) (updN md np (lb v)) (aU mu np) (aF fi np) (aS sp np) sq) H := by rw [aU, if_pos (show np % 56 + 1 = 56 by omega), show (np + 1) / 56 = (np / 56) + 1 by omega, show (np + 1) % 56 = 0 by omega]; exact hP
          have hD : va_D A (wM g m1 m2 m3 m4 m5 m6 m7 m8 m9 m10 m11 m12 m13 ci mt tl rc kp ms mi ml mb mf mo my ((np + 1) / 56) ((np + 1) % 56) (updN md np (lb v)) (aU mu np) (aF fi np) (aS sp np) sq) := by rw [aU, if_pos (show np % 56 + 1 = 56 by omega), show (np + 1) / 56 = (np / 56) + 1 by omega, show (np + 1) % 56 = 0 by omega]; exact hD
          exact hret _ _ _ _ hP hD hS dM_add_106
  · have c_4 := (kn_eq0 (by omega)).mp c_4
    refine lv_aload_n hx hb dM_add_7 rfl (lv_at hl 0 rfl) ?_
    refine va_get (D := (dC, dI)) (ci := 1) (v := .ref m11) (C := RX1) (T := TX1) (N := 19) hx hb hts hin1 hown hK hP 0 rfl rfl 16 (by decide) lkf40 (fun _ h9 => h9) rfl dM_add_8 ?_
    refine lv_aload_n hx hb dM_add_11 rfl (lv_at hl 0 rfl) ?_
    refine va_get (D := (dC, dI)) (ci := 1) (v := .int (nI (np / 56))) (C := RX1) (T := TX1) (N := 19) hx hb hts hin1 hown hK hP 0 rfl rfl 12 (by decide) lkf56 (fun _ h9 => h9) rfl dM_add_12 ?_
    refine lv_sipush (v := nI 255) hx hb dM_add_15 (by decide) ?_
    refine ka_iastN hx hb hK hP hD hS 11 0 rfl rfl (k := np / 56) (x := 255) (by omega) (by decide) dM_add_18 (fun H locs hP hD hS => ?_)
    have hP : va_P (dC, dI) vwCl (wM g m1 m2 m3 m4 m5 m6 m7 m8 m9 m10 m11 m12 m13 ci mt tl rc kp ms mi ml mb mf mo my (np / 56) (np % 56) md mu (updN fi (np / 56) 255) sp sq) H := hP
    have hD : va_D A (wM g m1 m2 m3 m4 m5 m6 m7 m8 m9 m10 m11 m12 m13 ci mt tl rc kp ms mi ml mb mf mo my (np / 56) (np % 56) md mu (updN fi (np / 56) 255) sp sq) := hD
    refine lv_aload_n hx hb dM_add_19 rfl (lv_at hl 0 rfl) ?_
    refine va_get (D := (dC, dI)) (ci := 1) (v := .ref m12) (C := RX1) (T := TX1) (N := 19) hx hb hts hin1 hown hK hP 0 rfl rfl 17 (by decide) lkf43 (fun _ h9 => h9) rfl dM_add_20 ?_
    refine lv_aload_n hx hb dM_add_23 rfl (lv_at hl 0 rfl) ?_
    refine va_get (D := (dC, dI)) (ci := 1) (v := .int (nI (np / 56))) (C := RX1) (T := TX1) (N := 19) hx hb hts hin1 hown hK hP 0 rfl rfl 12 (by decide) lkf56 (fun _ h9 => h9) rfl dM_add_24 ?_
    refine lv_iconst (v := (-1)) hx hb dM_add_27 (by decide) ?_
    refine ka_iast hx hb hK hP hD hS 12 0 rfl rfl (k := np / 56) (x := (-1)) (by omega) (by decide) dM_add_28 (fun H locs hP hD hS => ?_)
    have hP : va_P (dC, dI) vwCl (wM g m1 m2 m3 m4 m5 m6 m7 m8 m9 m10 m11 m12 m13 ci mt tl rc kp ms mi ml mb mf mo my (np / 56) (np % 56) md mu (updN fi (np / 56) 255) (upd sp (np / 56) ((-1))) sq) H := hP
    have hD : va_D A (wM g m1 m2 m3 m4 m5 m6 m7 m8 m9 m10 m11 m12 m13 ci mt tl rc kp ms mi ml mb mf mo my (np / 56) (np % 56) md mu (updN fi (np / 56) 255) (upd sp (np / 56) ((-1))) sq) := hD
    have hP : va_P (dC, dI) vwCl (wM g m1 m2 m3 m4 m5 m6 m7 m8 m9 m10 m11 m12 m13 ci mt tl rc kp ms mi ml mb mf mo my (np / 56) (np % 56) md mu (aG fi np) (aS sp np) sq) H := by rw [aS, if_pos c_4, aG, if_pos c_4]; exact hP
    have hD : va_D A (wM g m1 m2 m3 m4 m5 m6 m7 m8 m9 m10 m11 m12 m13 ci mt tl rc kp ms mi ml mb mf mo my (np / 56) (np % 56) md mu (aG fi np) (aS sp np) sq) := by rw [aS, if_pos c_4, aG, if_pos c_4]; exact hD
    have hag := aG_lt hfi
    refine lv_iload_n hx hb dM_add_29 rfl (lv_at hl 2 rfl) ?_
    refine lv_if_eq (tgt := 61) hx hb dM_add_30 (by decide) (fun c_30 => ?_) (fun c_30 => ?_)
    · have c_30 := (kn_eq0 (by omega)).mp c_30
      exact absurd c_30 (by decide)
    · have c_30 := kmt (kn_eq0 (by omega)).mpr c_30
      refine lv_aload_n hx hb dM_add_33 rfl (lv_at hl 0 rfl) ?_
      refine va_get (D := (dC, dI)) (ci := 1) (v := .ref m11) (C := RX1) (T := TX1) (N := 19) hx hb hts hin1 hown hK hP 0 rfl rfl 16 (by decide) lkf40 (fun _ h9 => h9) rfl dM_add_34 ?_
      refine lv_aload_n hx hb dM_add_37 rfl (lv_at hl 0 rfl) ?_
      refine va_get (D := (dC, dI)) (ci := 1) (v := .int (nI (np / 56))) (C := RX1) (T := TX1) (N := 19) hx hb hts hin1 hown hK hP 0 rfl rfl 12 (by decide) lkf56 (fun _ h9 => h9) rfl dM_add_38 ?_
      refine ka_ialdN hx hb hK hP 11 0 rfl rfl (k := np / 56) (by omega) (by decide) dM_add_41 ?_
      refine lv_sipush (v := nI 255) hx hb dM_add_42 (by decide) ?_
      refine lv_icmp_ne (tgt := 61) hx hb dM_add_45 (by decide) (fun c_45 => ?_) (fun c_45 => ?_)
      · have c_45 := kmt (nI_eq (by omega) (by omega)).mpr c_45
        have hP : va_P (dC, dI) vwCl (wM g m1 m2 m3 m4 m5 m6 m7 m8 m9 m10 m11 m12 m13 ci mt tl rc kp ms mi ml mb mf mo my (np / 56) (np % 56) md mu (aF fi np) (aS sp np) sq) H := by rw [aF, if_neg c_45]; exact hP
        have hD : va_D A (wM g m1 m2 m3 m4 m5 m6 m7 m8 m9 m10 m11 m12 m13 ci mt tl rc kp ms mi ml mb mf mo my (np / 56) (np % 56) md mu (aF fi np) (aS sp np) sq) := by rw [aF, if_neg c_45]; exact hD
        refine lv_aload_n hx hb dM_add_61 rfl (lv_at hl 0 rfl) ?_
        refine va_get (D := (dC, dI)) (ci := 1) (v := .ref m9) (C := RX1) (T := TX1) (N := 19) hx hb hts hin1 hown hK hP 0 rfl rfl 14 (by decide) lkf34 (fun _ h9 => h9) rfl dM_add_62 ?_
        refine lv_bipush (v := nI 56) hx hb dM_add_65 (by decide) ?_
        refine lv_aload_n hx hb dM_add_67 rfl (lv_at hl 0 rfl) ?_
        refine va_get (D := (dC, dI)) (ci := 1) (v := .int (nI (np / 56))) (C := RX1) (T := TX1) (N := 19) hx hb hts hin1 hown hK hP 0 rfl rfl 12 (by decide) lkf56 (fun _ h9 => h9) rfl dM_add_68 ?_
        refine lv_imul hx hb dM_add_71 ?_
        refine kv_top (show _ = nI (56 * (np / 56)) from pk_mul _ _) ?_
        refine lv_aload_n hx hb dM_add_72 rfl (lv_at hl 0 rfl) ?_
        refine va_get (D := (dC, dI)) (ci := 1) (v := .int (nI (np % 56))) (C := RX1) (T := TX1) (N := 19) hx hb hts hin1 hown hK hP 0 rfl rfl 13 (by decide) lkf59 (fun _ h9 => h9) rfl dM_add_73 ?_
        refine lv_iadd hx hb dM_add_76 ?_
        refine kv_top (show _ = nI ((56 * (np / 56)) + (np % 56)) from nI_add _ _) ?_
        refine kv_top (show _ = nI np from (by rw [show (56 * (np / 56)) + (np % 56) = np by omega])) ?_
        refine lv_iload_n hx hb dM_add_77 rfl (lv_at hl 1 rfl) ?_
        refine lv_sipush (v := nI 255) hx hb dM_add_78 (by decide) ?_
        refine lv_iand hx hb dM_add_81 ?_
        refine kv_top (show _ = nI (lb v) from and255 v) ?_
        refine ka_iastN hx hb hK hP hD hS 9 0 rfl rfl (k := np) (x := lb v) (by omega) (by decide) dM_add_82 (fun H locs hP hD hS => ?_)
        have hP : va_P (dC, dI) vwCl (wM g m1 m2 m3 m4 m5 m6 m7 m8 m9 m10 m11 m12 m13 ci mt tl rc kp ms mi ml mb mf mo my (np / 56) (np % 56) (updN md np (lb v)) mu (aF fi np) (aS sp np) sq) H := hP
        have hD : va_D A (wM g m1 m2 m3 m4 m5 m6 m7 m8 m9 m10 m11 m12 m13 ci mt tl rc kp ms mi ml mb mf mo my (np / 56) (np % 56) (updN md np (lb v)) mu (aF fi np) (aS sp np) sq) := hD
        refine lv_aload_n hx hb dM_add_83 rfl (lv_at hl 0 rfl) ?_
        refine lv_dup hx hb dM_add_84 rfl ?_
        refine va_get (D := (dC, dI)) (ci := 1) (v := .int (nI (np % 56))) (C := RX1) (T := TX1) (N := 19) hx hb hts hin1 hown hK hP 0 rfl rfl 13 (by decide) lkf59 (fun _ h9 => h9) rfl dM_add_85 ?_
        refine lv_iconst (v := nI 1) hx hb dM_add_88 (by decide) ?_
        refine lv_iadd hx hb dM_add_89 ?_
        refine kv_top (show _ = nI ((np % 56) + 1) from nI_add _ _) ?_
        refine va_put (D := (dC, dI)) (ci := 1) (v := .int (nI ((np % 56) + 1))) (ty := .int) (C := RX1) (T := TX1) (N := 19) hx hb hts hin1 tyX1 tyX1_ok nmX1 hown hK hP hD hS 0 rfl rfl 13 (by decide) lkf59 (fun _ h9 => h9) rfl (by decide +kernel) rfl rfl (Nat.le_of_ble_eq_true rfl) dM_add_90 (fun H locs hP hD hS => ?_)
        have hP : va_P (dC, dI) vwCl (wM g m1 m2 m3 m4 m5 m6 m7 m8 m9 m10 m11 m12 m13 ci mt tl rc kp ms mi ml mb mf mo my (np / 56) ((np % 56) + 1) (updN md np (lb v)) mu (aF fi np) (aS sp np) sq) H := hP
        have hD : va_D A (wM g m1 m2 m3 m4 m5 m6 m7 m8 m9 m10 m11 m12 m13 ci mt tl rc kp ms mi ml mb mf mo my (np / 56) ((np % 56) + 1) (updN md np (lb v)) mu (aF fi np) (aS sp np) sq) := hD
        refine lv_aload_n hx hb dM_add_93 rfl (lv_at hl 0 rfl) ?_
        refine va_get (D := (dC, dI)) (ci := 1) (v := .int (nI ((np % 56) + 1))) (C := RX1) (T := TX1) (N := 19) hx hb hts hin1 hown hK hP 0 rfl rfl 13 (by decide) lkf59 (fun _ h9 => h9) rfl dM_add_94 ?_
        refine lv_bipush (v := nI 56) hx hb dM_add_97 (by decide) ?_
        refine lv_icmp_ne (tgt := 106) hx hb dM_add_99 (by decide) (fun c_99 => ?_) (fun c_99 => ?_)
        · have c_99 := kmt (nI_eq (by omega) (by omega)).mpr c_99
          have hP : va_P (dC, dI) vwCl (wM g m1 m2 m3 m4 m5 m6 m7 m8 m9 m10 m11 m12 m13 ci mt tl rc kp ms mi ml mb mf mo my ((np + 1) / 56) ((np + 1) % 56) (updN md np (lb v)) (aU mu np) (aF fi np) (aS sp np) sq) H := by rw [aU, if_neg (show ¬ np % 56 + 1 = 56 by omega), show (np + 1) / 56 = np / 56 by omega, show (np + 1) % 56 = (np % 56) + 1 by omega]; exact hP
          have hD : va_D A (wM g m1 m2 m3 m4 m5 m6 m7 m8 m9 m10 m11 m12 m13 ci mt tl rc kp ms mi ml mb mf mo my ((np + 1) / 56) ((np + 1) % 56) (updN md np (lb v)) (aU mu np) (aF fi np) (aS sp np) sq) := by rw [aU, if_neg (show ¬ np % 56 + 1 = 56 by omega), show (np + 1) / 56 = np / 56 by omega, show (np + 1) % 56 = (np % 56) + 1 by omega]; exact hD
          exact hret _ _ _ _ hP hD hS dM_add_106
        · have c_99 := (nI_eq (by omega) (by omega)).mp c_99
          refine lv_aload_n hx hb dM_add_102 rfl (lv_at hl 0 rfl) ?_
          refine kc_vv (WR := []) (As := []) (rest := []) ⟨hx, hb, hml, hown, hts⟩ (r_write l dC dI g m1 m2 m3 m4 m5 m6 m7 m8 m9 m10 m11 m12 m13 ci mt tl rc kp ms mi ml mb mf mo my (np / 56) ((np % 56) + 1) (updN md np (lb v)) mu (aF fi np) (aS sp np) sq H.size (by omega)) (cwV 0 hts gM_add_M_write rfl rfl rfl (by decide +kernel) ⟨Nat.le_of_ble_eq_true rfl, Nat.le_of_ble_eq_true rfl⟩) hK hP hD hS hA [0, 1, 2, 3, 4, 5, 6, 7, 8, 9, 10, 11, 12, 13] [] [0] rfl rfl (by decide) (by decide) (by decide) rfl 0 1 rfl rfl rfl rfl hl.1 rfl (Nat.le_of_ble_eq_true rfl) dM_add_103 ⟨Nat.zero_le _, Nat.zero_le _⟩ (fun H locs hP hD hS => ?_)
          have hP : va_P (dC, dI) vwCl (wM g m1 m2 m3 m4 m5 m6 m7 m8 m9 m10 m11 m12 m13 ci mt tl rc kp ms mi ml mb mf mo my ((np / 56) + 1) 0 (updN md np (lb v)) (updN mu (np / 56) ((np % 56) + 1)) (aF fi np) (aS sp np) sq) H := hP
          have hD : va_D A (wM g m1 m2 m3 m4 m5 m6 m7 m8 m9 m10 m11 m12 m13 ci mt tl rc kp ms mi ml mb mf mo my ((np / 56) + 1) 0 (updN md np (lb v)) (updN mu (np / 56) ((np % 56) + 1)) (aF fi np) (aS sp np) sq) := hD
          have hP : va_P (dC, dI) vwCl (wM g m1 m2 m3 m4 m5 m6 m7 m8 m9 m10 m11 m12 m13 ci mt tl rc kp ms mi ml mb mf mo my ((np + 1) / 56) ((np + 1) % 56) (updN md np (lb v)) (aU mu np) (aF fi np) (aS sp np) sq) H := by rw [aU, if_pos (show np % 56 + 1 = 56 by omega), show (np + 1) / 56 = (np / 56) + 1 by omega, show (np + 1) % 56 = 0 by omega]; exact hP
          have hD : va_D A (wM g m1 m2 m3 m4 m5 m6 m7 m8 m9 m10 m11 m12 m13 ci mt tl rc kp ms mi ml mb mf mo my ((np + 1) / 56) ((np + 1) % 56) (updN md np (lb v)) (aU mu np) (aF fi np) (aS sp np) sq) := by rw [aU, if_pos (show np % 56 + 1 = 56 by omega), show (np + 1) / 56 = (np / 56) + 1 by omega, show (np + 1) % 56 = 0 by omega]; exact hD
          exact hret _ _ _ _ hP hD hS dM_add_106
      · have c_45 := (nI_eq (by omega) (by omega)).mp c_45
        refine lv_aload_n hx hb dM_add_48 rfl (lv_at hl 0 rfl) ?_
        refine va_get (D := (dC, dI)) (ci := 1) (v := .ref m11) (C := RX1) (T := TX1) (N := 19) hx hb hts hin1 hown hK hP 0 rfl rfl 16 (by decide) lkf40 (fun _ h9 => h9) rfl dM_add_49 ?_
        refine lv_aload_n hx hb dM_add_52 rfl (lv_at hl 0 rfl) ?_
        refine va_get (D := (dC, dI)) (ci := 1) (v := .int (nI (np / 56))) (C := RX1) (T := TX1) (N := 19) hx hb hts hin1 hown hK hP 0 rfl rfl 12 (by decide) lkf56 (fun _ h9 => h9) rfl dM_add_53 ?_
        refine lv_aload_n hx hb dM_add_56 rfl (lv_at hl 0 rfl) ?_
        refine va_get (D := (dC, dI)) (ci := 1) (v := .int (nI (np % 56))) (C := RX1) (T := TX1) (N := 19) hx hb hts hin1 hown hK hP 0 rfl rfl 13 (by decide) lkf59 (fun _ h9 => h9) rfl dM_add_57 ?_
        refine ka_iastN hx hb hK hP hD hS 11 0 rfl rfl (k := np / 56) (x := np % 56) (by omega) (by decide) dM_add_60 (fun H locs hP hD hS => ?_)
        have hP : va_P (dC, dI) vwCl (wM g m1 m2 m3 m4 m5 m6 m7 m8 m9 m10 m11 m12 m13 ci mt tl rc kp ms mi ml mb mf mo my (np / 56) (np % 56) md mu (updN (aG fi np) (np / 56) (np % 56)) (aS sp np) sq) H := hP
        have hD : va_D A (wM g m1 m2 m3 m4 m5 m6 m7 m8 m9 m10 m11 m12 m13 ci mt tl rc kp ms mi ml mb mf mo my (np / 56) (np % 56) md mu (updN (aG fi np) (np / 56) (np % 56)) (aS sp np) sq) := hD
        have hP : va_P (dC, dI) vwCl (wM g m1 m2 m3 m4 m5 m6 m7 m8 m9 m10 m11 m12 m13 ci mt tl rc kp ms mi ml mb mf mo my (np / 56) (np % 56) md mu (aF fi np) (aS sp np) sq) H := by rw [aF, if_pos c_45]; exact hP
        have hD : va_D A (wM g m1 m2 m3 m4 m5 m6 m7 m8 m9 m10 m11 m12 m13 ci mt tl rc kp ms mi ml mb mf mo my (np / 56) (np % 56) md mu (aF fi np) (aS sp np) sq) := by rw [aF, if_pos c_45]; exact hD
        refine lv_aload_n hx hb dM_add_61 rfl (lv_at hl 0 rfl) ?_
        refine va_get (D := (dC, dI)) (ci := 1) (v := .ref m9) (C := RX1) (T := TX1) (N := 19) hx hb hts hin1 hown hK hP 0 rfl rfl 14 (by decide) lkf34 (fun _ h9 => h9) rfl dM_add_62 ?_
        refine lv_bipush (v := nI 56) hx hb dM_add_65 (by decide) ?_
        refine lv_aload_n hx hb dM_add_67 rfl (lv_at hl 0 rfl) ?_
        refine va_get (D := (dC, dI)) (ci := 1) (v := .int (nI (np / 56))) (C := RX1) (T := TX1) (N := 19) hx hb hts hin1 hown hK hP 0 rfl rfl 12 (by decide) lkf56 (fun _ h9 => h9) rfl dM_add_68 ?_
        refine lv_imul hx hb dM_add_71 ?_
        refine kv_top (show _ = nI (56 * (np / 56)) from pk_mul _ _) ?_
        refine lv_aload_n hx hb dM_add_72 rfl (lv_at hl 0 rfl) ?_
        refine va_get (D := (dC, dI)) (ci := 1) (v := .int (nI (np % 56))) (C := RX1) (T := TX1) (N := 19) hx hb hts hin1 hown hK hP 0 rfl rfl 13 (by decide) lkf59 (fun _ h9 => h9) rfl dM_add_73 ?_
        refine lv_iadd hx hb dM_add_76 ?_
        refine kv_top (show _ = nI ((56 * (np / 56)) + (np % 56)) from nI_add _ _) ?_
        refine kv_top (show _ = nI np from (by rw [show (56 * (np / 56)) + (np % 56) = np by omega])) ?_
        refine lv_iload_n hx hb dM_add_77 rfl (lv_at hl 1 rfl) ?_
        refine lv_sipush (v := nI 255) hx hb dM_add_78 (by decide) ?_
        refine lv_iand hx hb dM_add_81 ?_
        refine kv_top (show _ = nI (lb v) from and255 v) ?_
        refine ka_iastN hx hb hK hP hD hS 9 0 rfl rfl (k := np) (x := lb v) (by omega) (by decide) dM_add_82 (fun H locs hP hD hS => ?_)
        have hP : va_P (dC, dI) vwCl (wM g m1 m2 m3 m4 m5 m6 m7 m8 m9 m10 m11 m12 m13 ci mt tl rc kp ms mi ml mb mf mo my (np / 56) (np % 56) (updN md np (lb v)) mu (aF fi np) (aS sp np) sq) H := hP
        have hD : va_D A (wM g m1 m2 m3 m4 m5 m6 m7 m8 m9 m10 m11 m12 m13 ci mt tl rc kp ms mi ml mb mf mo my (np / 56) (np % 56) (updN md np (lb v)) mu (aF fi np) (aS sp np) sq) := hD
        refine lv_aload_n hx hb dM_add_83 rfl (lv_at hl 0 rfl) ?_
        refine lv_dup hx hb dM_add_84 rfl ?_
        refine va_get (D := (dC, dI)) (ci := 1) (v := .int (nI (np % 56))) (C := RX1) (T := TX1) (N := 19) hx hb hts hin1 hown hK hP 0 rfl rfl 13 (by decide) lkf59 (fun _ h9 => h9) rfl dM_add_85 ?_
        refine lv_iconst (v := nI 1) hx hb dM_add_88 (by decide) ?_
        refine lv_iadd hx hb dM_add_89 ?_
        refine kv_top (show _ = nI ((np % 56) + 1) from nI_add _ _) ?_
        refine va_put (D := (dC, dI)) (ci := 1) (v := .int (nI ((np % 56) + 1))) (ty := .int) (C := RX1) (T := TX1) (N := 19) hx hb hts hin1 tyX1 tyX1_ok nmX1 hown hK hP hD hS 0 rfl rfl 13 (by decide) lkf59 (fun _ h9 => h9) rfl (by decide +kernel) rfl rfl (Nat.le_of_ble_eq_true rfl) dM_add_90 (fun H locs hP hD hS => ?_)
        have hP : va_P (dC, dI) vwCl (wM g m1 m2 m3 m4 m5 m6 m7 m8 m9 m10 m11 m12 m13 ci mt tl rc kp ms mi ml mb mf mo my (np / 56) ((np % 56) + 1) (updN md np (lb v)) mu (aF fi np) (aS sp np) sq) H := hP
        have hD : va_D A (wM g m1 m2 m3 m4 m5 m6 m7 m8 m9 m10 m11 m12 m13 ci mt tl rc kp ms mi ml mb mf mo my (np / 56) ((np % 56) + 1) (updN md np (lb v)) mu (aF fi np) (aS sp np) sq) := hD
        refine lv_aload_n hx hb dM_add_93 rfl (lv_at hl 0 rfl) ?_
        refine va_get (D := (dC, dI)) (ci := 1) (v := .int (nI ((np % 56) + 1))) (C := RX1) (T := TX1) (N := 19) hx hb hts hin1 hown hK hP 0 rfl rfl 13 (by decide) lkf59 (fun _ h9 => h9) rfl dM_add_94 ?_
        refine lv_bipush (v := nI 56) hx hb dM_add_97 (by decide) ?_
        refine lv_icmp_ne (tgt := 106) hx hb dM_add_99 (by decide) (fun c_99 => ?_) (fun c_99 => ?_)
        · have c_99 := kmt (nI_eq (by omega) (by omega)).mpr c_99
          have hP : va_P (dC, dI) vwCl (wM g m1 m2 m3 m4 m5 m6 m7 m8 m9 m10 m11 m12 m13 ci mt tl rc kp ms mi ml mb mf mo my ((np + 1) / 56) ((np + 1) % 56) (updN md np (lb v)) (aU mu np) (aF fi np) (aS sp np) sq) H := by rw [aU, if_neg (show ¬ np % 56 + 1 = 56 by omega), show (np + 1) / 56 = np / 56 by omega, show (np + 1) % 56 = (np % 56) + 1 by omega]; exact hP
          have hD : va_D A (wM g m1 m2 m3 m4 m5 m6 m7 m8 m9 m10 m11 m12 m13 ci mt tl rc kp ms mi ml mb mf mo my ((np + 1) / 56) ((np + 1) % 56) (updN md np (lb v)) (aU mu np) (aF fi np) (aS sp np) sq) := by rw [aU, if_neg (show ¬ np % 56 + 1 = 56 by omega), show (np + 1) / 56 = np / 56 by omega, show (np + 1) % 56 = (np % 56) + 1 by omega]; exact hD
          exact hret _ _ _ _ hP hD hS dM_add_106
        · have c_99 := (nI_eq (by omega) (by omega)).mp c_99
          refine lv_aload_n hx hb dM_add_102 rfl (lv_at hl 0 rfl) ?_
          refine kc_vv (WR := []) (As := []) (rest := []) ⟨hx, hb, hml, hown, hts⟩ (r_write l dC dI g m1 m2 m3 m4 m5 m6 m7 m8 m9 m10 m11 m12 m13 ci mt tl rc kp ms mi ml mb mf mo my (np / 56) ((np % 56) + 1) (updN md np (lb v)) mu (aF fi np) (aS sp np) sq H.size (by omega)) (cwV 0 hts gM_add_M_write rfl rfl rfl (by decide +kernel) ⟨Nat.le_of_ble_eq_true rfl, Nat.le_of_ble_eq_true rfl⟩) hK hP hD hS hA [0, 1, 2, 3, 4, 5, 6, 7, 8, 9, 10, 11, 12, 13] [] [0] rfl rfl (by decide) (by decide) (by decide) rfl 0 1 rfl rfl rfl rfl hl.1 rfl (Nat.le_of_ble_eq_true rfl) dM_add_103 ⟨Nat.zero_le _, Nat.zero_le _⟩ (fun H locs hP hD hS => ?_)
          have hP : va_P (dC, dI) vwCl (wM g m1 m2 m3 m4 m5 m6 m7 m8 m9 m10 m11 m12 m13 ci mt tl rc kp ms mi ml mb mf mo my ((np / 56) + 1) 0 (updN md np (lb v)) (updN mu (np / 56) ((np % 56) + 1)) (aF fi np) (aS sp np) sq) H := hP
          have hD : va_D A (wM g m1 m2 m3 m4 m5 m6 m7 m8 m9 m10 m11 m12 m13 ci mt tl rc kp ms mi ml mb mf mo my ((np / 56) + 1) 0 (updN md np (lb v)) (updN mu (np / 56) ((np % 56) + 1)) (aF fi np) (aS sp np) sq) := hD
          have hP : va_P (dC, dI) vwCl (wM g m1 m2 m3 m4 m5 m6 m7 m8 m9 m10 m11 m12 m13 ci mt tl rc kp ms mi ml mb mf mo my ((np + 1) / 56) ((np + 1) % 56) (updN md np (lb v)) (aU mu np) (aF fi np) (aS sp np) sq) H := by rw [aU, if_pos (show np % 56 + 1 = 56 by omega), show (np + 1) / 56 = (np / 56) + 1 by omega, show (np + 1) % 56 = 0 by omega]; exact hP
          have hD : va_D A (wM g m1 m2 m3 m4 m5 m6 m7 m8 m9 m10 m11 m12 m13 ci mt tl rc kp ms mi ml mb mf mo my ((np + 1) / 56) ((np + 1) % 56) (updN md np (lb v)) (aU mu np) (aF fi np) (aS sp np) sq) := by rw [aU, if_pos (show np % 56 + 1 = 56 by omega), show (np + 1) / 56 = (np / 56) + 1 by omega, show (np + 1) % 56 = 0 by omega]; exact hD
          exact hret _ _ _ _ hP hD hS dM_add_106
set_option maxHeartbeats 4000000 in
set_option maxRecDepth 100000 in
theorem r_feed (l : Launch) (dC : Nat → ClassId) (dI : Nat → Nat → Nat) (g m1 m2 m3 m4 m5 m6 m7 m8 m9 m10 m11 m12 m13 : Nat) (ci : ClassId) (mt : Nat → Nat) (tl rc kp : Nat) (ms mi ml mb mf mo my : Nat → Nat) (np : Nat) (md mu fi : Nat → Nat) (sp : Nat → Int32) (sq : Nat → Nat) (sz : Nat) (v : Int32) (j : Nat) (hj : 1 ≤ j ∧ j ≤ 4) (htl : tl + j ≤ 300) : Met l yM_feed wsM_feed ({ frames := 0, cells := 0, slots := 0, locals := 0 }) (kPre (dC, dI) vwCl (wM g m1 m2 m3 m4 m5 m6 m7 m8 m9 m10 m11 m12 m13 ci mt tl rc kp ms mi ml mb mf mo my (np / 56) (np % 56) md mu fi sp sq) (tM ci) sz [.ref g, .int v, .int (nI j)]) (kQi (dC, dI) vwCl (wM g m1 m2 m3 m4 m5 m6 m7 m8 m9 m10 m11 m12 m13 ci mt tl rc kp ms mi ml mb mf mo my (np / 56) (np % 56) md mu fi sp sq) (tM ci) sz (nI (tl + j)) (wM g m1 m2 m3 m4 m5 m6 m7 m8 m9 m10 m11 m12 m13 ci (fdM mt tl v j) (tl + j) rc kp ms mi ml mb mf mo my (np / 56) (np % 56) md mu fi sp sq)) 0 0 (va_A (wM g m1 m2 m3 m4 m5 m6 m7 m8 m9 m10 m11 m12 m13 ci mt tl rc kp ms mi ml mb mf mo my (np / 56) (np % 56) md mu fi sp sq) sz) := by
  refine kM_i (cc := cM_feed) (maxL := 4) (by decide) rfl (Nat.le_of_ble_eq_true rfl) ?_
  intro p e s m below meth c A Q ls H locs S hP hK hD hS hA hl hret
  obtain ⟨hx, hb, hml, hown, hts⟩ := id S
  have hin1 : ∀ w ∈ u_ws RX1 TX1 19, w ∈ wsM_feed := fun _ h => List.mem_cons_of_mem _ (List.mem_append_right _ h)
  have lkf49 := hts (.fieldLink RX1 49 "BlockTapeModel" "thrown" "I") (by decide +kernel)
  have lkf53 := hts (.fieldLink RX1 53 "BlockTapeModel" "taped" "I") (by decide +kernel)
  have lkf7 := hts (.fieldLink RX1 7 "BlockTapeModel" "tape" "[I") (by decide +kernel)
  have hl : lv_has ls 4 [(0, .ref g), (1, .int v), (2, .int (nI j))] := hl
  refine lv_aload_n hx hb dM_feed_0 rfl (lv_at hl 0 rfl) ?_
  refine lv_iconst (v := nI 0) hx hb dM_feed_1 (by decide) ?_
  refine va_put (D := (dC, dI)) (ci := 1) (v := .int (nI 0)) (ty := .int) (C := RX1) (T := TX1) (N := 19) hx hb hts hin1 tyX1 tyX1_ok nmX1 hown hK hP hD hS 0 rfl rfl 0 (by decide) lkf49 (fun _ h9 => h9) rfl (by decide +kernel) rfl rfl (Nat.le_of_ble_eq_true rfl) dM_feed_2 (fun H locs hP hD hS => ?_)
  have hP : va_P (dC, dI) vwCl (wM g m1 m2 m3 m4 m5 m6 m7 m8 m9 m10 m11 m12 m13 ci mt tl rc kp ms mi ml mb mf mo my (np / 56) (np % 56) md mu fi sp sq) H := hP
  have hD : va_D A (wM g m1 m2 m3 m4 m5 m6 m7 m8 m9 m10 m11 m12 m13 ci mt tl rc kp ms mi ml mb mf mo my (np / 56) (np % 56) md mu fi sp sq) := hD
  refine lv_iload_n hx hb dM_feed_5 rfl (lv_at hl 2 rfl) ?_
  refine lv_iconst (v := nI 1) hx hb dM_feed_6 (by decide) ?_
  refine lv_icmp_lt (tgt := 27) hx hb dM_feed_7 (by decide) (fun c_7 => ?_) (fun c_7 => ?_)
  · have c_7 := (nI_ltI (by omega) (by omega)).mp c_7
    exfalso; omega
  · have c_7 := kmt (nI_ltI (by omega) (by omega)).mpr c_7
    refine lv_iload_n hx hb dM_feed_10 rfl (lv_at hl 2 rfl) ?_
    refine lv_iconst (v := nI 4) hx hb dM_feed_11 (by decide) ?_
    refine lv_icmp_gt (tgt := 27) hx hb dM_feed_12 (by decide) (fun c_12 => ?_) (fun c_12 => ?_)
    · have c_12 := (nI_ltI (by omega) (by omega)).mp c_12
      exfalso; omega
    · have c_12 := kmt (nI_ltI (by omega) (by omega)).mpr c_12
      refine lv_aload_n hx hb dM_feed_15 rfl (lv_at hl 0 rfl) ?_
      refine va_get (D := (dC, dI)) (ci := 1) (v := .int (nI tl)) (C := RX1) (T := TX1) (N := 19) hx hb hts hin1 hown hK hP 0 rfl rfl 2 (by decide) lkf53 (fun _ h9 => h9) rfl dM_feed_16 ?_
      refine lv_iload_n hx hb dM_feed_19 rfl (lv_at hl 2 rfl) ?_
      refine lv_iadd hx hb dM_feed_20 ?_
      refine kv_top (show _ = nI (tl + j) from nI_add _ _) ?_
      refine lv_sipush (v := nI 300) hx hb dM_feed_21 (by decide) ?_
      refine lv_icmp_le (tgt := 29) hx hb dM_feed_24 (by decide) (fun c_24 => ?_) (fun c_24 => ?_)
      · have c_24 := (nI_leI (by omega) (by omega)).mp c_24
        refine lv_iconst (v := nI 0) hx hb dM_feed_29 (by decide) ?_
        refine lv_istore_n (lv' := [(3, .int (nI 0)), (0, .ref g), (1, .int v), (2, .int (nI j))]) hx hb dM_feed_30 rfl hl (by decide) rfl (fun ls hl => ?_)
        have hloopk : ∀ (n k : Nat), k ≤ j → j + 1 ≤ k + n → ∀ (H : Heap) (locs : List Loc) (ls : Array Slot), va_P (dC, dI) vwCl (wM g m1 m2 m3 m4 m5 m6 m7 m8 m9 m10 m11 m12 m13 ci (fdM mt tl v k) (tl + k) rc kp ms mi ml mb mf mo my (np / 56) (np % 56) md mu fi sp sq) H → va_D A (wM g m1 m2 m3 m4 m5 m6 m7 m8 m9 m10 m11 m12 m13 ci (fdM mt tl v k) (tl + k) rc kp ms mi ml mb mf mo my (np / 56) (np % 56) md mu fi sp sq) → va_S A s.heap H locs → lv_has ls 4 [(3, .int (nI k)), (0, .ref g), (1, .int v), (2, .int (nI j))] → W p l e ({ frames := 0, cells := 0, slots := 0, locals := 0 }) s m ([.ref g, .int v, .int (nI j)] : List Value).toArray below meth c H locs 0 0 Q (F0 m 31 ls []) := by
          intro n
          induction n with
          | zero => intro k h1 h2; exact absurd h2 (by omega)
          | succ n ih =>
            intro k hkA hkB H locs ls hP hD hS hl
            refine lv_iload_n hx hb dM_feed_31 rfl (lv_at hl 0 rfl) ?_
            refine lv_iload_n hx hb dM_feed_32 rfl (lv_at hl 3 rfl) ?_
            refine lv_icmp_ge (tgt := 74) hx hb dM_feed_33 (by decide) (fun c_33 => ?_) (fun c_33 => ?_)
            · have c_33 := (nI_leI (by omega) (by omega)).mp c_33
              have hkE : k = j := by omega
              subst hkE
              refine lv_aload_n hx hb dM_feed_74 rfl (lv_at hl 1 rfl) ?_
              refine va_get (D := (dC, dI)) (ci := 1) (v := .int (nI (tl + k))) (C := RX1) (T := TX1) (N := 19) hx hb hts hin1 hown hK hP 0 rfl rfl 2 (by decide) lkf53 (fun _ h9 => h9) rfl dM_feed_75 ?_
              exact hret _ _ _ _ hP hD hS dM_feed_78
            · have c_33 := kmt (nI_leI (by omega) (by omega)).mpr c_33
              refine lv_aload_n hx hb dM_feed_36 rfl (lv_at hl 1 rfl) ?_
              refine va_get (D := (dC, dI)) (ci := 1) (v := .ref m1) (C := RX1) (T := TX1) (N := 19) hx hb hts hin1 hown hK hP 0 rfl rfl 1 (by decide) lkf7 (fun _ h9 => h9) rfl dM_feed_37 ?_
              refine lv_aload_n hx hb dM_feed_40 rfl (lv_at hl 1 rfl) ?_
              refine va_get (D := (dC, dI)) (ci := 1) (v := .int (nI (tl + k))) (C := RX1) (T := TX1) (N := 19) hx hb hts hin1 hown hK hP 0 rfl rfl 2 (by decide) lkf53 (fun _ h9 => h9) rfl dM_feed_41 ?_
              refine lv_iload_n hx hb dM_feed_44 rfl (lv_at hl 2 rfl) ?_
              refine lv_bipush (v := nI 24) hx hb dM_feed_45 (by decide) ?_
              refine lv_bipush (v := nI 8) hx hb dM_feed_47 (by decide) ?_
              refine lv_iload_n hx hb dM_feed_49 rfl (lv_at hl 0 rfl) ?_
              refine lv_imul hx hb dM_feed_50 ?_
              refine kv_top (show _ = nI (8 * k) from pk_mul _ _) ?_
              refine lv_isub hx hb dM_feed_51 ?_
              refine kv_top (show _ = nI (24 - (8 * k)) from pk_sub (by omega)) ?_
              refine lv_ishr hx hb dM_feed_52 ?_
              refine lv_sipush (v := nI 255) hx hb dM_feed_53 (by decide) ?_
              refine lv_iand hx hb dM_feed_56 ?_
              refine kv_top (show _ = nI (lb (v >>> (nI (24 - 8 * k) &&& 31))) from and255 _) ?_
              refine ka_iastN hx hb hK hP hD hS 1 0 rfl rfl (k := tl + k) (x := lb (v >>> (nI (24 - 8 * k) &&& 31))) (by omega) (by decide) dM_feed_57 (fun H locs hP hD hS => ?_)
              have hP : va_P (dC, dI) vwCl (wM g m1 m2 m3 m4 m5 m6 m7 m8 m9 m10 m11 m12 m13 ci (updN (fdM mt tl v k) (tl + k) (lb (v >>> (nI (24 - 8 * k) &&& 31)))) (tl + k) rc kp ms mi ml mb mf mo my (np / 56) (np % 56) md mu fi sp sq) H := hP
              have hD : va_D A (wM g m1 m2 m3 m4 m5 m6 m7 m8 m9 m10 m11 m12 m13 ci (updN (fdM mt tl v k) (tl + k) (lb (v >>> (nI (24 - 8 * k) &&& 31)))) (tl + k) rc kp ms mi ml mb mf mo my (np / 56) (np % 56) md mu fi sp sq) := hD
              refine lv_aload_n hx hb dM_feed_58 rfl (lv_at hl 1 rfl) ?_
              refine lv_dup hx hb dM_feed_59 rfl ?_
              refine va_get (D := (dC, dI)) (ci := 1) (v := .int (nI (tl + k))) (C := RX1) (T := TX1) (N := 19) hx hb hts hin1 hown hK hP 0 rfl rfl 2 (by decide) lkf53 (fun _ h9 => h9) rfl dM_feed_60 ?_
              refine lv_iconst (v := nI 1) hx hb dM_feed_63 (by decide) ?_
              refine lv_iadd hx hb dM_feed_64 ?_
              refine kv_top (show _ = nI ((tl + k) + 1) from nI_add _ _) ?_
              refine va_put (D := (dC, dI)) (ci := 1) (v := .int (nI ((tl + k) + 1))) (ty := .int) (C := RX1) (T := TX1) (N := 19) hx hb hts hin1 tyX1 tyX1_ok nmX1 hown hK hP hD hS 0 rfl rfl 2 (by decide) lkf53 (fun _ h9 => h9) rfl (by decide +kernel) rfl rfl (Nat.le_of_ble_eq_true rfl) dM_feed_65 (fun H locs hP hD hS => ?_)
              have hP : va_P (dC, dI) vwCl (wM g m1 m2 m3 m4 m5 m6 m7 m8 m9 m10 m11 m12 m13 ci (updN (fdM mt tl v k) (tl + k) (lb (v >>> (nI (24 - 8 * k) &&& 31)))) ((tl + k) + 1) rc kp ms mi ml mb mf mo my (np / 56) (np % 56) md mu fi sp sq) H := hP
              have hD : va_D A (wM g m1 m2 m3 m4 m5 m6 m7 m8 m9 m10 m11 m12 m13 ci (updN (fdM mt tl v k) (tl + k) (lb (v >>> (nI (24 - 8 * k) &&& 31)))) ((tl + k) + 1) rc kp ms mi ml mb mf mo my (np / 56) (np % 56) md mu fi sp sq) := hD
              refine lv_iinc (v := nI (k + 1)) (lv' := [(3, .int (nI (k + 1))), (0, .ref g), (1, .int v), (2, .int (nI j))]) hx hb dM_feed_68 hl (k := 0) rfl (ki_inc _) (by decide) rfl (fun ls hl => ?_)
              refine lv_goto (tgt := 31) hx hb dM_feed_71 (by decide) ?_
              have hP : va_P (dC, dI) vwCl (wM g m1 m2 m3 m4 m5 m6 m7 m8 m9 m10 m11 m12 m13 ci (fdM mt tl v (k + 1)) (tl + (k + 1)) rc kp ms mi ml mb mf mo my (np / 56) (np % 56) md mu fi sp sq) H := hP
              have hD : va_D A (wM g m1 m2 m3 m4 m5 m6 m7 m8 m9 m10 m11 m12 m13 ci (fdM mt tl v (k + 1)) (tl + (k + 1)) rc kp ms mi ml mb mf mo my (np / 56) (np % 56) md mu fi sp sq) := hD
              exact ih (k + 1) (by omega) (by omega) _ _ _ hP hD hS (lv_sub hl [0, 1, 2, 3] rfl)
        have hP : va_P (dC, dI) vwCl (wM g m1 m2 m3 m4 m5 m6 m7 m8 m9 m10 m11 m12 m13 ci (fdM mt tl v (0)) (tl + (0)) rc kp ms mi ml mb mf mo my (np / 56) (np % 56) md mu fi sp sq) H := hP
        have hD : va_D A (wM g m1 m2 m3 m4 m5 m6 m7 m8 m9 m10 m11 m12 m13 ci (fdM mt tl v (0)) (tl + (0)) rc kp ms mi ml mb mf mo my (np / 56) (np % 56) md mu fi sp sq) := hD
        exact hloopk (j + 1) 0 (by omega) (by omega) _ _ _ hP hD hS (lv_sub hl [0, 1, 2, 3] rfl)
      · have c_24 := kmt (nI_leI (by omega) (by omega)).mpr c_24
        exfalso; omega
set_option maxHeartbeats 4000000 in
set_option maxRecDepth 100000 in
theorem r_feedN (l : Launch) (dC : Nat → ClassId) (dI : Nat → Nat → Nat) (g m1 m2 m3 m4 m5 m6 m7 m8 m9 m10 m11 m12 m13 : Nat) (ci : ClassId) (mt : Nat → Nat) (tl rc kp : Nat) (ms mi ml mb mf mo my : Nat → Nat) (np : Nat) (md mu fi : Nat → Nat) (sp : Nat → Int32) (sq : Nat → Nat) (sz : Nat) (v : Int32) (x : Int32) (htl : tl ≤ 300) (hno : ¬ (1 ≤ x.toInt ∧ x.toInt ≤ 4 ∧ tl + x.toInt ≤ 300)) : Met l yM_feed wsM_feed ({ frames := 0, cells := 0, slots := 0, locals := 0 }) (kPre (dC, dI) vwCl (wM g m1 m2 m3 m4 m5 m6 m7 m8 m9 m10 m11 m12 m13 ci mt tl rc kp ms mi ml mb mf mo my (np / 56) (np % 56) md mu fi sp sq) (tM ci) sz [.ref g, .int v, .int x]) (kQi (dC, dI) vwCl (wM g m1 m2 m3 m4 m5 m6 m7 m8 m9 m10 m11 m12 m13 ci mt tl rc kp ms mi ml mb mf mo my (np / 56) (np % 56) md mu fi sp sq) (tM ci) sz ((-1)) (wM g m1 m2 m3 m4 m5 m6 m7 m8 m9 m10 m11 m12 m13 ci mt tl rc kp ms mi ml mb mf mo my (np / 56) (np % 56) md mu fi sp sq)) 0 0 (va_A (wM g m1 m2 m3 m4 m5 m6 m7 m8 m9 m10 m11 m12 m13 ci mt tl rc kp ms mi ml mb mf mo my (np / 56) (np % 56) md mu fi sp sq) sz) := by
  refine kM_i (cc := cM_feed) (maxL := 4) (by decide) rfl (Nat.le_of_ble_eq_true rfl) ?_
  intro p e s m below meth c A Q ls H locs S hP hK hD hS hA hl hret
  obtain ⟨hx, hb, hml, hown, hts⟩ := id S
  have hin1 : ∀ w ∈ u_ws RX1 TX1 19, w ∈ wsM_feed := fun _ h => List.mem_cons_of_mem _ (List.mem_append_right _ h)
  have lkf49 := hts (.fieldLink RX1 49 "BlockTapeModel" "thrown" "I") (by decide +kernel)
  have lkf53 := hts (.fieldLink RX1 53 "BlockTapeModel" "taped" "I") (by decide +kernel)
  have hl : lv_has ls 4 [(0, .ref g), (1, .int v), (2, .int x)] := hl
  refine lv_aload_n hx hb dM_feed_0 rfl (lv_at hl 0 rfl) ?_
  refine lv_iconst (v := nI 0) hx hb dM_feed_1 (by decide) ?_
  refine va_put (D := (dC, dI)) (ci := 1) (v := .int (nI 0)) (ty := .int) (C := RX1) (T := TX1) (N := 19) hx hb hts hin1 tyX1 tyX1_ok nmX1 hown hK hP hD hS 0 rfl rfl 0 (by decide) lkf49 (fun _ h9 => h9) rfl (by decide +kernel) rfl rfl (Nat.le_of_ble_eq_true rfl) dM_feed_2 (fun H locs hP hD hS => ?_)
  have hP : va_P (dC, dI) vwCl (wM g m1 m2 m3 m4 m5 m6 m7 m8 m9 m10 m11 m12 m13 ci mt tl rc kp ms mi ml mb mf mo my (np / 56) (np % 56) md mu fi sp sq) H := hP
  have hD : va_D A (wM g m1 m2 m3 m4 m5 m6 m7 m8 m9 m10 m11 m12 m13 ci mt tl rc kp ms mi ml mb mf mo my (np / 56) (np % 56) md mu fi sp sq) := hD
  refine lv_iload_n hx hb dM_feed_5 rfl (lv_at hl 2 rfl) ?_
  refine lv_iconst (v := nI 1) hx hb dM_feed_6 (by decide) ?_
  refine lv_icmp_lt (tgt := 27) hx hb dM_feed_7 (by decide) (fun c_7 => ?_) (fun c_7 => ?_)
  · have c_7 := (kx_lt (by omega)).mp c_7
    refine lv_iconst (v := (-1)) hx hb dM_feed_27 (by decide) ?_
    exact hret _ _ _ _ hP hD hS dM_feed_28
  · have c_7 := kmt (kx_lt (by omega)).mpr c_7
    refine lv_iload_n hx hb dM_feed_10 rfl (lv_at hl 2 rfl) ?_
    refine lv_iconst (v := nI 4) hx hb dM_feed_11 (by decide) ?_
    refine lv_icmp_gt (tgt := 27) hx hb dM_feed_12 (by decide) (fun c_12 => ?_) (fun c_12 => ?_)
    · have c_12 := (kx_gt (by omega)).mp c_12
      refine lv_iconst (v := (-1)) hx hb dM_feed_27 (by decide) ?_
      exact hret _ _ _ _ hP hD hS dM_feed_28
    · have c_12 := kmt (kx_gt (by omega)).mpr c_12
      have hxb : ∃ j : Nat, j < 2 ^ 31 ∧ x = nI j := kx_of (by omega)
      obtain ⟨j, hj, rfl⟩ := hxb
      rw [nI_toInt hj] at c_7 c_12 hno
      refine lv_aload_n hx hb dM_feed_15 rfl (lv_at hl 0 rfl) ?_
      refine va_get (D := (dC, dI)) (ci := 1) (v := .int (nI tl)) (C := RX1) (T := TX1) (N := 19) hx hb hts hin1 hown hK hP 0 rfl rfl 2 (by decide) lkf53 (fun _ h9 => h9) rfl dM_feed_16 ?_
      refine lv_iload_n hx hb dM_feed_19 rfl (lv_at hl 2 rfl) ?_
      refine lv_iadd hx hb dM_feed_20 ?_
      refine kv_top (show _ = nI (tl + j) from nI_add _ _) ?_
      refine lv_sipush (v := nI 300) hx hb dM_feed_21 (by decide) ?_
      refine lv_icmp_le (tgt := 29) hx hb dM_feed_24 (by decide) (fun c_24 => ?_) (fun c_24 => ?_)
      · have c_24 := (nI_leI (by omega) (by omega)).mp c_24
        exfalso; omega
      · have c_24 := kmt (nI_leI (by omega) (by omega)).mpr c_24
        refine lv_iconst (v := (-1)) hx hb dM_feed_27 (by decide) ?_
        exact hret _ _ _ _ hP hD hS dM_feed_28
set_option maxHeartbeats 4000000 in
set_option maxRecDepth 100000 in
theorem r_put (l : Launch) (dC : Nat → ClassId) (dI : Nat → Nat → Nat) (g m1 m2 m3 m4 m5 m6 m7 m8 m9 m10 m11 m12 m13 : Nat) (ci : ClassId) (mt : Nat → Nat) (tl rc kp : Nat) (ms mi ml mb mf mo my : Nat → Nat) (np : Nat) (md mu fi : Nat → Nat) (sp : Nat → Int32) (sq : Nat → Nat) (sz : Nat) (sv : Int32) (iv : Int32) (htl : tl ≤ 300) (hnp : np ≤ 4480) (hrc : rc ≤ 200) (hs : 0 ≤ sv.toInt ∧ sv.toInt ≤ 255) (hi : 0 ≤ iv.toInt ∧ iv.toInt ≤ 65535) (hroom : rc < 200 ∧ np + 6 + tl ≤ 4480) (hkp : kp + tl ≤ 4480) (hfi : fi (np / 56) < 256) : Met l yM_put wsM_put ({ frames := 2, cells := 0, slots := 0, locals := 42 }) (kPre (dC, dI) vwCl (wM g m1 m2 m3 m4 m5 m6 m7 m8 m9 m10 m11 m12 m13 ci mt tl rc kp ms mi ml mb mf mo my (np / 56) (np % 56) md mu fi sp sq) (tM ci) sz [.ref g, .int sv, .int iv]) (kQi (dC, dI) vwCl (wM g m1 m2 m3 m4 m5 m6 m7 m8 m9 m10 m11 m12 m13 ci mt tl rc kp ms mi ml mb mf mo my (np / 56) (np % 56) md mu fi sp sq) (tM ci) sz (nI rc) (wM g m1 m2 m3 m4 m5 m6 m7 m8 m9 m10 m11 m12 m13 ci mt 0 (rc + 1) (kp + tl) (updN ms rc sv.toInt.toNat) (updN mi rc iv.toInt.toNat) (updN ml rc tl) (updN mb rc kp) (updN mf rc (np / 56)) (lO (updN mo rc ((np + 5) / 56)) rc (np + 6) tl) (lY my kp mt tl) ((np + 6 + tl) / 56) ((np + 6 + tl) % 56) (lD (hD6 md np sv iv tl) (np + 6) mt tl) (lU (lU mu np 6) (np + 6) tl) (lG (lG (aF fi np) (np + 1) 5) (np + 6) tl) (lS (lS sp np 6) (np + 6) tl) sq)) 0 0 (va_A (wM g m1 m2 m3 m4 m5 m6 m7 m8 m9 m10 m11 m12 m13 ci mt tl rc kp ms mi ml mb mf mo my (np / 56) (np % 56) md mu fi sp sq) sz) := by
  refine kM_i (cc := cM_put) (maxL := 5) (by decide) rfl (Nat.le_of_ble_eq_true rfl) ?_
  intro p e s m below meth c A Q ls H locs S hP hK hD hS hA hl hret
  obtain ⟨hx, hb, hml, hown, hts⟩ := id S
  have hin1 : ∀ w ∈ u_ws RX1 TX1 19, w ∈ wsM_put := fun _ h => List.mem_cons_of_mem _ (List.mem_append_right _ h)
  have lkf49 := hts (.fieldLink RX1 49 "BlockTapeModel" "thrown" "I") (by decide +kernel)
  have lkc65 := hts (.constant RX1 65 (65535)) (by decide +kernel)
  have lkf66 := hts (.fieldLink RX1 66 "BlockTapeModel" "records" "I") (by decide +kernel)
  have lkf53 := hts (.fieldLink RX1 53 "BlockTapeModel" "taped" "I") (by decide +kernel)
  have lkf13 := hts (.fieldLink RX1 13 "BlockTapeModel" "stream" "[I") (by decide +kernel)
  have lkf16 := hts (.fieldLink RX1 16 "BlockTapeModel" "index" "[I") (by decide +kernel)
  have lkf19 := hts (.fieldLink RX1 19 "BlockTapeModel" "length" "[I") (by decide +kernel)
  have lkf22 := hts (.fieldLink RX1 22 "BlockTapeModel" "begin" "[I") (by decide +kernel)
  have lkf73 := hts (.fieldLink RX1 73 "BlockTapeModel" "kept" "I") (by decide +kernel)
  have lkf25 := hts (.fieldLink RX1 25 "BlockTapeModel" "fromBlock" "[I") (by decide +kernel)
  have lkf56 := hts (.fieldLink RX1 56 "BlockTapeModel" "written" "I") (by decide +kernel)
  have lkf28 := hts (.fieldLink RX1 28 "BlockTapeModel" "toBlock" "[I") (by decide +kernel)
  have lkf31 := hts (.fieldLink RX1 31 "BlockTapeModel" "bytes" "[I") (by decide +kernel)
  have lkf7 := hts (.fieldLink RX1 7 "BlockTapeModel" "tape" "[I") (by decide +kernel)
  have hl : lv_has ls 5 [(0, .ref g), (1, .int sv), (2, .int iv)] := hl
  refine lv_aload_n hx hb dM_put_0 rfl (lv_at hl 0 rfl) ?_
  refine lv_iconst (v := nI 0) hx hb dM_put_1 (by decide) ?_
  refine va_put (D := (dC, dI)) (ci := 1) (v := .int (nI 0)) (ty := .int) (C := RX1) (T := TX1) (N := 19) hx hb hts hin1 tyX1 tyX1_ok nmX1 hown hK hP hD hS 0 rfl rfl 0 (by decide) lkf49 (fun _ h9 => h9) rfl (by decide +kernel) rfl rfl (Nat.le_of_ble_eq_true rfl) dM_put_2 (fun H locs hP hD hS => ?_)
  have hP : va_P (dC, dI) vwCl (wM g m1 m2 m3 m4 m5 m6 m7 m8 m9 m10 m11 m12 m13 ci mt tl rc kp ms mi ml mb mf mo my (np / 56) (np % 56) md mu fi sp sq) H := hP
  have hD : va_D A (wM g m1 m2 m3 m4 m5 m6 m7 m8 m9 m10 m11 m12 m13 ci mt tl rc kp ms mi ml mb mf mo my (np / 56) (np % 56) md mu fi sp sq) := hD
  refine lv_iload_n hx hb dM_put_5 rfl (lv_at hl 1 rfl) ?_
  refine lv_if_lt (tgt := 50) hx hb dM_put_6 (by decide) (fun c_6 => ?_) (fun c_6 => ?_)
  · have c_6 := (kx_lt0).mp c_6
    exfalso; omega
  · have c_6 := kmt (kx_lt0).mpr c_6
    refine lv_iload_n hx hb dM_put_9 rfl (lv_at hl 1 rfl) ?_
    refine lv_sipush (v := nI 255) hx hb dM_put_10 (by decide) ?_
    refine lv_icmp_gt (tgt := 50) hx hb dM_put_13 (by decide) (fun c_13 => ?_) (fun c_13 => ?_)
    · have c_13 := (kx_gt (by omega)).mp c_13
      exfalso; omega
    · have c_13 := kmt (kx_gt (by omega)).mpr c_13
      refine lv_iload_n hx hb dM_put_16 rfl (lv_at hl 2 rfl) ?_
      refine lv_if_lt (tgt := 50) hx hb dM_put_17 (by decide) (fun c_17 => ?_) (fun c_17 => ?_)
      · have c_17 := (kx_lt0).mp c_17
        exfalso; omega
      · have c_17 := kmt (kx_lt0).mpr c_17
        refine lv_iload_n hx hb dM_put_20 rfl (lv_at hl 2 rfl) ?_
        refine lv_ldc (v := nI 65535) hx hb hown lkc65 dM_put_21 ?_
        refine lv_icmp_gt (tgt := 50) hx hb dM_put_23 (by decide) (fun c_23 => ?_) (fun c_23 => ?_)
        · have c_23 := (kx_gt (by omega)).mp c_23
          exfalso; omega
        · have c_23 := kmt (kx_gt (by omega)).mpr c_23
          refine lv_aload_n hx hb dM_put_26 rfl (lv_at hl 0 rfl) ?_
          refine va_get (D := (dC, dI)) (ci := 1) (v := .int (nI rc)) (C := RX1) (T := TX1) (N := 19) hx hb hts hin1 hown hK hP 0 rfl rfl 3 (by decide) lkf66 (fun _ h9 => h9) rfl dM_put_27 ?_
          refine lv_sipush (v := nI 200) hx hb dM_put_30 (by decide) ?_
          refine lv_icmp_eq (tgt := 50) hx hb dM_put_33 (by decide) (fun c_33 => ?_) (fun c_33 => ?_)
          · have c_33 := (nI_eq (by omega) (by omega)).mp c_33
            exfalso; omega
          · have c_33 := kmt (nI_eq (by omega) (by omega)).mpr c_33
            refine lv_aload_n hx hb dM_put_36 rfl (lv_at hl 0 rfl) ?_
            refine kc_vi (WR := []) (As := []) (rest := []) ⟨hx, hb, hml, hown, hts⟩ (r_room l dC dI g m1 m2 m3 m4 m5 m6 m7 m8 m9 m10 m11 m12 m13 ci mt tl rc kp ms mi ml mb mf mo my np md mu fi sp sq H.size (by omega)) (cwV 0 hts gM_put_M_room rfl rfl rfl (by decide +kernel) ⟨Nat.le_of_ble_eq_true rfl, Nat.le_of_ble_eq_true rfl⟩) hK hP hD hS hA [0, 1, 2, 3, 4, 5, 6, 7, 8, 9, 10, 11, 12, 13] [] [0] rfl rfl (by decide) (by decide) (by decide) rfl 0 1 rfl rfl rfl rfl hl.1 rfl (Nat.le_of_ble_eq_true rfl) dM_put_37 ⟨Nat.zero_le _, Nat.zero_le _⟩ (fun H locs hP hD hS => ?_)
            have hP : va_P (dC, dI) vwCl (wM g m1 m2 m3 m4 m5 m6 m7 m8 m9 m10 m11 m12 m13 ci mt tl rc kp ms mi ml mb mf mo my (np / 56) (np % 56) md mu fi sp sq) H := hP
            have hD : va_D A (wM g m1 m2 m3 m4 m5 m6 m7 m8 m9 m10 m11 m12 m13 ci mt tl rc kp ms mi ml mb mf mo my (np / 56) (np % 56) md mu fi sp sq) := hD
            refine lv_bipush (v := nI 6) hx hb dM_put_40 (by decide) ?_
            refine lv_aload_n hx hb dM_put_42 rfl (lv_at hl 0 rfl) ?_
            refine va_get (D := (dC, dI)) (ci := 1) (v := .int (nI tl)) (C := RX1) (T := TX1) (N := 19) hx hb hts hin1 hown hK hP 0 rfl rfl 2 (by decide) lkf53 (fun _ h9 => h9) rfl dM_put_43 ?_
            refine lv_iadd hx hb dM_put_46 ?_
            refine kv_top (show _ = nI (6 + tl) from nI_add _ _) ?_
            refine lv_icmp_ge (tgt := 52) hx hb dM_put_47 (by decide) (fun c_47 => ?_) (fun c_47 => ?_)
            · have c_47 := (nI_leI (by omega) (by omega)).mp c_47
              obtain ⟨js, hjs, rfl⟩ := kx_of (x := sv) (by omega)
              obtain ⟨ji, hji, rfl⟩ := kx_of (x := iv) (by omega)
              rw [nI_toInt hjs] at hs; rw [nI_toInt hji] at hi
              simp only [nI_tn hjs, nI_tn hji] at hret
              refine lv_aload_n hx hb dM_put_52 rfl (lv_at hl 0 rfl) ?_
              refine va_get (D := (dC, dI)) (ci := 1) (v := .int (nI rc)) (C := RX1) (T := TX1) (N := 19) hx hb hts hin1 hown hK hP 0 rfl rfl 3 (by decide) lkf66 (fun _ h9 => h9) rfl dM_put_53 ?_
              refine lv_istore_n (lv' := [(3, .int (nI rc)), (0, .ref g), (1, .int (nI js)), (2, .int (nI ji))]) hx hb dM_put_56 rfl hl (by decide) rfl (fun ls hl => ?_)
              refine lv_aload_n hx hb dM_put_57 rfl (lv_at hl 1 rfl) ?_
              refine va_get (D := (dC, dI)) (ci := 1) (v := .ref m2) (C := RX1) (T := TX1) (N := 19) hx hb hts hin1 hown hK hP 0 rfl rfl 5 (by decide) lkf13 (fun _ h9 => h9) rfl dM_put_58 ?_
              refine lv_iload_n hx hb dM_put_61 rfl (lv_at hl 0 rfl) ?_
              refine lv_iload_n hx hb dM_put_62 rfl (lv_at hl 2 rfl) ?_
              refine ka_iastN hx hb hK hP hD hS 2 0 rfl rfl (k := rc) (x := js) (by omega) (by decide) dM_put_63 (fun H locs hP hD hS => ?_)
              have hP : va_P (dC, dI) vwCl (wM g m1 m2 m3 m4 m5 m6 m7 m8 m9 m10 m11 m12 m13 ci mt tl rc kp (updN ms rc js) mi ml mb mf mo my (np / 56) (np % 56) md mu fi sp sq) H := hP
              have hD : va_D A (wM g m1 m2 m3 m4 m5 m6 m7 m8 m9 m10 m11 m12 m13 ci mt tl rc kp (updN ms rc js) mi ml mb mf mo my (np / 56) (np % 56) md mu fi sp sq) := hD
              refine lv_aload_n hx hb dM_put_64 rfl (lv_at hl 1 rfl) ?_
              refine va_get (D := (dC, dI)) (ci := 1) (v := .ref m3) (C := RX1) (T := TX1) (N := 19) hx hb hts hin1 hown hK hP 0 rfl rfl 6 (by decide) lkf16 (fun _ h9 => h9) rfl dM_put_65 ?_
              refine lv_iload_n hx hb dM_put_68 rfl (lv_at hl 0 rfl) ?_
              refine lv_iload_n hx hb dM_put_69 rfl (lv_at hl 3 rfl) ?_
              refine ka_iastN hx hb hK hP hD hS 3 0 rfl rfl (k := rc) (x := ji) (by omega) (by decide) dM_put_70 (fun H locs hP hD hS => ?_)
              have hP : va_P (dC, dI) vwCl (wM g m1 m2 m3 m4 m5 m6 m7 m8 m9 m10 m11 m12 m13 ci mt tl rc kp (updN ms rc js) (updN mi rc ji) ml mb mf mo my (np / 56) (np % 56) md mu fi sp sq) H := hP
              have hD : va_D A (wM g m1 m2 m3 m4 m5 m6 m7 m8 m9 m10 m11 m12 m13 ci mt tl rc kp (updN ms rc js) (updN mi rc ji) ml mb mf mo my (np / 56) (np % 56) md mu fi sp sq) := hD
              refine lv_aload_n hx hb dM_put_71 rfl (lv_at hl 1 rfl) ?_
              refine va_get (D := (dC, dI)) (ci := 1) (v := .ref m4) (C := RX1) (T := TX1) (N := 19) hx hb hts hin1 hown hK hP 0 rfl rfl 7 (by decide) lkf19 (fun _ h9 => h9) rfl dM_put_72 ?_
              refine lv_iload_n hx hb dM_put_75 rfl (lv_at hl 0 rfl) ?_
              refine lv_aload_n hx hb dM_put_76 rfl (lv_at hl 1 rfl) ?_
              refine va_get (D := (dC, dI)) (ci := 1) (v := .int (nI tl)) (C := RX1) (T := TX1) (N := 19) hx hb hts hin1 hown hK hP 0 rfl rfl 2 (by decide) lkf53 (fun _ h9 => h9) rfl dM_put_77 ?_
              refine ka_iastN hx hb hK hP hD hS 4 0 rfl rfl (k := rc) (x := tl) (by omega) (by decide) dM_put_80 (fun H locs hP hD hS => ?_)
              have hP : va_P (dC, dI) vwCl (wM g m1 m2 m3 m4 m5 m6 m7 m8 m9 m10 m11 m12 m13 ci mt tl rc kp (updN ms rc js) (updN mi rc ji) (updN ml rc tl) mb mf mo my (np / 56) (np % 56) md mu fi sp sq) H := hP
              have hD : va_D A (wM g m1 m2 m3 m4 m5 m6 m7 m8 m9 m10 m11 m12 m13 ci mt tl rc kp (updN ms rc js) (updN mi rc ji) (updN ml rc tl) mb mf mo my (np / 56) (np % 56) md mu fi sp sq) := hD
              refine lv_aload_n hx hb dM_put_81 rfl (lv_at hl 1 rfl) ?_
              refine va_get (D := (dC, dI)) (ci := 1) (v := .ref m5) (C := RX1) (T := TX1) (N := 19) hx hb hts hin1 hown hK hP 0 rfl rfl 8 (by decide) lkf22 (fun _ h9 => h9) rfl dM_put_82 ?_
              refine lv_iload_n hx hb dM_put_85 rfl (lv_at hl 0 rfl) ?_
              refine lv_aload_n hx hb dM_put_86 rfl (lv_at hl 1 rfl) ?_
              refine va_get (D := (dC, dI)) (ci := 1) (v := .int (nI kp)) (C := RX1) (T := TX1) (N := 19) hx hb hts hin1 hown hK hP 0 rfl rfl 4 (by decide) lkf73 (fun _ h9 => h9) rfl dM_put_87 ?_
              refine ka_iastN hx hb hK hP hD hS 5 0 rfl rfl (k := rc) (x := kp) (by omega) (by decide) dM_put_90 (fun H locs hP hD hS => ?_)
              have hP : va_P (dC, dI) vwCl (wM g m1 m2 m3 m4 m5 m6 m7 m8 m9 m10 m11 m12 m13 ci mt tl rc kp (updN ms rc js) (updN mi rc ji) (updN ml rc tl) (updN mb rc kp) mf mo my (np / 56) (np % 56) md mu fi sp sq) H := hP
              have hD : va_D A (wM g m1 m2 m3 m4 m5 m6 m7 m8 m9 m10 m11 m12 m13 ci mt tl rc kp (updN ms rc js) (updN mi rc ji) (updN ml rc tl) (updN mb rc kp) mf mo my (np / 56) (np % 56) md mu fi sp sq) := hD
              refine lv_aload_n hx hb dM_put_91 rfl (lv_at hl 1 rfl) ?_
              refine va_get (D := (dC, dI)) (ci := 1) (v := .ref m6) (C := RX1) (T := TX1) (N := 19) hx hb hts hin1 hown hK hP 0 rfl rfl 9 (by decide) lkf25 (fun _ h9 => h9) rfl dM_put_92 ?_
              refine lv_iload_n hx hb dM_put_95 rfl (lv_at hl 0 rfl) ?_
              refine lv_aload_n hx hb dM_put_96 rfl (lv_at hl 1 rfl) ?_
              refine va_get (D := (dC, dI)) (ci := 1) (v := .int (nI (np / 56))) (C := RX1) (T := TX1) (N := 19) hx hb hts hin1 hown hK hP 0 rfl rfl 12 (by decide) lkf56 (fun _ h9 => h9) rfl dM_put_97 ?_
              refine ka_iastN hx hb hK hP hD hS 6 0 rfl rfl (k := rc) (x := np / 56) (by omega) (by decide) dM_put_100 (fun H locs hP hD hS => ?_)
              have hP : va_P (dC, dI) vwCl (wM g m1 m2 m3 m4 m5 m6 m7 m8 m9 m10 m11 m12 m13 ci mt tl rc kp (updN ms rc js) (updN mi rc ji) (updN ml rc tl) (updN mb rc kp) (updN mf rc (np / 56)) mo my (np / 56) (np % 56) md mu fi sp sq) H := hP
              have hD : va_D A (wM g m1 m2 m3 m4 m5 m6 m7 m8 m9 m10 m11 m12 m13 ci mt tl rc kp (updN ms rc js) (updN mi rc ji) (updN ml rc tl) (updN mb rc kp) (updN mf rc (np / 56)) mo my (np / 56) (np % 56) md mu fi sp sq) := hD
              refine lv_aload_n hx hb dM_put_101 rfl (lv_at hl 1 rfl) ?_
              refine lv_iload_n hx hb dM_put_102 rfl (lv_at hl 2 rfl) ?_
              refine lv_iconst (v := nI 1) hx hb dM_put_103 (by decide) ?_
              refine kc_vv (WR := []) (As := [.int (nI js), .int (nI 1)]) (rest := []) ⟨hx, hb, hml, hown, hts⟩ (r_add1 l dC dI g m1 m2 m3 m4 m5 m6 m7 m8 m9 m10 m11 m12 m13 ci mt tl rc kp (updN ms rc js) (updN mi rc ji) (updN ml rc tl) (updN mb rc kp) (updN mf rc (np / 56)) mo my np md mu fi sp sq H.size (nI js) (by omega) hfi) (cwV 2 hts gM_put_M_add rfl rfl rfl (by decide +kernel) ⟨Nat.le_of_ble_eq_true rfl, Nat.le_of_ble_eq_true rfl⟩) hK hP hD hS hA [0, 1, 2, 3, 4, 5, 6, 7, 8, 9, 10, 11, 12, 13] [] [0] rfl rfl (by decide) (by decide) (by decide) rfl 0 1 rfl rfl rfl rfl hl.1 rfl (Nat.le_of_ble_eq_true rfl) dM_put_104 ⟨Nat.zero_le _, Nat.zero_le _⟩ (fun H locs hP hD hS => ?_)
              have hP : va_P (dC, dI) vwCl (wM g m1 m2 m3 m4 m5 m6 m7 m8 m9 m10 m11 m12 m13 ci mt tl rc kp (updN ms rc js) (updN mi rc ji) (updN ml rc tl) (updN mb rc kp) (updN mf rc (np / 56)) mo my ((np + 1) / 56) ((np + 1) % 56) (updN md np (lb (nI js))) (aU mu np) (aF fi np) (aS sp np) sq) H := hP
              have hD : va_D A (wM g m1 m2 m3 m4 m5 m6 m7 m8 m9 m10 m11 m12 m13 ci mt tl rc kp (updN ms rc js) (updN mi rc ji) (updN ml rc tl) (updN mb rc kp) (updN mf rc (np / 56)) mo my ((np + 1) / 56) ((np + 1) % 56) (updN md np (lb (nI js))) (aU mu np) (aF fi np) (aS sp np) sq) := hD
              refine lv_aload_n hx hb dM_put_107 rfl (lv_at hl 1 rfl) ?_
              refine lv_iload_n hx hb dM_put_108 rfl (lv_at hl 3 rfl) ?_
              refine lv_bipush (v := nI 8) hx hb dM_put_109 (by decide) ?_
              refine lv_ishr hx hb dM_put_111 ?_
              refine lv_iconst (v := nI 0) hx hb dM_put_112 (by decide) ?_
              refine kc_vv (WR := []) (As := [.int ((nI ji) >>> ((nI 8) &&& 31)), .int (nI 0)]) (rest := []) ⟨hx, hb, hml, hown, hts⟩ (r_add0 l dC dI g m1 m2 m3 m4 m5 m6 m7 m8 m9 m10 m11 m12 m13 ci mt tl rc kp (updN ms rc js) (updN mi rc ji) (updN ml rc tl) (updN mb rc kp) (updN mf rc (np / 56)) mo my (np + 1) (updN md np (lb (nI js))) (aU mu np) (aF fi np) (aS sp np) sq H.size ((nI ji) >>> ((nI 8) &&& 31)) (by omega)) (cwV 2 hts gM_put_M_add rfl rfl rfl (by decide +kernel) ⟨Nat.le_of_ble_eq_true rfl, Nat.le_of_ble_eq_true rfl⟩) hK hP hD hS hA [0, 1, 2, 3, 4, 5, 6, 7, 8, 9, 10, 11, 12, 13] [] [0] rfl rfl (by decide) (by decide) (by decide) rfl 0 1 rfl rfl rfl rfl hl.1 rfl (Nat.le_of_ble_eq_true rfl) dM_put_113 ⟨Nat.zero_le _, Nat.zero_le _⟩ (fun H locs hP hD hS => ?_)
              have hP : va_P (dC, dI) vwCl (wM g m1 m2 m3 m4 m5 m6 m7 m8 m9 m10 m11 m12 m13 ci mt tl rc kp (updN ms rc js) (updN mi rc ji) (updN ml rc tl) (updN mb rc kp) (updN mf rc (np / 56)) mo my (((np + 1) + 1) / 56) (((np + 1) + 1) % 56) (updN (updN md np (lb (nI js))) (np + 1) (lb ((nI ji) >>> ((nI 8) &&& 31)))) (aU (aU mu np) (np + 1)) (aG (aF fi np) (np + 1)) (aS (aS sp np) (np + 1)) sq) H := hP
              have hD : va_D A (wM g m1 m2 m3 m4 m5 m6 m7 m8 m9 m10 m11 m12 m13 ci mt tl rc kp (updN ms rc js) (updN mi rc ji) (updN ml rc tl) (updN mb rc kp) (updN mf rc (np / 56)) mo my (((np + 1) + 1) / 56) (((np + 1) + 1) % 56) (updN (updN md np (lb (nI js))) (np + 1) (lb ((nI ji) >>> ((nI 8) &&& 31)))) (aU (aU mu np) (np + 1)) (aG (aF fi np) (np + 1)) (aS (aS sp np) (np + 1)) sq) := hD
              refine lv_aload_n hx hb dM_put_116 rfl (lv_at hl 1 rfl) ?_
              refine lv_iload_n hx hb dM_put_117 rfl (lv_at hl 3 rfl) ?_
              refine lv_iconst (v := nI 0) hx hb dM_put_118 (by decide) ?_
              refine kc_vv (WR := []) (As := [.int (nI ji), .int (nI 0)]) (rest := []) ⟨hx, hb, hml, hown, hts⟩ (r_add0 l dC dI g m1 m2 m3 m4 m5 m6 m7 m8 m9 m10 m11 m12 m13 ci mt tl rc kp (updN ms rc js) (updN mi rc ji) (updN ml rc tl) (updN mb rc kp) (updN mf rc (np / 56)) mo my (np + 2) (updN (updN md np (lb (nI js))) (np + 1) (lb ((nI ji) >>> ((nI 8) &&& 31)))) (aU (aU mu np) (np + 1)) (aG (aF fi np) (np + 1)) (aS (aS sp np) (np + 1)) sq H.size (nI ji) (by omega)) (cwV 2 hts gM_put_M_add rfl rfl rfl (by decide +kernel) ⟨Nat.le_of_ble_eq_true rfl, Nat.le_of_ble_eq_true rfl⟩) hK hP hD hS hA [0, 1, 2, 3, 4, 5, 6, 7, 8, 9, 10, 11, 12, 13] [] [0] rfl rfl (by decide) (by decide) (by decide) rfl 0 1 rfl rfl rfl rfl hl.1 rfl (Nat.le_of_ble_eq_true rfl) dM_put_119 ⟨Nat.zero_le _, Nat.zero_le _⟩ (fun H locs hP hD hS => ?_)
              have hP : va_P (dC, dI) vwCl (wM g m1 m2 m3 m4 m5 m6 m7 m8 m9 m10 m11 m12 m13 ci mt tl rc kp (updN ms rc js) (updN mi rc ji) (updN ml rc tl) (updN mb rc kp) (updN mf rc (np / 56)) mo my (((np + 2) + 1) / 56) (((np + 2) + 1) % 56) (updN (updN (updN md np (lb (nI js))) (np + 1) (lb ((nI ji) >>> ((nI 8) &&& 31)))) (np + 2) (lb (nI ji))) (aU (aU (aU mu np) (np + 1)) (np + 2)) (aG (aG (aF fi np) (np + 1)) (np + 2)) (aS (aS (aS sp np) (np + 1)) (np + 2)) sq) H := hP
              have hD : va_D A (wM g m1 m2 m3 m4 m5 m6 m7 m8 m9 m10 m11 m12 m13 ci mt tl rc kp (updN ms rc js) (updN mi rc ji) (updN ml rc tl) (updN mb rc kp) (updN mf rc (np / 56)) mo my (((np + 2) + 1) / 56) (((np + 2) + 1) % 56) (updN (updN (updN md np (lb (nI js))) (np + 1) (lb ((nI ji) >>> ((nI 8) &&& 31)))) (np + 2) (lb (nI ji))) (aU (aU (aU mu np) (np + 1)) (np + 2)) (aG (aG (aF fi np) (np + 1)) (np + 2)) (aS (aS (aS sp np) (np + 1)) (np + 2)) sq) := hD
              refine lv_aload_n hx hb dM_put_122 rfl (lv_at hl 1 rfl) ?_
              refine lv_aload_n hx hb dM_put_123 rfl (lv_at hl 1 rfl) ?_
              refine va_get (D := (dC, dI)) (ci := 1) (v := .int (nI tl)) (C := RX1) (T := TX1) (N := 19) hx hb hts hin1 hown hK hP 0 rfl rfl 2 (by decide) lkf53 (fun _ h9 => h9) rfl dM_put_124 ?_
              refine lv_bipush (v := nI 8) hx hb dM_put_127 (by decide) ?_
              refine lv_ishr hx hb dM_put_129 ?_
              refine lv_iconst (v := nI 0) hx hb dM_put_130 (by decide) ?_
              refine kc_vv (WR := []) (As := [.int ((nI tl) >>> ((nI 8) &&& 31)), .int (nI 0)]) (rest := []) ⟨hx, hb, hml, hown, hts⟩ (r_add0 l dC dI g m1 m2 m3 m4 m5 m6 m7 m8 m9 m10 m11 m12 m13 ci mt tl rc kp (updN ms rc js) (updN mi rc ji) (updN ml rc tl) (updN mb rc kp) (updN mf rc (np / 56)) mo my (np + 3) (updN (updN (updN md np (lb (nI js))) (np + 1) (lb ((nI ji) >>> ((nI 8) &&& 31)))) (np + 2) (lb (nI ji))) (aU (aU (aU mu np) (np + 1)) (np + 2)) (aG (aG (aF fi np) (np + 1)) (np + 2)) (aS (aS (aS sp np) (np + 1)) (np + 2)) sq H.size ((nI tl) >>> ((nI 8) &&& 31)) (by omega)) (cwV 2 hts gM_put_M_add rfl rfl rfl (by decide +kernel) ⟨Nat.le_of_ble_eq_true rfl, Nat.le_of_ble_eq_true rfl⟩) hK hP hD hS hA [0, 1, 2, 3, 4, 5, 6, 7, 8, 9, 10, 11, 12, 13] [] [0] rfl rfl (by decide) (by decide) (by decide) rfl 0 1 rfl rfl rfl rfl hl.1 rfl (Nat.le_of_ble_eq_true rfl) dM_put_131 ⟨Nat.zero_le _, Nat.zero_le _⟩ (fun H locs hP hD hS => ?_)
              have hP : va_P (dC, dI) vwCl (wM g m1 m2 m3 m4 m5 m6 m7 m8 m9 m10 m11 m12 m13 ci mt tl rc kp (updN ms rc js) (updN mi rc ji) (updN ml rc tl) (updN mb rc kp) (updN mf rc (np / 56)) mo my (((np + 3) + 1) / 56) (((np + 3) + 1) % 56) (updN (updN (updN (updN md np (lb (nI js))) (np + 1) (lb ((nI ji) >>> ((nI 8) &&& 31)))) (np + 2) (lb (nI ji))) (np + 3) (lb ((nI tl) >>> ((nI 8) &&& 31)))) (aU (aU (aU (aU mu np) (np + 1)) (np + 2)) (np + 3)) (aG (aG (aG (aF fi np) (np + 1)) (np + 2)) (np + 3)) (aS (aS (aS (aS sp np) (np + 1)) (np + 2)) (np + 3)) sq) H := hP
              have hD : va_D A (wM g m1 m2 m3 m4 m5 m6 m7 m8 m9 m10 m11 m12 m13 ci mt tl rc kp (updN ms rc js) (updN mi rc ji) (updN ml rc tl) (updN mb rc kp) (updN mf rc (np / 56)) mo my (((np + 3) + 1) / 56) (((np + 3) + 1) % 56) (updN (updN (updN (updN md np (lb (nI js))) (np + 1) (lb ((nI ji) >>> ((nI 8) &&& 31)))) (np + 2) (lb (nI ji))) (np + 3) (lb ((nI tl) >>> ((nI 8) &&& 31)))) (aU (aU (aU (aU mu np) (np + 1)) (np + 2)) (np + 3)) (aG (aG (aG (aF fi np) (np + 1)) (np + 2)) (np + 3)) (aS (aS (aS (aS sp np) (np + 1)) (np + 2)) (np + 3)) sq) := hD
              refine lv_aload_n hx hb dM_put_134 rfl (lv_at hl 1 rfl) ?_
              refine lv_aload_n hx hb dM_put_135 rfl (lv_at hl 1 rfl) ?_
              refine va_get (D := (dC, dI)) (ci := 1) (v := .int (nI tl)) (C := RX1) (T := TX1) (N := 19) hx hb hts hin1 hown hK hP 0 rfl rfl 2 (by decide) lkf53 (fun _ h9 => h9) rfl dM_put_136 ?_
              refine lv_iconst (v := nI 0) hx hb dM_put_139 (by decide) ?_
              refine kc_vv (WR := []) (As := [.int (nI tl), .int (nI 0)]) (rest := []) ⟨hx, hb, hml, hown, hts⟩ (r_add0 l dC dI g m1 m2 m3 m4 m5 m6 m7 m8 m9 m10 m11 m12 m13 ci mt tl rc kp (updN ms rc js) (updN mi rc ji) (updN ml rc tl) (updN mb rc kp) (updN mf rc (np / 56)) mo my (np + 4) (updN (updN (updN (updN md np (lb (nI js))) (np + 1) (lb ((nI ji) >>> ((nI 8) &&& 31)))) (np + 2) (lb (nI ji))) (np + 3) (lb ((nI tl) >>> ((nI 8) &&& 31)))) (aU (aU (aU (aU mu np) (np + 1)) (np + 2)) (np + 3)) (aG (aG (aG (aF fi np) (np + 1)) (np + 2)) (np + 3)) (aS (aS (aS (aS sp np) (np + 1)) (np + 2)) (np + 3)) sq H.size (nI tl) (by omega)) (cwV 2 hts gM_put_M_add rfl rfl rfl (by decide +kernel) ⟨Nat.le_of_ble_eq_true rfl, Nat.le_of_ble_eq_true rfl⟩) hK hP hD hS hA [0, 1, 2, 3, 4, 5, 6, 7, 8, 9, 10, 11, 12, 13] [] [0] rfl rfl (by decide) (by decide) (by decide) rfl 0 1 rfl rfl rfl rfl hl.1 rfl (Nat.le_of_ble_eq_true rfl) dM_put_140 ⟨Nat.zero_le _, Nat.zero_le _⟩ (fun H locs hP hD hS => ?_)
              have hP : va_P (dC, dI) vwCl (wM g m1 m2 m3 m4 m5 m6 m7 m8 m9 m10 m11 m12 m13 ci mt tl rc kp (updN ms rc js) (updN mi rc ji) (updN ml rc tl) (updN mb rc kp) (updN mf rc (np / 56)) mo my (((np + 4) + 1) / 56) (((np + 4) + 1) % 56) (updN (updN (updN (updN (updN md np (lb (nI js))) (np + 1) (lb ((nI ji) >>> ((nI 8) &&& 31)))) (np + 2) (lb (nI ji))) (np + 3) (lb ((nI tl) >>> ((nI 8) &&& 31)))) (np + 4) (lb (nI tl))) (aU (aU (aU (aU (aU mu np) (np + 1)) (np + 2)) (np + 3)) (np + 4)) (aG (aG (aG (aG (aF fi np) (np + 1)) (np + 2)) (np + 3)) (np + 4)) (aS (aS (aS (aS (aS sp np) (np + 1)) (np + 2)) (np + 3)) (np + 4)) sq) H := hP
              have hD : va_D A (wM g m1 m2 m3 m4 m5 m6 m7 m8 m9 m10 m11 m12 m13 ci mt tl rc kp (updN ms rc js) (updN mi rc ji) (updN ml rc tl) (updN mb rc kp) (updN mf rc (np / 56)) mo my (((np + 4) + 1) / 56) (((np + 4) + 1) % 56) (updN (updN (updN (updN (updN md np (lb (nI js))) (np + 1) (lb ((nI ji) >>> ((nI 8) &&& 31)))) (np + 2) (lb (nI ji))) (np + 3) (lb ((nI tl) >>> ((nI 8) &&& 31)))) (np + 4) (lb (nI tl))) (aU (aU (aU (aU (aU mu np) (np + 1)) (np + 2)) (np + 3)) (np + 4)) (aG (aG (aG (aG (aF fi np) (np + 1)) (np + 2)) (np + 3)) (np + 4)) (aS (aS (aS (aS (aS sp np) (np + 1)) (np + 2)) (np + 3)) (np + 4)) sq) := hD
              refine lv_aload_n hx hb dM_put_143 rfl (lv_at hl 1 rfl) ?_
              refine va_get (D := (dC, dI)) (ci := 1) (v := .ref m7) (C := RX1) (T := TX1) (N := 19) hx hb hts hin1 hown hK hP 0 rfl rfl 10 (by decide) lkf28 (fun _ h9 => h9) rfl dM_put_144 ?_
              refine lv_iload_n hx hb dM_put_147 rfl (lv_at hl 0 rfl) ?_
              refine lv_aload_n hx hb dM_put_148 rfl (lv_at hl 1 rfl) ?_
              refine va_get (D := (dC, dI)) (ci := 1) (v := .int (nI (((np + 4) + 1) / 56))) (C := RX1) (T := TX1) (N := 19) hx hb hts hin1 hown hK hP 0 rfl rfl 12 (by decide) lkf56 (fun _ h9 => h9) rfl dM_put_149 ?_
              refine ka_iastN hx hb hK hP hD hS 7 0 rfl rfl (k := rc) (x := ((np + 4) + 1) / 56) (by omega) (by decide) dM_put_152 (fun H locs hP hD hS => ?_)
              have hP : va_P (dC, dI) vwCl (wM g m1 m2 m3 m4 m5 m6 m7 m8 m9 m10 m11 m12 m13 ci mt tl rc kp (updN ms rc js) (updN mi rc ji) (updN ml rc tl) (updN mb rc kp) (updN mf rc (np / 56)) (updN mo rc (((np + 4) + 1) / 56)) my (((np + 4) + 1) / 56) (((np + 4) + 1) % 56) (updN (updN (updN (updN (updN md np (lb (nI js))) (np + 1) (lb ((nI ji) >>> ((nI 8) &&& 31)))) (np + 2) (lb (nI ji))) (np + 3) (lb ((nI tl) >>> ((nI 8) &&& 31)))) (np + 4) (lb (nI tl))) (aU (aU (aU (aU (aU mu np) (np + 1)) (np + 2)) (np + 3)) (np + 4)) (aG (aG (aG (aG (aF fi np) (np + 1)) (np + 2)) (np + 3)) (np + 4)) (aS (aS (aS (aS (aS sp np) (np + 1)) (np + 2)) (np + 3)) (np + 4)) sq) H := hP
              have hD : va_D A (wM g m1 m2 m3 m4 m5 m6 m7 m8 m9 m10 m11 m12 m13 ci mt tl rc kp (updN ms rc js) (updN mi rc ji) (updN ml rc tl) (updN mb rc kp) (updN mf rc (np / 56)) (updN mo rc (((np + 4) + 1) / 56)) my (((np + 4) + 1) / 56) (((np + 4) + 1) % 56) (updN (updN (updN (updN (updN md np (lb (nI js))) (np + 1) (lb ((nI ji) >>> ((nI 8) &&& 31)))) (np + 2) (lb (nI ji))) (np + 3) (lb ((nI tl) >>> ((nI 8) &&& 31)))) (np + 4) (lb (nI tl))) (aU (aU (aU (aU (aU mu np) (np + 1)) (np + 2)) (np + 3)) (np + 4)) (aG (aG (aG (aG (aF fi np) (np + 1)) (np + 2)) (np + 3)) (np + 4)) (aS (aS (aS (aS (aS sp np) (np + 1)) (np + 2)) (np + 3)) (np + 4)) sq) := hD
              refine lv_aload_n hx hb dM_put_153 rfl (lv_at hl 1 rfl) ?_
              refine lv_bipush (v := nI 90) hx hb dM_put_154 (by decide) ?_
              refine lv_iconst (v := nI 0) hx hb dM_put_156 (by decide) ?_
              refine kc_vv (WR := []) (As := [.int (nI 90), .int (nI 0)]) (rest := []) ⟨hx, hb, hml, hown, hts⟩ (r_add0 l dC dI g m1 m2 m3 m4 m5 m6 m7 m8 m9 m10 m11 m12 m13 ci mt tl rc kp (updN ms rc js) (updN mi rc ji) (updN ml rc tl) (updN mb rc kp) (updN mf rc (np / 56)) (updN mo rc (((np + 4) + 1) / 56)) my (np + 5) (updN (updN (updN (updN (updN md np (lb (nI js))) (np + 1) (lb ((nI ji) >>> ((nI 8) &&& 31)))) (np + 2) (lb (nI ji))) (np + 3) (lb ((nI tl) >>> ((nI 8) &&& 31)))) (np + 4) (lb (nI tl))) (aU (aU (aU (aU (aU mu np) (np + 1)) (np + 2)) (np + 3)) (np + 4)) (aG (aG (aG (aG (aF fi np) (np + 1)) (np + 2)) (np + 3)) (np + 4)) (aS (aS (aS (aS (aS sp np) (np + 1)) (np + 2)) (np + 3)) (np + 4)) sq H.size (nI 90) (by omega)) (cwV 2 hts gM_put_M_add rfl rfl rfl (by decide +kernel) ⟨Nat.le_of_ble_eq_true rfl, Nat.le_of_ble_eq_true rfl⟩) hK hP hD hS hA [0, 1, 2, 3, 4, 5, 6, 7, 8, 9, 10, 11, 12, 13] [] [0] rfl rfl (by decide) (by decide) (by decide) rfl 0 1 rfl rfl rfl rfl hl.1 rfl (Nat.le_of_ble_eq_true rfl) dM_put_157 ⟨Nat.zero_le _, Nat.zero_le _⟩ (fun H locs hP hD hS => ?_)
              have hP : va_P (dC, dI) vwCl (wM g m1 m2 m3 m4 m5 m6 m7 m8 m9 m10 m11 m12 m13 ci mt tl rc kp (updN ms rc js) (updN mi rc ji) (updN ml rc tl) (updN mb rc kp) (updN mf rc (np / 56)) (updN mo rc (((np + 4) + 1) / 56)) my (((np + 5) + 1) / 56) (((np + 5) + 1) % 56) (updN (updN (updN (updN (updN (updN md np (lb (nI js))) (np + 1) (lb ((nI ji) >>> ((nI 8) &&& 31)))) (np + 2) (lb (nI ji))) (np + 3) (lb ((nI tl) >>> ((nI 8) &&& 31)))) (np + 4) (lb (nI tl))) (np + 5) (lb (nI 90))) (aU (aU (aU (aU (aU (aU mu np) (np + 1)) (np + 2)) (np + 3)) (np + 4)) (np + 5)) (aG (aG (aG (aG (aG (aF fi np) (np + 1)) (np + 2)) (np + 3)) (np + 4)) (np + 5)) (aS (aS (aS (aS (aS (aS sp np) (np + 1)) (np + 2)) (np + 3)) (np + 4)) (np + 5)) sq) H := hP
              have hD : va_D A (wM g m1 m2 m3 m4 m5 m6 m7 m8 m9 m10 m11 m12 m13 ci mt tl rc kp (updN ms rc js) (updN mi rc ji) (updN ml rc tl) (updN mb rc kp) (updN mf rc (np / 56)) (updN mo rc (((np + 4) + 1) / 56)) my (((np + 5) + 1) / 56) (((np + 5) + 1) % 56) (updN (updN (updN (updN (updN (updN md np (lb (nI js))) (np + 1) (lb ((nI ji) >>> ((nI 8) &&& 31)))) (np + 2) (lb (nI ji))) (np + 3) (lb ((nI tl) >>> ((nI 8) &&& 31)))) (np + 4) (lb (nI tl))) (np + 5) (lb (nI 90))) (aU (aU (aU (aU (aU (aU mu np) (np + 1)) (np + 2)) (np + 3)) (np + 4)) (np + 5)) (aG (aG (aG (aG (aG (aF fi np) (np + 1)) (np + 2)) (np + 3)) (np + 4)) (np + 5)) (aS (aS (aS (aS (aS (aS sp np) (np + 1)) (np + 2)) (np + 3)) (np + 4)) (np + 5)) sq) := hD
              have hP : va_P (dC, dI) vwCl (wM g m1 m2 m3 m4 m5 m6 m7 m8 m9 m10 m11 m12 m13 ci mt tl rc kp (updN ms rc js) (updN mi rc ji) (updN ml rc tl) (updN mb rc kp) (updN mf rc (np / 56)) (updN mo rc (((np + 4) + 1) / 56)) my ((np + 6) / 56) ((np + 6) % 56) (hD6 md np (nI js) (nI ji) tl) (lU mu np 6) (lG (aF fi np) (np + 1) 5) (lS sp np 6) sq) H := hP
              have hD : va_D A (wM g m1 m2 m3 m4 m5 m6 m7 m8 m9 m10 m11 m12 m13 ci mt tl rc kp (updN ms rc js) (updN mi rc ji) (updN ml rc tl) (updN mb rc kp) (updN mf rc (np / 56)) (updN mo rc (((np + 4) + 1) / 56)) my ((np + 6) / 56) ((np + 6) % 56) (hD6 md np (nI js) (nI ji) tl) (lU mu np 6) (lG (aF fi np) (np + 1) 5) (lS sp np 6) sq) := hD
              refine lv_iconst (v := nI 0) hx hb dM_put_160 (by decide) ?_
              refine lv_istore (lv' := [(4, .int (nI 0)), (3, .int (nI rc)), (0, .ref g), (1, .int (nI js)), (2, .int (nI ji))]) hx hb dM_put_161 hl (by decide) rfl (fun ls hl => ?_)
              have hloopk : ∀ (n k : Nat), k ≤ tl → tl + 1 ≤ k + n → ∀ (H : Heap) (locs : List Loc) (ls : Array Slot), va_P (dC, dI) vwCl (wM g m1 m2 m3 m4 m5 m6 m7 m8 m9 m10 m11 m12 m13 ci mt tl rc (kp + k) (updN ms rc js) (updN mi rc ji) (updN ml rc tl) (updN mb rc kp) (updN mf rc (np / 56)) (lO (updN mo rc ((np + 5) / 56)) rc (np + 6) k) (lY my kp mt k) ((np + 6 + k) / 56) ((np + 6 + k) % 56) (lD (hD6 md np (nI js) (nI ji) tl) (np + 6) mt k) (lU (lU mu np 6) (np + 6) k) (lG (lG (aF fi np) (np + 1) 5) (np + 6) k) (lS (lS sp np 6) (np + 6) k) sq) H → va_D A (wM g m1 m2 m3 m4 m5 m6 m7 m8 m9 m10 m11 m12 m13 ci mt tl rc (kp + k) (updN ms rc js) (updN mi rc ji) (updN ml rc tl) (updN mb rc kp) (updN mf rc (np / 56)) (lO (updN mo rc ((np + 5) / 56)) rc (np + 6) k) (lY my kp mt k) ((np + 6 + k) / 56) ((np + 6 + k) % 56) (lD (hD6 md np (nI js) (nI ji) tl) (np + 6) mt k) (lU (lU mu np 6) (np + 6) k) (lG (lG (aF fi np) (np + 1) 5) (np + 6) k) (lS (lS sp np 6) (np + 6) k) sq) → va_S A s.heap H locs → lv_has ls 5 [(4, .int (nI k)), (0, .ref g), (3, .int (nI rc))] → W p l e ({ frames := 2, cells := 0, slots := 0, locals := 42 }) s m ([.ref g, .int (nI js), .int (nI ji)] : List Value).toArray below meth c H locs 0 0 Q (F0 m 163 ls []) := by
                intro n
                induction n with
                | zero => intro k h1 h2; exact absurd h2 (by omega)
                | succ n ih =>
                  intro k hkA hkB H locs ls hP hD hS hl
                  refine lv_iload hx hb dM_put_163 (lv_at hl 0 rfl) ?_
                  refine lv_aload_n hx hb dM_put_165 rfl (lv_at hl 1 rfl) ?_
                  refine va_get (D := (dC, dI)) (ci := 1) (v := .int (nI tl)) (C := RX1) (T := TX1) (N := 19) hx hb hts hin1 hown hK hP 0 rfl rfl 2 (by decide) lkf53 (fun _ h9 => h9) rfl dM_put_166 ?_
                  refine lv_icmp_ge (tgt := 226) hx hb dM_put_169 (by decide) (fun c_169 => ?_) (fun c_169 => ?_)
                  · have c_169 := (nI_leI (by omega) (by omega)).mp c_169
                    have hkE : k = tl := by omega
                    rw [hkE] at hP hD
                    refine lv_aload_n hx hb dM_put_226 rfl (lv_at hl 1 rfl) ?_
                    refine lv_dup hx hb dM_put_227 rfl ?_
                    refine va_get (D := (dC, dI)) (ci := 1) (v := .int (nI rc)) (C := RX1) (T := TX1) (N := 19) hx hb hts hin1 hown hK hP 0 rfl rfl 3 (by decide) lkf66 (fun _ h9 => h9) rfl dM_put_228 ?_
                    refine lv_iconst (v := nI 1) hx hb dM_put_231 (by decide) ?_
                    refine lv_iadd hx hb dM_put_232 ?_
                    refine kv_top (show _ = nI (rc + 1) from nI_add _ _) ?_
                    refine va_put (D := (dC, dI)) (ci := 1) (v := .int (nI (rc + 1))) (ty := .int) (C := RX1) (T := TX1) (N := 19) hx hb hts hin1 tyX1 tyX1_ok nmX1 hown hK hP hD hS 0 rfl rfl 3 (by decide) lkf66 (fun _ h9 => h9) rfl (by decide +kernel) rfl rfl (Nat.le_of_ble_eq_true rfl) dM_put_233 (fun H locs hP hD hS => ?_)
                    have hP : va_P (dC, dI) vwCl (wM g m1 m2 m3 m4 m5 m6 m7 m8 m9 m10 m11 m12 m13 ci mt tl (rc + 1) (kp + tl) (updN ms rc js) (updN mi rc ji) (updN ml rc tl) (updN mb rc kp) (updN mf rc (np / 56)) (lO (updN mo rc ((np + 5) / 56)) rc (np + 6) tl) (lY my kp mt tl) ((np + 6 + tl) / 56) ((np + 6 + tl) % 56) (lD (hD6 md np (nI js) (nI ji) tl) (np + 6) mt tl) (lU (lU mu np 6) (np + 6) tl) (lG (lG (aF fi np) (np + 1) 5) (np + 6) tl) (lS (lS sp np 6) (np + 6) tl) sq) H := hP
                    have hD : va_D A (wM g m1 m2 m3 m4 m5 m6 m7 m8 m9 m10 m11 m12 m13 ci mt tl (rc + 1) (kp + tl) (updN ms rc js) (updN mi rc ji) (updN ml rc tl) (updN mb rc kp) (updN mf rc (np / 56)) (lO (updN mo rc ((np + 5) / 56)) rc (np + 6) tl) (lY my kp mt tl) ((np + 6 + tl) / 56) ((np + 6 + tl) % 56) (lD (hD6 md np (nI js) (nI ji) tl) (np + 6) mt tl) (lU (lU mu np 6) (np + 6) tl) (lG (lG (aF fi np) (np + 1) 5) (np + 6) tl) (lS (lS sp np 6) (np + 6) tl) sq) := hD
                    refine lv_aload_n hx hb dM_put_236 rfl (lv_at hl 1 rfl) ?_
                    refine lv_iconst (v := nI 0) hx hb dM_put_237 (by decide) ?_
                    refine va_put (D := (dC, dI)) (ci := 1) (v := .int (nI 0)) (ty := .int) (C := RX1) (T := TX1) (N := 19) hx hb hts hin1 tyX1 tyX1_ok nmX1 hown hK hP hD hS 0 rfl rfl 2 (by decide) lkf53 (fun _ h9 => h9) rfl (by decide +kernel) rfl rfl (Nat.le_of_ble_eq_true rfl) dM_put_238 (fun H locs hP hD hS => ?_)
                    have hP : va_P (dC, dI) vwCl (wM g m1 m2 m3 m4 m5 m6 m7 m8 m9 m10 m11 m12 m13 ci mt 0 (rc + 1) (kp + tl) (updN ms rc js) (updN mi rc ji) (updN ml rc tl) (updN mb rc kp) (updN mf rc (np / 56)) (lO (updN mo rc ((np + 5) / 56)) rc (np + 6) tl) (lY my kp mt tl) ((np + 6 + tl) / 56) ((np + 6 + tl) % 56) (lD (hD6 md np (nI js) (nI ji) tl) (np + 6) mt tl) (lU (lU mu np 6) (np + 6) tl) (lG (lG (aF fi np) (np + 1) 5) (np + 6) tl) (lS (lS sp np 6) (np + 6) tl) sq) H := hP
                    have hD : va_D A (wM g m1 m2 m3 m4 m5 m6 m7 m8 m9 m10 m11 m12 m13 ci mt 0 (rc + 1) (kp + tl) (updN ms rc js) (updN mi rc ji) (updN ml rc tl) (updN mb rc kp) (updN mf rc (np / 56)) (lO (updN mo rc ((np + 5) / 56)) rc (np + 6) tl) (lY my kp mt tl) ((np + 6 + tl) / 56) ((np + 6 + tl) % 56) (lD (hD6 md np (nI js) (nI ji) tl) (np + 6) mt tl) (lU (lU mu np 6) (np + 6) tl) (lG (lG (aF fi np) (np + 1) 5) (np + 6) tl) (lS (lS sp np 6) (np + 6) tl) sq) := hD
                    refine lv_iload_n hx hb dM_put_241 rfl (lv_at hl 2 rfl) ?_
                    exact hret _ _ _ _ hP hD hS dM_put_242
                  · have c_169 := kmt (nI_leI (by omega) (by omega)).mpr c_169
                    refine lv_aload_n hx hb dM_put_172 rfl (lv_at hl 1 rfl) ?_
                    refine va_get (D := (dC, dI)) (ci := 1) (v := .ref m8) (C := RX1) (T := TX1) (N := 19) hx hb hts hin1 hown hK hP 0 rfl rfl 11 (by decide) lkf31 (fun _ h9 => h9) rfl dM_put_173 ?_
                    refine lv_aload_n hx hb dM_put_176 rfl (lv_at hl 1 rfl) ?_
                    refine va_get (D := (dC, dI)) (ci := 1) (v := .int (nI (kp + k))) (C := RX1) (T := TX1) (N := 19) hx hb hts hin1 hown hK hP 0 rfl rfl 4 (by decide) lkf73 (fun _ h9 => h9) rfl dM_put_177 ?_
                    refine lv_aload_n hx hb dM_put_180 rfl (lv_at hl 1 rfl) ?_
                    refine va_get (D := (dC, dI)) (ci := 1) (v := .ref m1) (C := RX1) (T := TX1) (N := 19) hx hb hts hin1 hown hK hP 0 rfl rfl 1 (by decide) lkf7 (fun _ h9 => h9) rfl dM_put_181 ?_
                    refine lv_iload hx hb dM_put_184 (lv_at hl 0 rfl) ?_
                    refine ka_ialdN hx hb hK hP 1 0 rfl rfl (k := k) (by omega) (by decide) dM_put_186 ?_
                    refine ka_iastN hx hb hK hP hD hS 8 0 rfl rfl (k := kp + k) (x := mt k) (by omega) (by decide) dM_put_187 (fun H locs hP hD hS => ?_)
                    have hP : va_P (dC, dI) vwCl (wM g m1 m2 m3 m4 m5 m6 m7 m8 m9 m10 m11 m12 m13 ci mt tl rc (kp + k) (updN ms rc js) (updN mi rc ji) (updN ml rc tl) (updN mb rc kp) (updN mf rc (np / 56)) (lO (updN mo rc ((np + 5) / 56)) rc (np + 6) k) (updN (lY my kp mt k) (kp + k) (mt k)) ((np + 6 + k) / 56) ((np + 6 + k) % 56) (lD (hD6 md np (nI js) (nI ji) tl) (np + 6) mt k) (lU (lU mu np 6) (np + 6) k) (lG (lG (aF fi np) (np + 1) 5) (np + 6) k) (lS (lS sp np 6) (np + 6) k) sq) H := hP
                    have hD : va_D A (wM g m1 m2 m3 m4 m5 m6 m7 m8 m9 m10 m11 m12 m13 ci mt tl rc (kp + k) (updN ms rc js) (updN mi rc ji) (updN ml rc tl) (updN mb rc kp) (updN mf rc (np / 56)) (lO (updN mo rc ((np + 5) / 56)) rc (np + 6) k) (updN (lY my kp mt k) (kp + k) (mt k)) ((np + 6 + k) / 56) ((np + 6 + k) % 56) (lD (hD6 md np (nI js) (nI ji) tl) (np + 6) mt k) (lU (lU mu np 6) (np + 6) k) (lG (lG (aF fi np) (np + 1) 5) (np + 6) k) (lS (lS sp np 6) (np + 6) k) sq) := hD
                    refine lv_aload_n hx hb dM_put_188 rfl (lv_at hl 1 rfl) ?_
                    refine lv_dup hx hb dM_put_189 rfl ?_
                    refine va_get (D := (dC, dI)) (ci := 1) (v := .int (nI (kp + k))) (C := RX1) (T := TX1) (N := 19) hx hb hts hin1 hown hK hP 0 rfl rfl 4 (by decide) lkf73 (fun _ h9 => h9) rfl dM_put_190 ?_
                    refine lv_iconst (v := nI 1) hx hb dM_put_193 (by decide) ?_
                    refine lv_iadd hx hb dM_put_194 ?_
                    refine kv_top (show _ = nI ((kp + k) + 1) from nI_add _ _) ?_
                    refine va_put (D := (dC, dI)) (ci := 1) (v := .int (nI ((kp + k) + 1))) (ty := .int) (C := RX1) (T := TX1) (N := 19) hx hb hts hin1 tyX1 tyX1_ok nmX1 hown hK hP hD hS 0 rfl rfl 4 (by decide) lkf73 (fun _ h9 => h9) rfl (by decide +kernel) rfl rfl (Nat.le_of_ble_eq_true rfl) dM_put_195 (fun H locs hP hD hS => ?_)
                    have hP : va_P (dC, dI) vwCl (wM g m1 m2 m3 m4 m5 m6 m7 m8 m9 m10 m11 m12 m13 ci mt tl rc ((kp + k) + 1) (updN ms rc js) (updN mi rc ji) (updN ml rc tl) (updN mb rc kp) (updN mf rc (np / 56)) (lO (updN mo rc ((np + 5) / 56)) rc (np + 6) k) (updN (lY my kp mt k) (kp + k) (mt k)) ((np + 6 + k) / 56) ((np + 6 + k) % 56) (lD (hD6 md np (nI js) (nI ji) tl) (np + 6) mt k) (lU (lU mu np 6) (np + 6) k) (lG (lG (aF fi np) (np + 1) 5) (np + 6) k) (lS (lS sp np 6) (np + 6) k) sq) H := hP
                    have hD : va_D A (wM g m1 m2 m3 m4 m5 m6 m7 m8 m9 m10 m11 m12 m13 ci mt tl rc ((kp + k) + 1) (updN ms rc js) (updN mi rc ji) (updN ml rc tl) (updN mb rc kp) (updN mf rc (np / 56)) (lO (updN mo rc ((np + 5) / 56)) rc (np + 6) k) (updN (lY my kp mt k) (kp + k) (mt k)) ((np + 6 + k) / 56) ((np + 6 + k) % 56) (lD (hD6 md np (nI js) (nI ji) tl) (np + 6) mt k) (lU (lU mu np 6) (np + 6) k) (lG (lG (aF fi np) (np + 1) 5) (np + 6) k) (lS (lS sp np 6) (np + 6) k) sq) := hD
                    refine lv_aload_n hx hb dM_put_198 rfl (lv_at hl 1 rfl) ?_
                    refine va_get (D := (dC, dI)) (ci := 1) (v := .ref m7) (C := RX1) (T := TX1) (N := 19) hx hb hts hin1 hown hK hP 0 rfl rfl 10 (by decide) lkf28 (fun _ h9 => h9) rfl dM_put_199 ?_
                    refine lv_iload_n hx hb dM_put_202 rfl (lv_at hl 2 rfl) ?_
                    refine lv_aload_n hx hb dM_put_203 rfl (lv_at hl 1 rfl) ?_
                    refine va_get (D := (dC, dI)) (ci := 1) (v := .int (nI ((np + 6 + k) / 56))) (C := RX1) (T := TX1) (N := 19) hx hb hts hin1 hown hK hP 0 rfl rfl 12 (by decide) lkf56 (fun _ h9 => h9) rfl dM_put_204 ?_
                    refine ka_iastN hx hb hK hP hD hS 7 0 rfl rfl (k := rc) (x := (np + 6 + k) / 56) (by omega) (by decide) dM_put_207 (fun H locs hP hD hS => ?_)
                    have hP : va_P (dC, dI) vwCl (wM g m1 m2 m3 m4 m5 m6 m7 m8 m9 m10 m11 m12 m13 ci mt tl rc ((kp + k) + 1) (updN ms rc js) (updN mi rc ji) (updN ml rc tl) (updN mb rc kp) (updN mf rc (np / 56)) (updN (lO (updN mo rc ((np + 5) / 56)) rc (np + 6) k) rc ((np + 6 + k) / 56)) (updN (lY my kp mt k) (kp + k) (mt k)) ((np + 6 + k) / 56) ((np + 6 + k) % 56) (lD (hD6 md np (nI js) (nI ji) tl) (np + 6) mt k) (lU (lU mu np 6) (np + 6) k) (lG (lG (aF fi np) (np + 1) 5) (np + 6) k) (lS (lS sp np 6) (np + 6) k) sq) H := hP
                    have hD : va_D A (wM g m1 m2 m3 m4 m5 m6 m7 m8 m9 m10 m11 m12 m13 ci mt tl rc ((kp + k) + 1) (updN ms rc js) (updN mi rc ji) (updN ml rc tl) (updN mb rc kp) (updN mf rc (np / 56)) (updN (lO (updN mo rc ((np + 5) / 56)) rc (np + 6) k) rc ((np + 6 + k) / 56)) (updN (lY my kp mt k) (kp + k) (mt k)) ((np + 6 + k) / 56) ((np + 6 + k) % 56) (lD (hD6 md np (nI js) (nI ji) tl) (np + 6) mt k) (lU (lU mu np 6) (np + 6) k) (lG (lG (aF fi np) (np + 1) 5) (np + 6) k) (lS (lS sp np 6) (np + 6) k) sq) := hD
                    refine lv_aload_n hx hb dM_put_208 rfl (lv_at hl 1 rfl) ?_
                    refine lv_aload_n hx hb dM_put_209 rfl (lv_at hl 1 rfl) ?_
                    refine va_get (D := (dC, dI)) (ci := 1) (v := .ref m1) (C := RX1) (T := TX1) (N := 19) hx hb hts hin1 hown hK hP 0 rfl rfl 1 (by decide) lkf7 (fun _ h9 => h9) rfl dM_put_210 ?_
                    refine lv_iload hx hb dM_put_213 (lv_at hl 0 rfl) ?_
                    refine ka_ialdN hx hb hK hP 1 0 rfl rfl (k := k) (by omega) (by decide) dM_put_215 ?_
                    refine lv_iconst (v := nI 0) hx hb dM_put_216 (by decide) ?_
                    refine kc_vv (WR := []) (As := [.int (nI (mt k)), .int (nI 0)]) (rest := []) ⟨hx, hb, hml, hown, hts⟩ (r_add0 l dC dI g m1 m2 m3 m4 m5 m6 m7 m8 m9 m10 m11 m12 m13 ci mt tl rc ((kp + k) + 1) (updN ms rc js) (updN mi rc ji) (updN ml rc tl) (updN mb rc kp) (updN mf rc (np / 56)) (updN (lO (updN mo rc ((np + 5) / 56)) rc (np + 6) k) rc ((np + 6 + k) / 56)) (updN (lY my kp mt k) (kp + k) (mt k)) (np + 6 + k) (lD (hD6 md np (nI js) (nI ji) tl) (np + 6) mt k) (lU (lU mu np 6) (np + 6) k) (lG (lG (aF fi np) (np + 1) 5) (np + 6) k) (lS (lS sp np 6) (np + 6) k) sq H.size (nI (mt k)) (by omega)) (cwV 2 hts gM_put_M_add rfl rfl rfl (by decide +kernel) ⟨Nat.le_of_ble_eq_true rfl, Nat.le_of_ble_eq_true rfl⟩) hK hP hD hS hA [0, 1, 2, 3, 4, 5, 6, 7, 8, 9, 10, 11, 12, 13] [] [0] rfl rfl (by decide) (by decide) (by decide) rfl 0 1 rfl rfl rfl rfl hl.1 rfl (Nat.le_of_ble_eq_true rfl) dM_put_217 ⟨Nat.zero_le _, Nat.zero_le _⟩ (fun H locs hP hD hS => ?_)
                    have hP : va_P (dC, dI) vwCl (wM g m1 m2 m3 m4 m5 m6 m7 m8 m9 m10 m11 m12 m13 ci mt tl rc ((kp + k) + 1) (updN ms rc js) (updN mi rc ji) (updN ml rc tl) (updN mb rc kp) (updN mf rc (np / 56)) (updN (lO (updN mo rc ((np + 5) / 56)) rc (np + 6) k) rc ((np + 6 + k) / 56)) (updN (lY my kp mt k) (kp + k) (mt k)) (((np + 6 + k) + 1) / 56) (((np + 6 + k) + 1) % 56) (updN (lD (hD6 md np (nI js) (nI ji) tl) (np + 6) mt k) (np + 6 + k) (lb (nI (mt k)))) (aU (lU (lU mu np 6) (np + 6) k) (np + 6 + k)) (aG (lG (lG (aF fi np) (np + 1) 5) (np + 6) k) (np + 6 + k)) (aS (lS (lS sp np 6) (np + 6) k) (np + 6 + k)) sq) H := hP
                    have hD : va_D A (wM g m1 m2 m3 m4 m5 m6 m7 m8 m9 m10 m11 m12 m13 ci mt tl rc ((kp + k) + 1) (updN ms rc js) (updN mi rc ji) (updN ml rc tl) (updN mb rc kp) (updN mf rc (np / 56)) (updN (lO (updN mo rc ((np + 5) / 56)) rc (np + 6) k) rc ((np + 6 + k) / 56)) (updN (lY my kp mt k) (kp + k) (mt k)) (((np + 6 + k) + 1) / 56) (((np + 6 + k) + 1) % 56) (updN (lD (hD6 md np (nI js) (nI ji) tl) (np + 6) mt k) (np + 6 + k) (lb (nI (mt k)))) (aU (lU (lU mu np 6) (np + 6) k) (np + 6 + k)) (aG (lG (lG (aF fi np) (np + 1) 5) (np + 6) k) (np + 6 + k)) (aS (lS (lS sp np 6) (np + 6) k) (np + 6 + k)) sq) := hD
                    refine lv_iinc (v := nI (k + 1)) (lv' := [(4, .int (nI (k + 1))), (0, .ref g), (3, .int (nI rc))]) hx hb dM_put_220 hl (k := 0) rfl (ki_inc _) (by decide) rfl (fun ls hl => ?_)
                    refine lv_goto (tgt := 163) hx hb dM_put_223 (by decide) ?_
                    have hP : va_P (dC, dI) vwCl (wM g m1 m2 m3 m4 m5 m6 m7 m8 m9 m10 m11 m12 m13 ci mt tl rc (kp + (k + 1)) (updN ms rc js) (updN mi rc ji) (updN ml rc tl) (updN mb rc kp) (updN mf rc (np / 56)) (lO (updN mo rc ((np + 5) / 56)) rc (np + 6) (k + 1)) (lY my kp mt (k + 1)) ((np + 6 + (k + 1)) / 56) ((np + 6 + (k + 1)) % 56) (lD (hD6 md np (nI js) (nI ji) tl) (np + 6) mt (k + 1)) (lU (lU mu np 6) (np + 6) (k + 1)) (lG (lG (aF fi np) (np + 1) 5) (np + 6) (k + 1)) (lS (lS sp np 6) (np + 6) (k + 1)) sq) H := hP
                    have hD : va_D A (wM g m1 m2 m3 m4 m5 m6 m7 m8 m9 m10 m11 m12 m13 ci mt tl rc (kp + (k + 1)) (updN ms rc js) (updN mi rc ji) (updN ml rc tl) (updN mb rc kp) (updN mf rc (np / 56)) (lO (updN mo rc ((np + 5) / 56)) rc (np + 6) (k + 1)) (lY my kp mt (k + 1)) ((np + 6 + (k + 1)) / 56) ((np + 6 + (k + 1)) % 56) (lD (hD6 md np (nI js) (nI ji) tl) (np + 6) mt (k + 1)) (lU (lU mu np 6) (np + 6) (k + 1)) (lG (lG (aF fi np) (np + 1) 5) (np + 6) (k + 1)) (lS (lS sp np 6) (np + 6) (k + 1)) sq) := hD
                    exact ih (k + 1) (by omega) (by omega) _ _ _ hP hD hS (lv_sub hl [0, 1, 2] rfl)
              have hP : va_P (dC, dI) vwCl (wM g m1 m2 m3 m4 m5 m6 m7 m8 m9 m10 m11 m12 m13 ci mt tl rc (kp + (0)) (updN ms rc js) (updN mi rc ji) (updN ml rc tl) (updN mb rc kp) (updN mf rc (np / 56)) (lO (updN mo rc ((np + 5) / 56)) rc (np + 6) (0)) (lY my kp mt (0)) ((np + 6 + (0)) / 56) ((np + 6 + (0)) % 56) (lD (hD6 md np (nI js) (nI ji) tl) (np + 6) mt (0)) (lU (lU mu np 6) (np + 6) (0)) (lG (lG (aF fi np) (np + 1) 5) (np + 6) (0)) (lS (lS sp np 6) (np + 6) (0)) sq) H := hP
              have hD : va_D A (wM g m1 m2 m3 m4 m5 m6 m7 m8 m9 m10 m11 m12 m13 ci mt tl rc (kp + (0)) (updN ms rc js) (updN mi rc ji) (updN ml rc tl) (updN mb rc kp) (updN mf rc (np / 56)) (lO (updN mo rc ((np + 5) / 56)) rc (np + 6) (0)) (lY my kp mt (0)) ((np + 6 + (0)) / 56) ((np + 6 + (0)) % 56) (lD (hD6 md np (nI js) (nI ji) tl) (np + 6) mt (0)) (lU (lU mu np 6) (np + 6) (0)) (lG (lG (aF fi np) (np + 1) 5) (np + 6) (0)) (lS (lS sp np 6) (np + 6) (0)) sq) := hD
              exact hloopk (tl + 1) 0 (by omega) (by omega) _ _ _ hP hD hS (lv_sub hl [0, 2, 1] rfl)
            · have c_47 := kmt (nI_leI (by omega) (by omega)).mpr c_47
              exfalso; omega
set_option maxHeartbeats 4000000 in
set_option maxRecDepth 100000 in
theorem r_putN (l : Launch) (dC : Nat → ClassId) (dI : Nat → Nat → Nat) (g m1 m2 m3 m4 m5 m6 m7 m8 m9 m10 m11 m12 m13 : Nat) (ci : ClassId) (mt : Nat → Nat) (tl rc kp : Nat) (ms mi ml mb mf mo my : Nat → Nat) (np : Nat) (md mu fi : Nat → Nat) (sp : Nat → Int32) (sq : Nat → Nat) (sz : Nat) (sv : Int32) (iv : Int32) (htl : tl ≤ 300) (hnp : np ≤ 4480) (hrc : rc ≤ 200) (hno : ¬ (0 ≤ sv.toInt ∧ sv.toInt ≤ 255 ∧ 0 ≤ iv.toInt ∧ iv.toInt ≤ 65535 ∧ rc < 200 ∧ np + 6 + tl ≤ 4480)) : Met l yM_put wsM_put ({ frames := 2, cells := 0, slots := 0, locals := 42 }) (kPre (dC, dI) vwCl (wM g m1 m2 m3 m4 m5 m6 m7 m8 m9 m10 m11 m12 m13 ci mt tl rc kp ms mi ml mb mf mo my (np / 56) (np % 56) md mu fi sp sq) (tM ci) sz [.ref g, .int sv, .int iv]) (kQi (dC, dI) vwCl (wM g m1 m2 m3 m4 m5 m6 m7 m8 m9 m10 m11 m12 m13 ci mt tl rc kp ms mi ml mb mf mo my (np / 56) (np % 56) md mu fi sp sq) (tM ci) sz ((-1)) (wM g m1 m2 m3 m4 m5 m6 m7 m8 m9 m10 m11 m12 m13 ci mt tl rc kp ms mi ml mb mf mo my (np / 56) (np % 56) md mu fi sp sq)) 0 0 (va_A (wM g m1 m2 m3 m4 m5 m6 m7 m8 m9 m10 m11 m12 m13 ci mt tl rc kp ms mi ml mb mf mo my (np / 56) (np % 56) md mu fi sp sq) sz) := by
  refine kM_i (cc := cM_put) (maxL := 5) (by decide) rfl (Nat.le_of_ble_eq_true rfl) ?_
  intro p e s m below meth c A Q ls H locs S hP hK hD hS hA hl hret
  obtain ⟨hx, hb, hml, hown, hts⟩ := id S
  have hin1 : ∀ w ∈ u_ws RX1 TX1 19, w ∈ wsM_put := fun _ h => List.mem_cons_of_mem _ (List.mem_append_right _ h)
  have lkf49 := hts (.fieldLink RX1 49 "BlockTapeModel" "thrown" "I") (by decide +kernel)
  have lkc65 := hts (.constant RX1 65 (65535)) (by decide +kernel)
  have lkf66 := hts (.fieldLink RX1 66 "BlockTapeModel" "records" "I") (by decide +kernel)
  have lkf53 := hts (.fieldLink RX1 53 "BlockTapeModel" "taped" "I") (by decide +kernel)
  have hl : lv_has ls 5 [(0, .ref g), (1, .int sv), (2, .int iv)] := hl
  refine lv_aload_n hx hb dM_put_0 rfl (lv_at hl 0 rfl) ?_
  refine lv_iconst (v := nI 0) hx hb dM_put_1 (by decide) ?_
  refine va_put (D := (dC, dI)) (ci := 1) (v := .int (nI 0)) (ty := .int) (C := RX1) (T := TX1) (N := 19) hx hb hts hin1 tyX1 tyX1_ok nmX1 hown hK hP hD hS 0 rfl rfl 0 (by decide) lkf49 (fun _ h9 => h9) rfl (by decide +kernel) rfl rfl (Nat.le_of_ble_eq_true rfl) dM_put_2 (fun H locs hP hD hS => ?_)
  have hP : va_P (dC, dI) vwCl (wM g m1 m2 m3 m4 m5 m6 m7 m8 m9 m10 m11 m12 m13 ci mt tl rc kp ms mi ml mb mf mo my (np / 56) (np % 56) md mu fi sp sq) H := hP
  have hD : va_D A (wM g m1 m2 m3 m4 m5 m6 m7 m8 m9 m10 m11 m12 m13 ci mt tl rc kp ms mi ml mb mf mo my (np / 56) (np % 56) md mu fi sp sq) := hD
  refine lv_iload_n hx hb dM_put_5 rfl (lv_at hl 1 rfl) ?_
  refine lv_if_lt (tgt := 50) hx hb dM_put_6 (by decide) (fun c_6 => ?_) (fun c_6 => ?_)
  · have c_6 := (kx_lt0).mp c_6
    refine lv_iconst (v := (-1)) hx hb dM_put_50 (by decide) ?_
    exact hret _ _ _ _ hP hD hS dM_put_51
  · have c_6 := kmt (kx_lt0).mpr c_6
    refine lv_iload_n hx hb dM_put_9 rfl (lv_at hl 1 rfl) ?_
    refine lv_sipush (v := nI 255) hx hb dM_put_10 (by decide) ?_
    refine lv_icmp_gt (tgt := 50) hx hb dM_put_13 (by decide) (fun c_13 => ?_) (fun c_13 => ?_)
    · have c_13 := (kx_gt (by omega)).mp c_13
      refine lv_iconst (v := (-1)) hx hb dM_put_50 (by decide) ?_
      exact hret _ _ _ _ hP hD hS dM_put_51
    · have c_13 := kmt (kx_gt (by omega)).mpr c_13
      refine lv_iload_n hx hb dM_put_16 rfl (lv_at hl 2 rfl) ?_
      refine lv_if_lt (tgt := 50) hx hb dM_put_17 (by decide) (fun c_17 => ?_) (fun c_17 => ?_)
      · have c_17 := (kx_lt0).mp c_17
        refine lv_iconst (v := (-1)) hx hb dM_put_50 (by decide) ?_
        exact hret _ _ _ _ hP hD hS dM_put_51
      · have c_17 := kmt (kx_lt0).mpr c_17
        refine lv_iload_n hx hb dM_put_20 rfl (lv_at hl 2 rfl) ?_
        refine lv_ldc (v := nI 65535) hx hb hown lkc65 dM_put_21 ?_
        refine lv_icmp_gt (tgt := 50) hx hb dM_put_23 (by decide) (fun c_23 => ?_) (fun c_23 => ?_)
        · have c_23 := (kx_gt (by omega)).mp c_23
          refine lv_iconst (v := (-1)) hx hb dM_put_50 (by decide) ?_
          exact hret _ _ _ _ hP hD hS dM_put_51
        · have c_23 := kmt (kx_gt (by omega)).mpr c_23
          refine lv_aload_n hx hb dM_put_26 rfl (lv_at hl 0 rfl) ?_
          refine va_get (D := (dC, dI)) (ci := 1) (v := .int (nI rc)) (C := RX1) (T := TX1) (N := 19) hx hb hts hin1 hown hK hP 0 rfl rfl 3 (by decide) lkf66 (fun _ h9 => h9) rfl dM_put_27 ?_
          refine lv_sipush (v := nI 200) hx hb dM_put_30 (by decide) ?_
          refine lv_icmp_eq (tgt := 50) hx hb dM_put_33 (by decide) (fun c_33 => ?_) (fun c_33 => ?_)
          · have c_33 := (nI_eq (by omega) (by omega)).mp c_33
            refine lv_iconst (v := (-1)) hx hb dM_put_50 (by decide) ?_
            exact hret _ _ _ _ hP hD hS dM_put_51
          · have c_33 := kmt (nI_eq (by omega) (by omega)).mpr c_33
            refine lv_aload_n hx hb dM_put_36 rfl (lv_at hl 0 rfl) ?_
            refine kc_vi (WR := []) (As := []) (rest := []) ⟨hx, hb, hml, hown, hts⟩ (r_room l dC dI g m1 m2 m3 m4 m5 m6 m7 m8 m9 m10 m11 m12 m13 ci mt tl rc kp ms mi ml mb mf mo my np md mu fi sp sq H.size (by omega)) (cwV 0 hts gM_put_M_room rfl rfl rfl (by decide +kernel) ⟨Nat.le_of_ble_eq_true rfl, Nat.le_of_ble_eq_true rfl⟩) hK hP hD hS hA [0, 1, 2, 3, 4, 5, 6, 7, 8, 9, 10, 11, 12, 13] [] [0] rfl rfl (by decide) (by decide) (by decide) rfl 0 1 rfl rfl rfl rfl hl.1 rfl (Nat.le_of_ble_eq_true rfl) dM_put_37 ⟨Nat.zero_le _, Nat.zero_le _⟩ (fun H locs hP hD hS => ?_)
            have hP : va_P (dC, dI) vwCl (wM g m1 m2 m3 m4 m5 m6 m7 m8 m9 m10 m11 m12 m13 ci mt tl rc kp ms mi ml mb mf mo my (np / 56) (np % 56) md mu fi sp sq) H := hP
            have hD : va_D A (wM g m1 m2 m3 m4 m5 m6 m7 m8 m9 m10 m11 m12 m13 ci mt tl rc kp ms mi ml mb mf mo my (np / 56) (np % 56) md mu fi sp sq) := hD
            refine lv_bipush (v := nI 6) hx hb dM_put_40 (by decide) ?_
            refine lv_aload_n hx hb dM_put_42 rfl (lv_at hl 0 rfl) ?_
            refine va_get (D := (dC, dI)) (ci := 1) (v := .int (nI tl)) (C := RX1) (T := TX1) (N := 19) hx hb hts hin1 hown hK hP 0 rfl rfl 2 (by decide) lkf53 (fun _ h9 => h9) rfl dM_put_43 ?_
            refine lv_iadd hx hb dM_put_46 ?_
            refine kv_top (show _ = nI (6 + tl) from nI_add _ _) ?_
            refine lv_icmp_ge (tgt := 52) hx hb dM_put_47 (by decide) (fun c_47 => ?_) (fun c_47 => ?_)
            · have c_47 := (nI_leI (by omega) (by omega)).mp c_47
              exfalso; omega
            · have c_47 := kmt (nI_leI (by omega) (by omega)).mpr c_47
              refine lv_iconst (v := (-1)) hx hb dM_put_50 (by decide) ?_
              exact hret _ _ _ _ hP hD hS dM_put_51
set_option maxHeartbeats 4000000 in
set_option maxRecDepth 100000 in
theorem r_close (l : Launch) (dC : Nat → ClassId) (dI : Nat → Nat → Nat) (g m1 m2 m3 m4 m5 m6 m7 m8 m9 m10 m11 m12 m13 : Nat) (ci : ClassId) (mt : Nat → Nat) (tl rc kp : Nat) (ms mi ml mb mf mo my : Nat → Nat) (np : Nat) (md mu fi : Nat → Nat) (sp : Nat → Int32) (sq : Nat → Nat) (sz : Nat) (hnp : np ≤ 4480) (hu : np % 56 ≠ 0) : Met l yM_close wsM_close ({ frames := 1, cells := 0, slots := 0, locals := 20 }) (kPre (dC, dI) vwCl (wM g m1 m2 m3 m4 m5 m6 m7 m8 m9 m10 m11 m12 m13 ci mt tl rc kp ms mi ml mb mf mo my (np / 56) (np % 56) md mu fi sp sq) (tM ci) sz [.ref g]) (kQi (dC, dI) vwCl (wM g m1 m2 m3 m4 m5 m6 m7 m8 m9 m10 m11 m12 m13 ci mt tl rc kp ms mi ml mb mf mo my (np / 56) (np % 56) md mu fi sp sq) (tM ci) sz (nI 1) (wM g m1 m2 m3 m4 m5 m6 m7 m8 m9 m10 m11 m12 m13 ci mt tl rc kp ms mi ml mb mf mo my ((np + (56 - np % 56)) / 56) ((np + (56 - np % 56)) % 56) (cz md np (56 - np % 56)) (updN mu (np / 56) (np % 56)) fi sp sq)) 0 0 (va_A (wM g m1 m2 m3 m4 m5 m6 m7 m8 m9 m10 m11 m12 m13 ci mt tl rc kp ms mi ml mb mf mo my (np / 56) (np % 56) md mu fi sp sq) sz) := by
  refine kM_z (cc := cM_close) (maxL := 2) (by decide) rfl (Nat.le_of_ble_eq_true rfl) (rfl) ?_
  intro p e s m below meth c A Q ls H locs S hP hK hD hS hA hl hret
  obtain ⟨hx, hb, hml, hown, hts⟩ := id S
  have hin1 : ∀ w ∈ u_ws RX1 TX1 19, w ∈ wsM_close := fun _ h => List.mem_cons_of_mem _ (List.mem_append_right _ h)
  have lkf49 := hts (.fieldLink RX1 49 "BlockTapeModel" "thrown" "I") (by decide +kernel)
  have lkf59 := hts (.fieldLink RX1 59 "BlockTapeModel" "used" "I") (by decide +kernel)
  have lkf34 := hts (.fieldLink RX1 34 "BlockTapeModel" "data" "[I") (by decide +kernel)
  have lkf56 := hts (.fieldLink RX1 56 "BlockTapeModel" "written" "I") (by decide +kernel)
  have hl : lv_has ls 2 [(0, .ref g)] := hl
  refine lv_aload_n hx hb dM_close_0 rfl (lv_at hl 0 rfl) ?_
  refine lv_iconst (v := nI 0) hx hb dM_close_1 (by decide) ?_
  refine va_put (D := (dC, dI)) (ci := 1) (v := .int (nI 0)) (ty := .int) (C := RX1) (T := TX1) (N := 19) hx hb hts hin1 tyX1 tyX1_ok nmX1 hown hK hP hD hS 0 rfl rfl 0 (by decide) lkf49 (fun _ h9 => h9) rfl (by decide +kernel) rfl rfl (Nat.le_of_ble_eq_true rfl) dM_close_2 (fun H locs hP hD hS => ?_)
  have hP : va_P (dC, dI) vwCl (wM g m1 m2 m3 m4 m5 m6 m7 m8 m9 m10 m11 m12 m13 ci mt tl rc kp ms mi ml mb mf mo my (np / 56) (np % 56) md mu fi sp sq) H := hP
  have hD : va_D A (wM g m1 m2 m3 m4 m5 m6 m7 m8 m9 m10 m11 m12 m13 ci mt tl rc kp ms mi ml mb mf mo my (np / 56) (np % 56) md mu fi sp sq) := hD
  refine lv_aload_n hx hb dM_close_5 rfl (lv_at hl 0 rfl) ?_
  refine va_get (D := (dC, dI)) (ci := 1) (v := .int (nI (np % 56))) (C := RX1) (T := TX1) (N := 19) hx hb hts hin1 hown hK hP 0 rfl rfl 13 (by decide) lkf59 (fun _ h9 => h9) rfl dM_close_6 ?_
  refine lv_if_ne (tgt := 14) hx hb dM_close_9 (by decide) (fun c_9 => ?_) (fun c_9 => ?_)
  · have c_9 := kmt (kn_eq0 (by omega)).mpr c_9
    refine lv_aload_n hx hb dM_close_14 rfl (lv_at hl 0 rfl) ?_
    refine va_get (D := (dC, dI)) (ci := 1) (v := .int (nI (np % 56))) (C := RX1) (T := TX1) (N := 19) hx hb hts hin1 hown hK hP 0 rfl rfl 13 (by decide) lkf59 (fun _ h9 => h9) rfl dM_close_15 ?_
    refine lv_istore_n (lv' := [(1, .int (nI (np % 56))), (0, .ref g)]) hx hb dM_close_18 rfl hl (by decide) rfl (fun ls hl => ?_)
    have hloopk : ∀ (n k : Nat), k ≤ 56 - np % 56 → 56 - np % 56 + 1 ≤ k + n → ∀ (H : Heap) (locs : List Loc) (ls : Array Slot), va_P (dC, dI) vwCl (wM g m1 m2 m3 m4 m5 m6 m7 m8 m9 m10 m11 m12 m13 ci mt tl rc kp ms mi ml mb mf mo my (np / 56) (np % 56) (cz md np k) mu fi sp sq) H → va_D A (wM g m1 m2 m3 m4 m5 m6 m7 m8 m9 m10 m11 m12 m13 ci mt tl rc kp ms mi ml mb mf mo my (np / 56) (np % 56) (cz md np k) mu fi sp sq) → va_S A s.heap H locs → lv_has ls 2 [(1, .int (nI (np % 56 + k))), (0, .ref g)] → W p l e ({ frames := 1, cells := 0, slots := 0, locals := 20 }) s m ([.ref g] : List Value).toArray below meth c H locs 0 0 Q (F0 m 19 ls []) := by
      intro n
      induction n with
      | zero => intro k h1 h2; exact absurd h2 (by omega)
      | succ n ih =>
        intro k hkA hkB H locs ls hP hD hS hl
        refine lv_iload_n hx hb dM_close_19 rfl (lv_at hl 0 rfl) ?_
        refine lv_bipush (v := nI 56) hx hb dM_close_20 (by decide) ?_
        refine lv_icmp_ge (tgt := 46) hx hb dM_close_22 (by decide) (fun c_22 => ?_) (fun c_22 => ?_)
        · have c_22 := (nI_leI (by omega) (by omega)).mp c_22
          have hkE : k = 56 - np % 56 := by omega
          rw [hkE] at hP hD
          refine lv_aload_n hx hb dM_close_46 rfl (lv_at hl 1 rfl) ?_
          refine kc_vv (WR := []) (As := []) (rest := []) ⟨hx, hb, hml, hown, hts⟩ (r_write l dC dI g m1 m2 m3 m4 m5 m6 m7 m8 m9 m10 m11 m12 m13 ci mt tl rc kp ms mi ml mb mf mo my (np / 56) (np % 56) (cz md np (56 - np % 56)) mu fi sp sq H.size (by omega)) (cwV 0 hts gM_close_M_write rfl rfl rfl (by decide +kernel) ⟨Nat.le_of_ble_eq_true rfl, Nat.le_of_ble_eq_true rfl⟩) hK hP hD hS hA [0, 1, 2, 3, 4, 5, 6, 7, 8, 9, 10, 11, 12, 13] [] [0] rfl rfl (by decide) (by decide) (by decide) rfl 0 1 rfl rfl rfl rfl hl.1 rfl (Nat.le_of_ble_eq_true rfl) dM_close_47 ⟨Nat.zero_le _, Nat.zero_le _⟩ (fun H locs hP hD hS => ?_)
          have hP : va_P (dC, dI) vwCl (wM g m1 m2 m3 m4 m5 m6 m7 m8 m9 m10 m11 m12 m13 ci mt tl rc kp ms mi ml mb mf mo my ((np / 56) + 1) 0 (cz md np (56 - np % 56)) (updN mu (np / 56) (np % 56)) fi sp sq) H := hP
          have hD : va_D A (wM g m1 m2 m3 m4 m5 m6 m7 m8 m9 m10 m11 m12 m13 ci mt tl rc kp ms mi ml mb mf mo my ((np / 56) + 1) 0 (cz md np (56 - np % 56)) (updN mu (np / 56) (np % 56)) fi sp sq) := hD
          have hP : va_P (dC, dI) vwCl (wM g m1 m2 m3 m4 m5 m6 m7 m8 m9 m10 m11 m12 m13 ci mt tl rc kp ms mi ml mb mf mo my ((np + (56 - np % 56)) / 56) ((np + (56 - np % 56)) % 56) (cz md np (56 - np % 56)) (updN mu (np / 56) (np % 56)) fi sp sq) H := by rw [show (np + (56 - np % 56)) / 56 = (np / 56) + 1 by omega, show (np + (56 - np % 56)) % 56 = 0 by omega]; exact hP
          have hD : va_D A (wM g m1 m2 m3 m4 m5 m6 m7 m8 m9 m10 m11 m12 m13 ci mt tl rc kp ms mi ml mb mf mo my ((np + (56 - np % 56)) / 56) ((np + (56 - np % 56)) % 56) (cz md np (56 - np % 56)) (updN mu (np / 56) (np % 56)) fi sp sq) := by rw [show (np + (56 - np % 56)) / 56 = (np / 56) + 1 by omega, show (np + (56 - np % 56)) % 56 = 0 by omega]; exact hD
          refine lv_iconst (v := nI 1) hx hb dM_close_50 (by decide) ?_
          exact hret _ _ _ _ hP hD hS dM_close_51
        · have c_22 := kmt (nI_leI (by omega) (by omega)).mpr c_22
          refine lv_aload_n hx hb dM_close_25 rfl (lv_at hl 1 rfl) ?_
          refine va_get (D := (dC, dI)) (ci := 1) (v := .ref m9) (C := RX1) (T := TX1) (N := 19) hx hb hts hin1 hown hK hP 0 rfl rfl 14 (by decide) lkf34 (fun _ h9 => h9) rfl dM_close_26 ?_
          refine lv_bipush (v := nI 56) hx hb dM_close_29 (by decide) ?_
          refine lv_aload_n hx hb dM_close_31 rfl (lv_at hl 1 rfl) ?_
          refine va_get (D := (dC, dI)) (ci := 1) (v := .int (nI (np / 56))) (C := RX1) (T := TX1) (N := 19) hx hb hts hin1 hown hK hP 0 rfl rfl 12 (by decide) lkf56 (fun _ h9 => h9) rfl dM_close_32 ?_
          refine lv_imul hx hb dM_close_35 ?_
          refine kv_top (show _ = nI (56 * (np / 56)) from pk_mul _ _) ?_
          refine lv_iload_n hx hb dM_close_36 rfl (lv_at hl 0 rfl) ?_
          refine lv_iadd hx hb dM_close_37 ?_
          refine kv_top (show _ = nI ((56 * (np / 56)) + (np % 56 + k)) from nI_add _ _) ?_
          refine kv_top (show _ = nI (np + k) from (by rw [show (56 * (np / 56)) + (np % 56 + k) = np + k by omega])) ?_
          refine lv_iconst (v := nI 0) hx hb dM_close_38 (by decide) ?_
          refine ka_iastN hx hb hK hP hD hS 9 0 rfl rfl (k := np + k) (x := 0) (by omega) (by decide) dM_close_39 (fun H locs hP hD hS => ?_)
          have hP : va_P (dC, dI) vwCl (wM g m1 m2 m3 m4 m5 m6 m7 m8 m9 m10 m11 m12 m13 ci mt tl rc kp ms mi ml mb mf mo my (np / 56) (np % 56) (updN (cz md np k) (np + k) 0) mu fi sp sq) H := hP
          have hD : va_D A (wM g m1 m2 m3 m4 m5 m6 m7 m8 m9 m10 m11 m12 m13 ci mt tl rc kp ms mi ml mb mf mo my (np / 56) (np % 56) (updN (cz md np k) (np + k) 0) mu fi sp sq) := hD
          refine lv_iinc (v := nI ((np % 56 + k) + 1)) (lv' := [(1, .int (nI ((np % 56 + k) + 1))), (0, .ref g)]) hx hb dM_close_40 hl (k := 0) rfl (ki_inc _) (by decide) rfl (fun ls hl => ?_)
          refine lv_goto (tgt := 19) hx hb dM_close_43 (by decide) ?_
          have hP : va_P (dC, dI) vwCl (wM g m1 m2 m3 m4 m5 m6 m7 m8 m9 m10 m11 m12 m13 ci mt tl rc kp ms mi ml mb mf mo my (np / 56) (np % 56) (cz md np (k + 1)) mu fi sp sq) H := hP
          have hD : va_D A (wM g m1 m2 m3 m4 m5 m6 m7 m8 m9 m10 m11 m12 m13 ci mt tl rc kp ms mi ml mb mf mo my (np / 56) (np % 56) (cz md np (k + 1)) mu fi sp sq) := hD
          exact ih (k + 1) (by omega) (by omega) _ _ _ hP hD hS (lv_sub hl [0, 1] rfl)
    have hP : va_P (dC, dI) vwCl (wM g m1 m2 m3 m4 m5 m6 m7 m8 m9 m10 m11 m12 m13 ci mt tl rc kp ms mi ml mb mf mo my (np / 56) (np % 56) (cz md np (0)) mu fi sp sq) H := hP
    have hD : va_D A (wM g m1 m2 m3 m4 m5 m6 m7 m8 m9 m10 m11 m12 m13 ci mt tl rc kp ms mi ml mb mf mo my (np / 56) (np % 56) (cz md np (0)) mu fi sp sq) := hD
    exact hloopk ((56 - np % 56) + 1) 0 (by omega) (by omega) _ _ _ hP hD hS (lv_sub hl [0, 1] rfl)
  · have c_9 := (kn_eq0 (by omega)).mp c_9
    exfalso; omega
