set_option maxHeartbeats 4000000 in
set_option maxRecDepth 100000 in
theorem r_isGood (l : Launch) (dC : Nat → ClassId) (dI : Nat → Nat → Nat) (g m1 m2 m3 m4 m5 m6 m7 m8 m9 m10 m11 m12 m13 : Nat) (ci : ClassId) (mt : Nat → Nat) (tl rc kp : Nat) (ms mi ml mb mf mo my : Nat → Nat) (np : Nat) (md mu fi : Nat → Nat) (sp : Nat → Int32) (sq : Nat → Nat) (sb : Nat → Nat) (sz : Nat) (x : Int32) (hnp : np ≤ 4480) (hsp : ∀ b, b < np / 56 → ((sp b).toInt < 0 ↔ sb b = 0)) : Met l yM_isGood wsM_isGood ({ frames := 1, cells := 0, slots := 0, locals := 21 }) (kPre (dC, dI) vwCl (wM g m1 m2 m3 m4 m5 m6 m7 m8 m9 m10 m11 m12 m13 ci mt tl rc kp ms mi ml mb mf mo my (np / 56) (np % 56) md mu fi sp sq) (tM ci) sz [.ref g, .int x]) (kQi (dC, dI) vwCl (wM g m1 m2 m3 m4 m5 m6 m7 m8 m9 m10 m11 m12 m13 ci mt tl rc kp ms mi ml mb mf mo my (np / 56) (np % 56) md mu fi sp sq) (tM ci) sz (bI (goodX np sb x)) (wM g m1 m2 m3 m4 m5 m6 m7 m8 m9 m10 m11 m12 m13 ci mt tl rc kp ms mi ml mb mf mo my (np / 56) (np % 56) md mu fi sp sq)) 0 0 (va_A (wM g m1 m2 m3 m4 m5 m6 m7 m8 m9 m10 m11 m12 m13 ci mt tl rc kp ms mi ml mb mf mo my (np / 56) (np % 56) md mu fi sp sq) sz) := by
  refine kM_z (cc := cM_isGood) (maxL := 2) (by decide) rfl (Nat.le_of_ble_eq_true rfl) (bI_n _) ?_
  intro p e s m below meth c A Q ls H locs S hP hK hD hS hA hl hret
  obtain ⟨hx, hb, hml, hown, hts⟩ := id S
  have hin1 : ∀ w ∈ u_ws RX1 TX1 19, w ∈ wsM_isGood := fun _ h => List.mem_cons_of_mem _ (List.mem_append_right _ h)
  have lkf43 := hts (.fieldLink RX1 43 "BlockTapeModel" "spoilt" "[I") (by decide +kernel)
  have hl : lv_has ls 2 [(0, .ref g), (1, .int x)] := hl
  refine lv_aload_n hx hb dM_isGood_0 rfl (lv_at hl 0 rfl) ?_
  refine lv_iload_n hx hb dM_isGood_1 rfl (lv_at hl 1 rfl) ?_
  refine kc_vi (WR := []) (As := [.int x]) (rest := []) ⟨hx, hb, hml, hown, hts⟩ (r_isWritten l dC dI g m1 m2 m3 m4 m5 m6 m7 m8 m9 m10 m11 m12 m13 ci mt tl rc kp ms mi ml mb mf mo my np md mu fi sp sq H.size x (by omega)) (cwV 1 hts gM_isGood_M_isWritten rfl rfl rfl (by decide +kernel) ⟨Nat.le_of_ble_eq_true rfl, Nat.le_of_ble_eq_true rfl⟩) hK hP hD hS hA [0, 1, 2, 3, 4, 5, 6, 7, 8, 9, 10, 11, 12, 13] [] [0] rfl rfl (by decide) (by decide) (by decide) rfl 0 1 rfl rfl rfl rfl hl.1 rfl (Nat.le_of_ble_eq_true rfl) dM_isGood_2 ⟨Nat.zero_le _, Nat.zero_le _⟩ (fun H locs hP hD hS => ?_)
  have hP : va_P (dC, dI) vwCl (wM g m1 m2 m3 m4 m5 m6 m7 m8 m9 m10 m11 m12 m13 ci mt tl rc kp ms mi ml mb mf mo my (np / 56) (np % 56) md mu fi sp sq) H := hP
  have hD : va_D A (wM g m1 m2 m3 m4 m5 m6 m7 m8 m9 m10 m11 m12 m13 ci mt tl rc kp ms mi ml mb mf mo my (np / 56) (np % 56) md mu fi sp sq) := hD
  refine lv_if_eq (tgt := 21) hx hb dM_isGood_5 (by decide) (fun c_5 => ?_) (fun c_5 => ?_)
  · have c_5 := (bI_e _).mp c_5
    refine lv_iconst (v := nI 0) hx hb dM_isGood_21 (by decide) ?_
    refine kv_top (show _ = bI (goodX np sb x) from (bI_f (goodX_f c_5))) ?_
    exact hret _ _ _ _ hP hD hS dM_isGood_22
  · have c_5 := kmt (bI_e _).mpr c_5
    have c_5 := bT c_5
    obtain ⟨j, hj, rfl⟩ := isW_of c_5
    have hspj := hsp j hj
    refine lv_aload_n hx hb dM_isGood_8 rfl (lv_at hl 0 rfl) ?_
    refine va_get (D := (dC, dI)) (ci := 1) (v := .ref m12) (C := RX1) (T := TX1) (N := 19) hx hb hts hin1 hown hK hP 0 rfl rfl 17 (by decide) lkf43 (fun _ h9 => h9) rfl dM_isGood_9 ?_
    refine lv_iload_n hx hb dM_isGood_12 rfl (lv_at hl 1 rfl) ?_
    refine ka_iald hx hb hK hP 12 0 rfl rfl (k := j) (by omega) (by decide) dM_isGood_13 ?_
    refine lv_if_ge (tgt := 21) hx hb dM_isGood_14 (by decide) (fun c_14 => ?_) (fun c_14 => ?_)
    · have c_14 := (kx_ge0).mp c_14
      refine lv_iconst (v := nI 0) hx hb dM_isGood_21 (by decide) ?_
      refine kv_top (show _ = bI (goodX np sb (nI j)) from (bI_f (by rw [goodX_n (by omega)]; simp [gd]; omega))) ?_
      exact hret _ _ _ _ hP hD hS dM_isGood_22
    · have c_14 := kmt (kx_ge0).mpr c_14
      refine lv_iconst (v := nI 1) hx hb dM_isGood_17 (by decide) ?_
      refine lv_goto (tgt := 22) hx hb dM_isGood_18 (by decide) ?_
      refine kv_top (show _ = bI (goodX np sb (nI j)) from (bI_t (by rw [goodX_n (by omega)]; simp [gd]; omega))) ?_
      exact hret _ _ _ _ hP hD hS dM_isGood_22
set_option maxHeartbeats 4000000 in
set_option maxRecDepth 100000 in
theorem r_good (l : Launch) (dC : Nat → ClassId) (dI : Nat → Nat → Nat) (g m1 m2 m3 m4 m5 m6 m7 m8 m9 m10 m11 m12 m13 : Nat) (ci : ClassId) (mt : Nat → Nat) (tl rc kp : Nat) (ms mi ml mb mf mo my : Nat → Nat) (np : Nat) (md mu fi : Nat → Nat) (sp : Nat → Int32) (sq : Nat → Nat) (sb : Nat → Nat) (sz : Nat) (x : Int32) (hnp : np ≤ 4480) (hsp : ∀ b, b < np / 56 → ((sp b).toInt < 0 ↔ sb b = 0)) : Met l yM_good wsM_good ({ frames := 2, cells := 0, slots := 0, locals := 42 }) (kPre (dC, dI) vwCl (wM g m1 m2 m3 m4 m5 m6 m7 m8 m9 m10 m11 m12 m13 ci mt tl rc kp ms mi ml mb mf mo my (np / 56) (np % 56) md mu fi sp sq) (tM ci) sz [.ref g, .int x]) (kQi (dC, dI) vwCl (wM g m1 m2 m3 m4 m5 m6 m7 m8 m9 m10 m11 m12 m13 ci mt tl rc kp ms mi ml mb mf mo my (np / 56) (np % 56) md mu fi sp sq) (tM ci) sz (bI (goodX np sb x)) (wM g m1 m2 m3 m4 m5 m6 m7 m8 m9 m10 m11 m12 m13 ci mt tl rc kp ms mi ml mb mf mo my (np / 56) (np % 56) md mu fi sp sq)) 0 0 (va_A (wM g m1 m2 m3 m4 m5 m6 m7 m8 m9 m10 m11 m12 m13 ci mt tl rc kp ms mi ml mb mf mo my (np / 56) (np % 56) md mu fi sp sq) sz) := by
  refine kM_z (cc := cM_good) (maxL := 2) (by decide) rfl (Nat.le_of_ble_eq_true rfl) (bI_n _) ?_
  intro p e s m below meth c A Q ls H locs S hP hK hD hS hA hl hret
  obtain ⟨hx, hb, hml, hown, hts⟩ := id S
  have hin1 : ∀ w ∈ u_ws RX1 TX1 19, w ∈ wsM_good := fun _ h => List.mem_cons_of_mem _ (List.mem_append_right _ h)
  have lkf49 := hts (.fieldLink RX1 49 "BlockTapeModel" "thrown" "I") (by decide +kernel)
  have hl : lv_has ls 2 [(0, .ref g), (1, .int x)] := hl
  refine lv_aload_n hx hb dM_good_0 rfl (lv_at hl 0 rfl) ?_
  refine lv_iconst (v := nI 0) hx hb dM_good_1 (by decide) ?_
  refine va_put (D := (dC, dI)) (ci := 1) (v := .int (nI 0)) (ty := .int) (C := RX1) (T := TX1) (N := 19) hx hb hts hin1 tyX1 tyX1_ok nmX1 hown hK hP hD hS 0 rfl rfl 0 (by decide) lkf49 (fun _ h9 => h9) rfl (by decide +kernel) rfl rfl (Nat.le_of_ble_eq_true rfl) dM_good_2 (fun H locs hP hD hS => ?_)
  have hP : va_P (dC, dI) vwCl (wM g m1 m2 m3 m4 m5 m6 m7 m8 m9 m10 m11 m12 m13 ci mt tl rc kp ms mi ml mb mf mo my (np / 56) (np % 56) md mu fi sp sq) H := hP
  have hD : va_D A (wM g m1 m2 m3 m4 m5 m6 m7 m8 m9 m10 m11 m12 m13 ci mt tl rc kp ms mi ml mb mf mo my (np / 56) (np % 56) md mu fi sp sq) := hD
  refine lv_aload_n hx hb dM_good_5 rfl (lv_at hl 0 rfl) ?_
  refine lv_iload_n hx hb dM_good_6 rfl (lv_at hl 1 rfl) ?_
  refine kc_vi (WR := []) (As := [.int x]) (rest := []) ⟨hx, hb, hml, hown, hts⟩ (r_isGood l dC dI g m1 m2 m3 m4 m5 m6 m7 m8 m9 m10 m11 m12 m13 ci mt tl rc kp ms mi ml mb mf mo my np md mu fi sp sq sb H.size x (by omega) hsp) (cwV 1 hts gM_good_M_isGood rfl rfl rfl (by decide +kernel) ⟨Nat.le_of_ble_eq_true rfl, Nat.le_of_ble_eq_true rfl⟩) hK hP hD hS hA [0, 1, 2, 3, 4, 5, 6, 7, 8, 9, 10, 11, 12, 13] [] [0] rfl rfl (by decide) (by decide) (by decide) rfl 0 1 rfl rfl rfl rfl hl.1 rfl (Nat.le_of_ble_eq_true rfl) dM_good_7 ⟨Nat.zero_le _, Nat.zero_le _⟩ (fun H locs hP hD hS => ?_)
  have hP : va_P (dC, dI) vwCl (wM g m1 m2 m3 m4 m5 m6 m7 m8 m9 m10 m11 m12 m13 ci mt tl rc kp ms mi ml mb mf mo my (np / 56) (np % 56) md mu fi sp sq) H := hP
  have hD : va_D A (wM g m1 m2 m3 m4 m5 m6 m7 m8 m9 m10 m11 m12 m13 ci mt tl rc kp ms mi ml mb mf mo my (np / 56) (np % 56) md mu fi sp sq) := hD
  exact hret _ _ _ _ hP hD hS dM_good_10
set_option maxHeartbeats 4000000 in
set_option maxRecDepth 100000 in
theorem r_isRead (l : Launch) (dC : Nat → ClassId) (dI : Nat → Nat → Nat) (g m1 m2 m3 m4 m5 m6 m7 m8 m9 m10 m11 m12 m13 : Nat) (ci : ClassId) (mt : Nat → Nat) (tl rc kp : Nat) (ms mi ml mb mf mo my : Nat → Nat) (np : Nat) (md mu fi : Nat → Nat) (sp : Nat → Int32) (sq : Nat → Nat) (sb rp rl : Nat → Nat) (sz : Nat) (r : Nat) (hnp : np ≤ 4480) (hsp : ∀ b, b < np / 56 → ((sp b).toInt < 0 ↔ sb b = 0)) (hr : r < 200) (hrow : rp r + rl r ≤ 4480 ∧ 6 ≤ rl r) (hft : mf r = rp r / 56 ∧ mo r = (rp r + rl r - 1) / 56) : Met l yM_isRead wsM_isRead ({ frames := 2, cells := 0, slots := 0, locals := 42 }) (kPre (dC, dI) vwCl (wM g m1 m2 m3 m4 m5 m6 m7 m8 m9 m10 m11 m12 m13 ci mt tl rc kp ms mi ml mb mf mo my (np / 56) (np % 56) md mu fi sp sq) (tM ci) sz [.ref g, .int (nI r)]) (kQi (dC, dI) vwCl (wM g m1 m2 m3 m4 m5 m6 m7 m8 m9 m10 m11 m12 m13 ci mt tl rc kp ms mi ml mb mf mo my (np / 56) (np % 56) md mu fi sp sq) (tM ci) sz (bI (isR np sb rp rl r)) (wM g m1 m2 m3 m4 m5 m6 m7 m8 m9 m10 m11 m12 m13 ci mt tl rc kp ms mi ml mb mf mo my (np / 56) (np % 56) md mu fi sp sq)) 0 0 (va_A (wM g m1 m2 m3 m4 m5 m6 m7 m8 m9 m10 m11 m12 m13 ci mt tl rc kp ms mi ml mb mf mo my (np / 56) (np % 56) md mu fi sp sq) sz) := by
  refine kM_z (cc := cM_isRead) (maxL := 3) (by decide) rfl (Nat.le_of_ble_eq_true rfl) (bI_n _) ?_
  intro p e s m below meth c A Q ls H locs S hP hK hD hS hA hl hret
  obtain ⟨hx, hb, hml, hown, hts⟩ := id S
  have hin1 : ∀ w ∈ u_ws RX1 TX1 19, w ∈ wsM_isRead := fun _ h => List.mem_cons_of_mem _ (List.mem_append_right _ h)
  have lkf25 := hts (.fieldLink RX1 25 "BlockTapeModel" "fromBlock" "[I") (by decide +kernel)
  have lkf28 := hts (.fieldLink RX1 28 "BlockTapeModel" "toBlock" "[I") (by decide +kernel)
  have hl : lv_has ls 3 [(0, .ref g), (1, .int (nI r))] := hl
  refine lv_aload_n hx hb dM_isRead_0 rfl (lv_at hl 0 rfl) ?_
  refine va_get (D := (dC, dI)) (ci := 1) (v := .ref m6) (C := RX1) (T := TX1) (N := 19) hx hb hts hin1 hown hK hP 0 rfl rfl 9 (by decide) lkf25 (fun _ h9 => h9) rfl dM_isRead_1 ?_
  refine lv_iload_n hx hb dM_isRead_4 rfl (lv_at hl 1 rfl) ?_
  refine ka_ialdN hx hb hK hP 6 0 rfl rfl (k := r) (by omega) (by decide) dM_isRead_5 ?_
  refine kv_top (show _ = nI (rp r / 56) from (by rw [hft.1])) ?_
  refine lv_istore_n (lv' := [(2, .int (nI (rp r / 56))), (0, .ref g), (1, .int (nI r))]) hx hb dM_isRead_6 rfl hl (by decide) rfl (fun ls hl => ?_)
  have hloopk : ∀ (n k : Nat), k ≤ (rp r + rl r - 1) / 56 + 1 → (rp r + rl r - 1) / 56 + 1 + 1 ≤ k + n → (allG np sb ((rp r + rl r - 1) / 56 + 1 - k) k = isR np sb rp rl r) → ∀ (H : Heap) (locs : List Loc) (ls : Array Slot), va_P (dC, dI) vwCl (wM g m1 m2 m3 m4 m5 m6 m7 m8 m9 m10 m11 m12 m13 ci mt tl rc kp ms mi ml mb mf mo my (np / 56) (np % 56) md mu fi sp sq) H → va_D A (wM g m1 m2 m3 m4 m5 m6 m7 m8 m9 m10 m11 m12 m13 ci mt tl rc kp ms mi ml mb mf mo my (np / 56) (np % 56) md mu fi sp sq) → va_S A s.heap H locs → lv_has ls 3 [(2, .int (nI k)), (0, .ref g), (1, .int (nI r))] → W p l e ({ frames := 2, cells := 0, slots := 0, locals := 42 }) s m ([.ref g, .int (nI r)] : List Value).toArray below meth c H locs 0 0 Q (F0 m 7 ls []) := by
    intro n
    induction n with
    | zero => intro k h1 h2; exact absurd h2 (by omega)
    | succ n ih =>
      intro k hkA hkB hres H locs ls hP hD hS hl
      refine lv_iload_n hx hb dM_isRead_7 rfl (lv_at hl 0 rfl) ?_
      refine lv_aload_n hx hb dM_isRead_8 rfl (lv_at hl 1 rfl) ?_
      refine va_get (D := (dC, dI)) (ci := 1) (v := .ref m7) (C := RX1) (T := TX1) (N := 19) hx hb hts hin1 hown hK hP 0 rfl rfl 10 (by decide) lkf28 (fun _ h9 => h9) rfl dM_isRead_9 ?_
      refine lv_iload_n hx hb dM_isRead_12 rfl (lv_at hl 2 rfl) ?_
      refine ka_ialdN hx hb hK hP 7 0 rfl rfl (k := r) (by omega) (by decide) dM_isRead_13 ?_
      refine kv_top (show _ = nI ((rp r + rl r - 1) / 56) from (by rw [hft.2])) ?_
      refine lv_icmp_gt (tgt := 33) hx hb dM_isRead_14 (by decide) (fun c_14 => ?_) (fun c_14 => ?_)
      · have c_14 := (nI_ltI (by omega) (by omega)).mp c_14
        refine lv_iconst (v := nI 1) hx hb dM_isRead_33 (by decide) ?_
        refine kv_top (show _ = bI (isR np sb rp rl r) from (bI_t (by rw [← hres, show (rp r + rl r - 1) / 56 + 1 - k = 0 by omega]; rfl))) ?_
        exact hret _ _ _ _ hP hD hS dM_isRead_34
      · have c_14 := kmt (nI_ltI (by omega) (by omega)).mpr c_14
        refine lv_aload_n hx hb dM_isRead_17 rfl (lv_at hl 1 rfl) ?_
        refine lv_iload_n hx hb dM_isRead_18 rfl (lv_at hl 0 rfl) ?_
        refine kc_vi (WR := []) (As := [.int (nI k)]) (rest := []) ⟨hx, hb, hml, hown, hts⟩ (r_isGood l dC dI g m1 m2 m3 m4 m5 m6 m7 m8 m9 m10 m11 m12 m13 ci mt tl rc kp ms mi ml mb mf mo my np md mu fi sp sq sb H.size (nI k) (by omega) hsp) (cwV 1 hts gM_isRead_M_isGood rfl rfl rfl (by decide +kernel) ⟨Nat.le_of_ble_eq_true rfl, Nat.le_of_ble_eq_true rfl⟩) hK hP hD hS hA [0, 1, 2, 3, 4, 5, 6, 7, 8, 9, 10, 11, 12, 13] [] [0] rfl rfl (by decide) (by decide) (by decide) rfl 0 1 rfl rfl rfl rfl hl.1 rfl (Nat.le_of_ble_eq_true rfl) dM_isRead_19 ⟨Nat.zero_le _, Nat.zero_le _⟩ (fun H locs hP hD hS => ?_)
        have hP : va_P (dC, dI) vwCl (wM g m1 m2 m3 m4 m5 m6 m7 m8 m9 m10 m11 m12 m13 ci mt tl rc kp ms mi ml mb mf mo my (np / 56) (np % 56) md mu fi sp sq) H := hP
        have hD : va_D A (wM g m1 m2 m3 m4 m5 m6 m7 m8 m9 m10 m11 m12 m13 ci mt tl rc kp ms mi ml mb mf mo my (np / 56) (np % 56) md mu fi sp sq) := hD
        refine kv_top (show _ = bI (gd np sb k) from by rw [goodX_n (by omega)]) ?_
        refine lv_if_ne (tgt := 27) hx hb dM_isRead_22 (by decide) (fun c_22 => ?_) (fun c_22 => ?_)
        · have c_22 := kmt (bI_e _).mpr c_22
          have c_22 := bT c_22
          refine lv_iinc (v := nI (k + 1)) (lv' := [(2, .int (nI (k + 1))), (0, .ref g), (1, .int (nI r))]) hx hb dM_isRead_27 hl (k := 0) rfl (ki_inc _) (by decide) rfl (fun ls hl => ?_)
          refine lv_goto (tgt := 7) hx hb dM_isRead_30 (by decide) ?_
          have hP : va_P (dC, dI) vwCl (wM g m1 m2 m3 m4 m5 m6 m7 m8 m9 m10 m11 m12 m13 ci mt tl rc kp ms mi ml mb mf mo my (np / 56) (np % 56) md mu fi sp sq) H := hP
          have hD : va_D A (wM g m1 m2 m3 m4 m5 m6 m7 m8 m9 m10 m11 m12 m13 ci mt tl rc kp ms mi ml mb mf mo my (np / 56) (np % 56) md mu fi sp sq) := hD
          exact ih (k + 1) (by omega) (by omega) (by rw [← hres, allG_step (T := (rp r + rl r - 1) / 56 + 1) (k := k) (by omega), c_22]; rfl) _ _ _ hP hD hS (lv_sub hl [0, 1, 2] rfl)
        · have c_22 := (bI_e _).mp c_22
          refine lv_iconst (v := nI 0) hx hb dM_isRead_25 (by decide) ?_
          refine kv_top (show _ = bI (isR np sb rp rl r) from (bI_f (by rw [← hres, allG_step (T := (rp r + rl r - 1) / 56 + 1) (k := k) (by omega), c_22]; rfl))) ?_
          exact hret _ _ _ _ hP hD hS dM_isRead_26
  have hP : va_P (dC, dI) vwCl (wM g m1 m2 m3 m4 m5 m6 m7 m8 m9 m10 m11 m12 m13 ci mt tl rc kp ms mi ml mb mf mo my (np / 56) (np % 56) md mu fi sp sq) H := hP
  have hD : va_D A (wM g m1 m2 m3 m4 m5 m6 m7 m8 m9 m10 m11 m12 m13 ci mt tl rc kp ms mi ml mb mf mo my (np / 56) (np % 56) md mu fi sp sq) := hD
  exact hloopk (((rp r + rl r - 1) / 56 + 1) + 1) (rp r / 56) (by omega) (by omega) (rfl) _ _ _ hP hD hS (lv_sub hl [0, 1, 2] rfl)
set_option maxHeartbeats 4000000 in
set_option maxRecDepth 100000 in
theorem r_verify (l : Launch) (dC : Nat → ClassId) (dI : Nat → Nat → Nat) (g m1 m2 m3 m4 m5 m6 m7 m8 m9 m10 m11 m12 m13 : Nat) (ci : ClassId) (mt : Nat → Nat) (tl rc kp : Nat) (ms mi ml mb mf mo my : Nat → Nat) (np : Nat) (md mu fi : Nat → Nat) (sp : Nat → Int32) (sq : Nat → Nat) (sb : Nat → Nat) (sz : Nat) (x : Int32) (hnp : np ≤ 4480) (hsp : ∀ b, b < np / 56 → ((sp b).toInt < 0 ↔ sb b = 0)) : Met l yM_verify wsM_verify ({ frames := 2, cells := 0, slots := 0, locals := 42 }) (kPre (dC, dI) vwCl (wM g m1 m2 m3 m4 m5 m6 m7 m8 m9 m10 m11 m12 m13 ci mt tl rc kp ms mi ml mb mf mo my (np / 56) (np % 56) md mu fi sp sq) (tM ci) sz [.ref g, .int x]) (kQi (dC, dI) vwCl (wM g m1 m2 m3 m4 m5 m6 m7 m8 m9 m10 m11 m12 m13 ci mt tl rc kp ms mi ml mb mf mo my (np / 56) (np % 56) md mu fi sp sq) (tM ci) sz (vfX np sb x) (wM g m1 m2 m3 m4 m5 m6 m7 m8 m9 m10 m11 m12 m13 ci mt tl rc kp ms mi ml mb mf mo my (np / 56) (np % 56) md mu fi sp sq)) 0 0 (va_A (wM g m1 m2 m3 m4 m5 m6 m7 m8 m9 m10 m11 m12 m13 ci mt tl rc kp ms mi ml mb mf mo my (np / 56) (np % 56) md mu fi sp sq) sz) := by
  refine kM_i (cc := cM_verify) (maxL := 3) (by decide) rfl (Nat.le_of_ble_eq_true rfl) ?_
  intro p e s m below meth c A Q ls H locs S hP hK hD hS hA hl hret
  obtain ⟨hx, hb, hml, hown, hts⟩ := id S
  have hin1 : ∀ w ∈ u_ws RX1 TX1 19, w ∈ wsM_verify := fun _ h => List.mem_cons_of_mem _ (List.mem_append_right _ h)
  have lkf49 := hts (.fieldLink RX1 49 "BlockTapeModel" "thrown" "I") (by decide +kernel)
  have lkf56 := hts (.fieldLink RX1 56 "BlockTapeModel" "written" "I") (by decide +kernel)
  have hl : lv_has ls 3 [(0, .ref g), (1, .int x)] := hl
  have hxm := kx_max x
  refine lv_aload_n hx hb dM_verify_0 rfl (lv_at hl 0 rfl) ?_
  refine lv_iconst (v := nI 0) hx hb dM_verify_1 (by decide) ?_
  refine va_put (D := (dC, dI)) (ci := 1) (v := .int (nI 0)) (ty := .int) (C := RX1) (T := TX1) (N := 19) hx hb hts hin1 tyX1 tyX1_ok nmX1 hown hK hP hD hS 0 rfl rfl 0 (by decide) lkf49 (fun _ h9 => h9) rfl (by decide +kernel) rfl rfl (Nat.le_of_ble_eq_true rfl) dM_verify_2 (fun H locs hP hD hS => ?_)
  have hP : va_P (dC, dI) vwCl (wM g m1 m2 m3 m4 m5 m6 m7 m8 m9 m10 m11 m12 m13 ci mt tl rc kp ms mi ml mb mf mo my (np / 56) (np % 56) md mu fi sp sq) H := hP
  have hD : va_D A (wM g m1 m2 m3 m4 m5 m6 m7 m8 m9 m10 m11 m12 m13 ci mt tl rc kp ms mi ml mb mf mo my (np / 56) (np % 56) md mu fi sp sq) := hD
  refine lv_iload_n hx hb dM_verify_5 rfl (lv_at hl 1 rfl) ?_
  refine lv_if_ge (tgt := 13) hx hb dM_verify_6 (by decide) (fun c_6 => ?_) (fun c_6 => ?_)
  · have c_6 := (kx_ge0).mp c_6
    refine lv_iload_n hx hb dM_verify_13 rfl (lv_at hl 1 rfl) ?_
    refine kv_top (show _ = nI x.toInt.toNat from (vpos (by omega))) ?_
    refine lv_istore_n (lv' := [(2, .int (nI x.toInt.toNat)), (0, .ref g), (1, .int x)]) hx hb dM_verify_14 rfl hl (by decide) rfl (fun ls hl => ?_)
    have hloopk : ∀ (n k : Nat), k ≤ 2147483647 → 2147483647 + 1 ≤ k + n → (vfR np sb (np / 56 - k) k = vfX np sb x) → ∀ (H : Heap) (locs : List Loc) (ls : Array Slot), va_P (dC, dI) vwCl (wM g m1 m2 m3 m4 m5 m6 m7 m8 m9 m10 m11 m12 m13 ci mt tl rc kp ms mi ml mb mf mo my (np / 56) (np % 56) md mu fi sp sq) H → va_D A (wM g m1 m2 m3 m4 m5 m6 m7 m8 m9 m10 m11 m12 m13 ci mt tl rc kp ms mi ml mb mf mo my (np / 56) (np % 56) md mu fi sp sq) → va_S A s.heap H locs → lv_has ls 3 [(2, .int (nI k)), (0, .ref g)] → W p l e ({ frames := 2, cells := 0, slots := 0, locals := 42 }) s m ([.ref g, .int x] : List Value).toArray below meth c H locs 0 0 Q (F0 m 15 ls []) := by
      intro n
      induction n with
      | zero => intro k h1 h2; exact absurd h2 (by omega)
      | succ n ih =>
        intro k hkA hkB hres H locs ls hP hD hS hl
        refine lv_iload_n hx hb dM_verify_15 rfl (lv_at hl 0 rfl) ?_
        refine lv_aload_n hx hb dM_verify_16 rfl (lv_at hl 1 rfl) ?_
        refine va_get (D := (dC, dI)) (ci := 1) (v := .int (nI (np / 56))) (C := RX1) (T := TX1) (N := 19) hx hb hts hin1 hown hK hP 0 rfl rfl 12 (by decide) lkf56 (fun _ h9 => h9) rfl dM_verify_17 ?_
        refine lv_icmp_ge (tgt := 39) hx hb dM_verify_20 (by decide) (fun c_20 => ?_) (fun c_20 => ?_)
        · have c_20 := (nI_leI (by omega) (by omega)).mp c_20
          refine lv_iconst (v := (-1)) hx hb dM_verify_39 (by decide) ?_
          refine kv_top (show _ = vfX np sb x from (by rw [← hres, show np / 56 - k = 0 by omega]; rfl)) ?_
          exact hret _ _ _ _ hP hD hS dM_verify_40
        · have c_20 := kmt (nI_leI (by omega) (by omega)).mpr c_20
          refine lv_aload_n hx hb dM_verify_23 rfl (lv_at hl 1 rfl) ?_
          refine lv_iload_n hx hb dM_verify_24 rfl (lv_at hl 0 rfl) ?_
          refine kc_vi (WR := []) (As := [.int (nI k)]) (rest := []) ⟨hx, hb, hml, hown, hts⟩ (r_isGood l dC dI g m1 m2 m3 m4 m5 m6 m7 m8 m9 m10 m11 m12 m13 ci mt tl rc kp ms mi ml mb mf mo my np md mu fi sp sq sb H.size (nI k) (by omega) hsp) (cwV 1 hts gM_verify_M_isGood rfl rfl rfl (by decide +kernel) ⟨Nat.le_of_ble_eq_true rfl, Nat.le_of_ble_eq_true rfl⟩) hK hP hD hS hA [0, 1, 2, 3, 4, 5, 6, 7, 8, 9, 10, 11, 12, 13] [] [0] rfl rfl (by decide) (by decide) (by decide) rfl 0 1 rfl rfl rfl rfl hl.1 rfl (Nat.le_of_ble_eq_true rfl) dM_verify_25 ⟨Nat.zero_le _, Nat.zero_le _⟩ (fun H locs hP hD hS => ?_)
          have hP : va_P (dC, dI) vwCl (wM g m1 m2 m3 m4 m5 m6 m7 m8 m9 m10 m11 m12 m13 ci mt tl rc kp ms mi ml mb mf mo my (np / 56) (np % 56) md mu fi sp sq) H := hP
          have hD : va_D A (wM g m1 m2 m3 m4 m5 m6 m7 m8 m9 m10 m11 m12 m13 ci mt tl rc kp ms mi ml mb mf mo my (np / 56) (np % 56) md mu fi sp sq) := hD
          refine kv_top (show _ = bI (gd np sb k) from by rw [goodX_n (by omega)]) ?_
          refine lv_if_ne (tgt := 33) hx hb dM_verify_28 (by decide) (fun c_28 => ?_) (fun c_28 => ?_)
          · have c_28 := kmt (bI_e _).mpr c_28
            have c_28 := bT c_28
            refine lv_iinc (v := nI (k + 1)) (lv' := [(2, .int (nI (k + 1))), (0, .ref g)]) hx hb dM_verify_33 hl (k := 0) rfl (ki_inc _) (by decide) rfl (fun ls hl => ?_)
            refine lv_goto (tgt := 15) hx hb dM_verify_36 (by decide) ?_
            have hP : va_P (dC, dI) vwCl (wM g m1 m2 m3 m4 m5 m6 m7 m8 m9 m10 m11 m12 m13 ci mt tl rc kp ms mi ml mb mf mo my (np / 56) (np % 56) md mu fi sp sq) H := hP
            have hD : va_D A (wM g m1 m2 m3 m4 m5 m6 m7 m8 m9 m10 m11 m12 m13 ci mt tl rc kp ms mi ml mb mf mo my (np / 56) (np % 56) md mu fi sp sq) := hD
            exact ih (k + 1) (by omega) (by omega) (by rw [← hres, vfR_step (T := np / 56) (k := k) (by omega), if_pos c_28]) _ _ _ hP hD hS (lv_sub hl [0, 1] rfl)
          · have c_28 := (bI_e _).mp c_28
            refine lv_iload_n hx hb dM_verify_31 rfl (lv_at hl 0 rfl) ?_
            refine kv_top (show _ = vfX np sb x from (by rw [← hres, vfR_step (T := np / 56) (k := k) (by omega), if_neg (by rw [c_28]; decide)])) ?_
            exact hret _ _ _ _ hP hD hS dM_verify_32
    have hP : va_P (dC, dI) vwCl (wM g m1 m2 m3 m4 m5 m6 m7 m8 m9 m10 m11 m12 m13 ci mt tl rc kp ms mi ml mb mf mo my (np / 56) (np % 56) md mu fi sp sq) H := hP
    have hD : va_D A (wM g m1 m2 m3 m4 m5 m6 m7 m8 m9 m10 m11 m12 m13 ci mt tl rc kp ms mi ml mb mf mo my (np / 56) (np % 56) md mu fi sp sq) := hD
    exact hloopk (2147483647 + 1) x.toInt.toNat (by omega) (by omega) (rfl) _ _ _ hP hD hS (lv_sub hl [0, 1] rfl)
  · have c_6 := kmt (kx_ge0).mpr c_6
    refine lv_iconst (v := nI 0) hx hb dM_verify_9 (by decide) ?_
    refine lv_goto (tgt := 14) hx hb dM_verify_10 (by decide) ?_
    refine kv_top (show _ = nI x.toInt.toNat from (by rw [show x.toInt.toNat = 0 by omega])) ?_
    refine lv_istore_n (lv' := [(2, .int (nI x.toInt.toNat)), (0, .ref g), (1, .int x)]) hx hb dM_verify_14 rfl hl (by decide) rfl (fun ls hl => ?_)
    have hloopk : ∀ (n k : Nat), k ≤ 2147483647 → 2147483647 + 1 ≤ k + n → (vfR np sb (np / 56 - k) k = vfX np sb x) → ∀ (H : Heap) (locs : List Loc) (ls : Array Slot), va_P (dC, dI) vwCl (wM g m1 m2 m3 m4 m5 m6 m7 m8 m9 m10 m11 m12 m13 ci mt tl rc kp ms mi ml mb mf mo my (np / 56) (np % 56) md mu fi sp sq) H → va_D A (wM g m1 m2 m3 m4 m5 m6 m7 m8 m9 m10 m11 m12 m13 ci mt tl rc kp ms mi ml mb mf mo my (np / 56) (np % 56) md mu fi sp sq) → va_S A s.heap H locs → lv_has ls 3 [(2, .int (nI k)), (0, .ref g)] → W p l e ({ frames := 2, cells := 0, slots := 0, locals := 42 }) s m ([.ref g, .int x] : List Value).toArray below meth c H locs 0 0 Q (F0 m 15 ls []) := by
      intro n
      induction n with
      | zero => intro k h1 h2; exact absurd h2 (by omega)
      | succ n ih =>
        intro k hkA hkB hres H locs ls hP hD hS hl
        refine lv_iload_n hx hb dM_verify_15 rfl (lv_at hl 0 rfl) ?_
        refine lv_aload_n hx hb dM_verify_16 rfl (lv_at hl 1 rfl) ?_
        refine va_get (D := (dC, dI)) (ci := 1) (v := .int (nI (np / 56))) (C := RX1) (T := TX1) (N := 19) hx hb hts hin1 hown hK hP 0 rfl rfl 12 (by decide) lkf56 (fun _ h9 => h9) rfl dM_verify_17 ?_
        refine lv_icmp_ge (tgt := 39) hx hb dM_verify_20 (by decide) (fun c_20 => ?_) (fun c_20 => ?_)
        · have c_20 := (nI_leI (by omega) (by omega)).mp c_20
          refine lv_iconst (v := (-1)) hx hb dM_verify_39 (by decide) ?_
          refine kv_top (show _ = vfX np sb x from (by rw [← hres, show np / 56 - k = 0 by omega]; rfl)) ?_
          exact hret _ _ _ _ hP hD hS dM_verify_40
        · have c_20 := kmt (nI_leI (by omega) (by omega)).mpr c_20
          refine lv_aload_n hx hb dM_verify_23 rfl (lv_at hl 1 rfl) ?_
          refine lv_iload_n hx hb dM_verify_24 rfl (lv_at hl 0 rfl) ?_
          refine kc_vi (WR := []) (As := [.int (nI k)]) (rest := []) ⟨hx, hb, hml, hown, hts⟩ (r_isGood l dC dI g m1 m2 m3 m4 m5 m6 m7 m8 m9 m10 m11 m12 m13 ci mt tl rc kp ms mi ml mb mf mo my np md mu fi sp sq sb H.size (nI k) (by omega) hsp) (cwV 1 hts gM_verify_M_isGood rfl rfl rfl (by decide +kernel) ⟨Nat.le_of_ble_eq_true rfl, Nat.le_of_ble_eq_true rfl⟩) hK hP hD hS hA [0, 1, 2, 3, 4, 5, 6, 7, 8, 9, 10, 11, 12, 13] [] [0] rfl rfl (by decide) (by decide) (by decide) rfl 0 1 rfl rfl rfl rfl hl.1 rfl (Nat.le_of_ble_eq_true rfl) dM_verify_25 ⟨Nat.zero_le _, Nat.zero_le _⟩ (fun H locs hP hD hS => ?_)
          have hP : va_P (dC, dI) vwCl (wM g m1 m2 m3 m4 m5 m6 m7 m8 m9 m10 m11 m12 m13 ci mt tl rc kp ms mi ml mb mf mo my (np / 56) (np % 56) md mu fi sp sq) H := hP
          have hD : va_D A (wM g m1 m2 m3 m4 m5 m6 m7 m8 m9 m10 m11 m12 m13 ci mt tl rc kp ms mi ml mb mf mo my (np / 56) (np % 56) md mu fi sp sq) := hD
          refine kv_top (show _ = bI (gd np sb k) from by rw [goodX_n (by omega)]) ?_
          refine lv_if_ne (tgt := 33) hx hb dM_verify_28 (by decide) (fun c_28 => ?_) (fun c_28 => ?_)
          · have c_28 := kmt (bI_e _).mpr c_28
            have c_28 := bT c_28
            refine lv_iinc (v := nI (k + 1)) (lv' := [(2, .int (nI (k + 1))), (0, .ref g)]) hx hb dM_verify_33 hl (k := 0) rfl (ki_inc _) (by decide) rfl (fun ls hl => ?_)
            refine lv_goto (tgt := 15) hx hb dM_verify_36 (by decide) ?_
            have hP : va_P (dC, dI) vwCl (wM g m1 m2 m3 m4 m5 m6 m7 m8 m9 m10 m11 m12 m13 ci mt tl rc kp ms mi ml mb mf mo my (np / 56) (np % 56) md mu fi sp sq) H := hP
            have hD : va_D A (wM g m1 m2 m3 m4 m5 m6 m7 m8 m9 m10 m11 m12 m13 ci mt tl rc kp ms mi ml mb mf mo my (np / 56) (np % 56) md mu fi sp sq) := hD
            exact ih (k + 1) (by omega) (by omega) (by rw [← hres, vfR_step (T := np / 56) (k := k) (by omega), if_pos c_28]) _ _ _ hP hD hS (lv_sub hl [0, 1] rfl)
          · have c_28 := (bI_e _).mp c_28
            refine lv_iload_n hx hb dM_verify_31 rfl (lv_at hl 0 rfl) ?_
            refine kv_top (show _ = vfX np sb x from (by rw [← hres, vfR_step (T := np / 56) (k := k) (by omega), if_neg (by rw [c_28]; decide)])) ?_
            exact hret _ _ _ _ hP hD hS dM_verify_32
    have hP : va_P (dC, dI) vwCl (wM g m1 m2 m3 m4 m5 m6 m7 m8 m9 m10 m11 m12 m13 ci mt tl rc kp ms mi ml mb mf mo my (np / 56) (np % 56) md mu fi sp sq) H := hP
    have hD : va_D A (wM g m1 m2 m3 m4 m5 m6 m7 m8 m9 m10 m11 m12 m13 ci mt tl rc kp ms mi ml mb mf mo my (np / 56) (np % 56) md mu fi sp sq) := hD
    exact hloopk (2147483647 + 1) x.toInt.toNat (by omega) (by omega) (rfl) _ _ _ hP hD hS (lv_sub hl [0, 1] rfl)
set_option maxHeartbeats 4000000 in
set_option maxRecDepth 100000 in
theorem r_count (l : Launch) (dC : Nat → ClassId) (dI : Nat → Nat → Nat) (g m1 m2 m3 m4 m5 m6 m7 m8 m9 m10 m11 m12 m13 : Nat) (ci : ClassId) (mt : Nat → Nat) (tl rc kp : Nat) (ms mi ml mb mf mo my : Nat → Nat) (np : Nat) (md mu fi : Nat → Nat) (sp : Nat → Int32) (sq : Nat → Nat) (sb rp rl : Nat → Nat) (sz : Nat) (x : Int32) (hnp : np ≤ 4480) (hsp : ∀ b, b < np / 56 → ((sp b).toInt < 0 ↔ sb b = 0)) (hrc : rc ≤ 200) (hrow : ∀ k, k < rc → rp k + rl k ≤ 4480 ∧ 6 ≤ rl k) (hft : ∀ k, k < rc → mf k = rp k / 56 ∧ mo k = (rp k + rl k - 1) / 56) (htl : tl ≤ 300) : Met l yM_count wsM_count ({ frames := 3, cells := 0, slots := 0, locals := 64 }) (kPre (dC, dI) vwCl (wM g m1 m2 m3 m4 m5 m6 m7 m8 m9 m10 m11 m12 m13 ci mt tl rc kp ms mi ml mb mf mo my (np / 56) (np % 56) md mu fi sp sq) (tM ci) sz [.ref g, .int x]) (kQi (dC, dI) vwCl (wM g m1 m2 m3 m4 m5 m6 m7 m8 m9 m10 m11 m12 m13 ci mt tl rc kp ms mi ml mb mf mo my (np / 56) (np % 56) md mu fi sp sq) (tM ci) sz (cntX tl np rc rp rl sb x) (wM g m1 m2 m3 m4 m5 m6 m7 m8 m9 m10 m11 m12 m13 ci mt tl rc kp ms mi ml mb mf mo my (np / 56) (np % 56) md mu fi sp sq)) 0 0 (va_A (wM g m1 m2 m3 m4 m5 m6 m7 m8 m9 m10 m11 m12 m13 ci mt tl rc kp ms mi ml mb mf mo my (np / 56) (np % 56) md mu fi sp sq) sz) := by
  refine kM_i (cc := cM_count) (maxL := 4) (by decide) rfl (Nat.le_of_ble_eq_true rfl) ?_
  intro p e s m below meth c A Q ls H locs S hP hK hD hS hA hl hret
  obtain ⟨hx, hb, hml, hown, hts⟩ := id S
  have hin1 : ∀ w ∈ u_ws RX1 TX1 19, w ∈ wsM_count := fun _ h => List.mem_cons_of_mem _ (List.mem_append_right _ h)
  have lkf49 := hts (.fieldLink RX1 49 "BlockTapeModel" "thrown" "I") (by decide +kernel)
  have lkf53 := hts (.fieldLink RX1 53 "BlockTapeModel" "taped" "I") (by decide +kernel)
  have lkf66 := hts (.fieldLink RX1 66 "BlockTapeModel" "records" "I") (by decide +kernel)
  have lkf56 := hts (.fieldLink RX1 56 "BlockTapeModel" "written" "I") (by decide +kernel)
  have lkf59 := hts (.fieldLink RX1 59 "BlockTapeModel" "used" "I") (by decide +kernel)
  have hl : lv_has ls 4 [(0, .ref g), (1, .int x)] := hl
  refine lv_aload_n hx hb dM_count_0 rfl (lv_at hl 0 rfl) ?_
  refine lv_iconst (v := nI 0) hx hb dM_count_1 (by decide) ?_
  refine va_put (D := (dC, dI)) (ci := 1) (v := .int (nI 0)) (ty := .int) (C := RX1) (T := TX1) (N := 19) hx hb hts hin1 tyX1 tyX1_ok nmX1 hown hK hP hD hS 0 rfl rfl 0 (by decide) lkf49 (fun _ h9 => h9) rfl (by decide +kernel) rfl rfl (Nat.le_of_ble_eq_true rfl) dM_count_2 (fun H locs hP hD hS => ?_)
  have hP : va_P (dC, dI) vwCl (wM g m1 m2 m3 m4 m5 m6 m7 m8 m9 m10 m11 m12 m13 ci mt tl rc kp ms mi ml mb mf mo my (np / 56) (np % 56) md mu fi sp sq) H := hP
  have hD : va_D A (wM g m1 m2 m3 m4 m5 m6 m7 m8 m9 m10 m11 m12 m13 ci mt tl rc kp ms mi ml mb mf mo my (np / 56) (np % 56) md mu fi sp sq) := hD
  refine lv_iconst (v := nI 0) hx hb dM_count_5 (by decide) ?_
  refine lv_istore_n (lv' := [(2, .int (nI 0)), (0, .ref g), (1, .int x)]) hx hb dM_count_6 rfl hl (by decide) rfl (fun ls hl => ?_)
  refine lv_iload_n hx hb dM_count_7 rfl (lv_at hl 2 rfl) ?_
  rcases kx_sw x 7 with hsw | ⟨j, hj, rfl⟩
  · refine lv_tableOut (tgt := 145) hx hb dM_count_8 (by omega) (by decide) ?_
    refine lv_iconst (v := (-1)) hx hb dM_count_145 (by decide) ?_
    refine kv_top (show _ = cntX tl np rc rp rl sb x from (cntX_out hsw).symm) ?_
    exact hret _ _ _ _ hP hD hS dM_count_146
  · have hj7 : j = 0 ∨ j = 1 ∨ j = 2 ∨ j = 3 ∨ j = 4 ∨ j = 5 ∨ j = 6 := by omega
    rcases hj7 with rfl | rfl | rfl | rfl | rfl | rfl | rfl
    · refine lv_tableIn (tgt := 52) (off := 44) hx hb dM_count_8 (by decide) (by decide) (by decide) (by decide) ?_
      refine lv_aload_n hx hb dM_count_52 rfl (lv_at hl 1 rfl) ?_
      refine va_get (D := (dC, dI)) (ci := 1) (v := .int (nI tl)) (C := RX1) (T := TX1) (N := 19) hx hb hts hin1 hown hK hP 0 rfl rfl 2 (by decide) lkf53 (fun _ h9 => h9) rfl dM_count_53 ?_
      refine kv_top (show _ = cntX tl np rc rp rl sb (nI 0) from rfl) ?_
      exact hret _ _ _ _ hP hD hS dM_count_56
    · refine lv_tableIn (tgt := 57) (off := 49) hx hb dM_count_8 (by decide) (by decide) (by decide) (by decide) ?_
      refine lv_aload_n hx hb dM_count_57 rfl (lv_at hl 1 rfl) ?_
      refine va_get (D := (dC, dI)) (ci := 1) (v := .int (nI rc)) (C := RX1) (T := TX1) (N := 19) hx hb hts hin1 hown hK hP 0 rfl rfl 3 (by decide) lkf66 (fun _ h9 => h9) rfl dM_count_58 ?_
      refine kv_top (show _ = cntX tl np rc rp rl sb (nI 1) from rfl) ?_
      exact hret _ _ _ _ hP hD hS dM_count_61
    · refine lv_tableIn (tgt := 62) (off := 54) hx hb dM_count_8 (by decide) (by decide) (by decide) (by decide) ?_
      refine lv_aload_n hx hb dM_count_62 rfl (lv_at hl 1 rfl) ?_
      refine va_get (D := (dC, dI)) (ci := 1) (v := .int (nI (np / 56))) (C := RX1) (T := TX1) (N := 19) hx hb hts hin1 hown hK hP 0 rfl rfl 12 (by decide) lkf56 (fun _ h9 => h9) rfl dM_count_63 ?_
      refine kv_top (show _ = cntX tl np rc rp rl sb (nI 2) from rfl) ?_
      exact hret _ _ _ _ hP hD hS dM_count_66
    · refine lv_tableIn (tgt := 67) (off := 59) hx hb dM_count_8 (by decide) (by decide) (by decide) (by decide) ?_
      refine lv_aload_n hx hb dM_count_67 rfl (lv_at hl 1 rfl) ?_
      refine va_get (D := (dC, dI)) (ci := 1) (v := .int (nI (np % 56))) (C := RX1) (T := TX1) (N := 19) hx hb hts hin1 hown hK hP 0 rfl rfl 13 (by decide) lkf59 (fun _ h9 => h9) rfl dM_count_68 ?_
      refine kv_top (show _ = cntX tl np rc rp rl sb (nI 3) from rfl) ?_
      exact hret _ _ _ _ hP hD hS dM_count_71
    · refine lv_tableIn (tgt := 72) (off := 64) hx hb dM_count_8 (by decide) (by decide) (by decide) (by decide) ?_
      refine lv_iconst (v := nI 0) hx hb dM_count_72 (by decide) ?_
      refine lv_istore_n (lv' := [(3, .int (nI 0)), (2, .int (nI 0)), (0, .ref g), (1, .int (nI 4))]) hx hb dM_count_73 rfl hl (by decide) rfl (fun ls hl => ?_)
      have hloopk : ∀ (n k : Nat), k ≤ rc → rc + 1 ≤ k + n → ∀ (H : Heap) (locs : List Loc) (ls : Array Slot), va_P (dC, dI) vwCl (wM g m1 m2 m3 m4 m5 m6 m7 m8 m9 m10 m11 m12 m13 ci mt tl rc kp ms mi ml mb mf mo my (np / 56) (np % 56) md mu fi sp sq) H → va_D A (wM g m1 m2 m3 m4 m5 m6 m7 m8 m9 m10 m11 m12 m13 ci mt tl rc kp ms mi ml mb mf mo my (np / 56) (np % 56) md mu fi sp sq) → va_S A s.heap H locs → lv_has ls 4 [(3, .int (nI k)), (2, .int (nI (cntB (isR np sb rp rl) k))), (0, .ref g)] → W p l e ({ frames := 3, cells := 0, slots := 0, locals := 64 }) s m ([.ref g, .int (nI 4)] : List Value).toArray below meth c H locs 0 0 Q (F0 m 74 ls []) := by
        intro n
        induction n with
        | zero => intro k h1 h2; exact absurd h2 (by omega)
        | succ n ih =>
          intro k hkA hkB H locs ls hP hD hS hl
          refine lv_iload_n hx hb dM_count_74 rfl (lv_at hl 0 rfl) ?_
          refine lv_aload_n hx hb dM_count_75 rfl (lv_at hl 2 rfl) ?_
          refine va_get (D := (dC, dI)) (ci := 1) (v := .int (nI rc)) (C := RX1) (T := TX1) (N := 19) hx hb hts hin1 hown hK hP 0 rfl rfl 3 (by decide) lkf66 (fun _ h9 => h9) rfl dM_count_76 ?_
          refine lv_icmp_ge (tgt := 104) hx hb dM_count_79 (by decide) (fun c_79 => ?_) (fun c_79 => ?_)
          · have c_79 := (nI_leI (by omega) (by omega)).mp c_79
            refine lv_iload_n hx hb dM_count_104 rfl (lv_at hl 1 rfl) ?_
            refine kv_top (show _ = cntX tl np rc rp rl sb (nI 4) from (by rw [show k = rc by omega]; rfl)) ?_
            exact hret _ _ _ _ hP hD hS dM_count_105
          · have c_79 := kmt (nI_leI (by omega) (by omega)).mpr c_79
            refine lv_iload_n hx hb dM_count_82 rfl (lv_at hl 1 rfl) ?_
            refine lv_aload_n hx hb dM_count_83 rfl (lv_at hl 2 rfl) ?_
            refine lv_iload_n hx hb dM_count_84 rfl (lv_at hl 0 rfl) ?_
            refine kc_vi (WR := []) (As := [.int (nI k)]) (rest := [.int (nI (cntB (isR np sb rp rl) k))]) ⟨hx, hb, hml, hown, hts⟩ (r_isRead l dC dI g m1 m2 m3 m4 m5 m6 m7 m8 m9 m10 m11 m12 m13 ci mt tl rc kp ms mi ml mb mf mo my np md mu fi sp sq sb rp rl H.size k (by omega) hsp (by omega) (hrow _ (by omega)) (hft _ (by omega))) (cwV 1 hts gM_count_M_isRead rfl rfl rfl (by decide +kernel) ⟨Nat.le_of_ble_eq_true rfl, Nat.le_of_ble_eq_true rfl⟩) hK hP hD hS hA [0, 1, 2, 3, 4, 5, 6, 7, 8, 9, 10, 11, 12, 13] [] [0] rfl rfl (by decide) (by decide) (by decide) rfl 0 1 rfl rfl rfl rfl hl.1 rfl (Nat.le_of_ble_eq_true rfl) dM_count_85 ⟨Nat.zero_le _, Nat.zero_le _⟩ (fun H locs hP hD hS => ?_)
            have hP : va_P (dC, dI) vwCl (wM g m1 m2 m3 m4 m5 m6 m7 m8 m9 m10 m11 m12 m13 ci mt tl rc kp ms mi ml mb mf mo my (np / 56) (np % 56) md mu fi sp sq) H := hP
            have hD : va_D A (wM g m1 m2 m3 m4 m5 m6 m7 m8 m9 m10 m11 m12 m13 ci mt tl rc kp ms mi ml mb mf mo my (np / 56) (np % 56) md mu fi sp sq) := hD
            refine lv_if_eq (tgt := 95) hx hb dM_count_88 (by decide) (fun c_88 => ?_) (fun c_88 => ?_)
            · have c_88 := (bI_e _).mp c_88
              refine lv_iconst (v := nI 0) hx hb dM_count_95 (by decide) ?_
              refine lv_iadd hx hb dM_count_96 ?_
              refine kv_top (show _ = nI ((cntB (isR np sb rp rl) k) + 0) from nI_add _ _) ?_
              refine kv_top (show _ = nI (cntB (isR np sb rp rl) (k + 1)) from (by rw [Nat.add_zero, cntB, if_neg (by rw [c_88]; decide)])) ?_
              refine lv_istore_n (lv' := [(2, .int (nI (cntB (isR np sb rp rl) (k + 1)))), (3, .int (nI k)), (0, .ref g)]) hx hb dM_count_97 rfl hl (by decide) rfl (fun ls hl => ?_)
              refine lv_iinc (v := nI (k + 1)) (lv' := [(3, .int (nI (k + 1))), (2, .int (nI (cntB (isR np sb rp rl) (k + 1)))), (0, .ref g)]) hx hb dM_count_98 hl (k := 1) rfl (ki_inc _) (by decide) rfl (fun ls hl => ?_)
              refine lv_goto (tgt := 74) hx hb dM_count_101 (by decide) ?_
              have hP : va_P (dC, dI) vwCl (wM g m1 m2 m3 m4 m5 m6 m7 m8 m9 m10 m11 m12 m13 ci mt tl rc kp ms mi ml mb mf mo my (np / 56) (np % 56) md mu fi sp sq) H := hP
              have hD : va_D A (wM g m1 m2 m3 m4 m5 m6 m7 m8 m9 m10 m11 m12 m13 ci mt tl rc kp ms mi ml mb mf mo my (np / 56) (np % 56) md mu fi sp sq) := hD
              exact ih (k + 1) (by omega) (by omega) _ _ _ hP hD hS (lv_sub hl [0, 1, 2] rfl)
            · have c_88 := kmt (bI_e _).mpr c_88
              have c_88 := bT c_88
              refine lv_iconst (v := nI 1) hx hb dM_count_91 (by decide) ?_
              refine lv_goto (tgt := 96) hx hb dM_count_92 (by decide) ?_
              refine lv_iadd hx hb dM_count_96 ?_
              refine kv_top (show _ = nI ((cntB (isR np sb rp rl) k) + 1) from nI_add _ _) ?_
              refine kv_top (show _ = nI (cntB (isR np sb rp rl) (k + 1)) from (by rw [cntB, if_pos (c_88)])) ?_
              refine lv_istore_n (lv' := [(2, .int (nI (cntB (isR np sb rp rl) (k + 1)))), (3, .int (nI k)), (0, .ref g)]) hx hb dM_count_97 rfl hl (by decide) rfl (fun ls hl => ?_)
              refine lv_iinc (v := nI (k + 1)) (lv' := [(3, .int (nI (k + 1))), (2, .int (nI (cntB (isR np sb rp rl) (k + 1)))), (0, .ref g)]) hx hb dM_count_98 hl (k := 1) rfl (ki_inc _) (by decide) rfl (fun ls hl => ?_)
              refine lv_goto (tgt := 74) hx hb dM_count_101 (by decide) ?_
              have hP : va_P (dC, dI) vwCl (wM g m1 m2 m3 m4 m5 m6 m7 m8 m9 m10 m11 m12 m13 ci mt tl rc kp ms mi ml mb mf mo my (np / 56) (np % 56) md mu fi sp sq) H := hP
              have hD : va_D A (wM g m1 m2 m3 m4 m5 m6 m7 m8 m9 m10 m11 m12 m13 ci mt tl rc kp ms mi ml mb mf mo my (np / 56) (np % 56) md mu fi sp sq) := hD
              exact ih (k + 1) (by omega) (by omega) _ _ _ hP hD hS (lv_sub hl [0, 1, 2] rfl)
      have hP : va_P (dC, dI) vwCl (wM g m1 m2 m3 m4 m5 m6 m7 m8 m9 m10 m11 m12 m13 ci mt tl rc kp ms mi ml mb mf mo my (np / 56) (np % 56) md mu fi sp sq) H := hP
      have hD : va_D A (wM g m1 m2 m3 m4 m5 m6 m7 m8 m9 m10 m11 m12 m13 ci mt tl rc kp ms mi ml mb mf mo my (np / 56) (np % 56) md mu fi sp sq) := hD
      exact hloopk (rc + 1) 0 (by omega) (by omega) _ _ _ hP hD hS (lv_sub hl [0, 1, 2] rfl)
    · refine lv_tableIn (tgt := 106) (off := 98) hx hb dM_count_8 (by decide) (by decide) (by decide) (by decide) ?_
      refine lv_iconst (v := nI 0) hx hb dM_count_106 (by decide) ?_
      refine lv_istore_n (lv' := [(3, .int (nI 0)), (2, .int (nI 0)), (0, .ref g), (1, .int (nI 5))]) hx hb dM_count_107 rfl hl (by decide) rfl (fun ls hl => ?_)
      have hloopk : ∀ (n k : Nat), k ≤ np / 56 → np / 56 + 1 ≤ k + n → ∀ (H : Heap) (locs : List Loc) (ls : Array Slot), va_P (dC, dI) vwCl (wM g m1 m2 m3 m4 m5 m6 m7 m8 m9 m10 m11 m12 m13 ci mt tl rc kp ms mi ml mb mf mo my (np / 56) (np % 56) md mu fi sp sq) H → va_D A (wM g m1 m2 m3 m4 m5 m6 m7 m8 m9 m10 m11 m12 m13 ci mt tl rc kp ms mi ml mb mf mo my (np / 56) (np % 56) md mu fi sp sq) → va_S A s.heap H locs → lv_has ls 4 [(3, .int (nI k)), (2, .int (nI (cntB (nG np sb) k))), (0, .ref g)] → W p l e ({ frames := 3, cells := 0, slots := 0, locals := 64 }) s m ([.ref g, .int (nI 5)] : List Value).toArray below meth c H locs 0 0 Q (F0 m 108 ls []) := by
        intro n
        induction n with
        | zero => intro k h1 h2; exact absurd h2 (by omega)
        | succ n ih =>
          intro k hkA hkB H locs ls hP hD hS hl
          refine lv_iload_n hx hb dM_count_108 rfl (lv_at hl 0 rfl) ?_
          refine lv_aload_n hx hb dM_count_109 rfl (lv_at hl 2 rfl) ?_
          refine va_get (D := (dC, dI)) (ci := 1) (v := .int (nI (np / 56))) (C := RX1) (T := TX1) (N := 19) hx hb hts hin1 hown hK hP 0 rfl rfl 12 (by decide) lkf56 (fun _ h9 => h9) rfl dM_count_110 ?_
          refine lv_icmp_ge (tgt := 138) hx hb dM_count_113 (by decide) (fun c_113 => ?_) (fun c_113 => ?_)
          · have c_113 := (nI_leI (by omega) (by omega)).mp c_113
            refine lv_iload_n hx hb dM_count_138 rfl (lv_at hl 1 rfl) ?_
            refine kv_top (show _ = cntX tl np rc rp rl sb (nI 5) from (by rw [show k = np / 56 by omega]; rfl)) ?_
            exact hret _ _ _ _ hP hD hS dM_count_139
          · have c_113 := kmt (nI_leI (by omega) (by omega)).mpr c_113
            refine lv_iload_n hx hb dM_count_116 rfl (lv_at hl 1 rfl) ?_
            refine lv_aload_n hx hb dM_count_117 rfl (lv_at hl 2 rfl) ?_
            refine lv_iload_n hx hb dM_count_118 rfl (lv_at hl 0 rfl) ?_
            refine kc_vi (WR := []) (As := [.int (nI k)]) (rest := [.int (nI (cntB (nG np sb) k))]) ⟨hx, hb, hml, hown, hts⟩ (r_isGood l dC dI g m1 m2 m3 m4 m5 m6 m7 m8 m9 m10 m11 m12 m13 ci mt tl rc kp ms mi ml mb mf mo my np md mu fi sp sq sb H.size (nI k) (by omega) hsp) (cwV 1 hts gM_count_M_isGood rfl rfl rfl (by decide +kernel) ⟨Nat.le_of_ble_eq_true rfl, Nat.le_of_ble_eq_true rfl⟩) hK hP hD hS hA [0, 1, 2, 3, 4, 5, 6, 7, 8, 9, 10, 11, 12, 13] [] [0] rfl rfl (by decide) (by decide) (by decide) rfl 0 1 rfl rfl rfl rfl hl.1 rfl (Nat.le_of_ble_eq_true rfl) dM_count_119 ⟨Nat.zero_le _, Nat.zero_le _⟩ (fun H locs hP hD hS => ?_)
            have hP : va_P (dC, dI) vwCl (wM g m1 m2 m3 m4 m5 m6 m7 m8 m9 m10 m11 m12 m13 ci mt tl rc kp ms mi ml mb mf mo my (np / 56) (np % 56) md mu fi sp sq) H := hP
            have hD : va_D A (wM g m1 m2 m3 m4 m5 m6 m7 m8 m9 m10 m11 m12 m13 ci mt tl rc kp ms mi ml mb mf mo my (np / 56) (np % 56) md mu fi sp sq) := hD
            refine kv_top (show _ = bI (gd np sb k) from by rw [goodX_n (by omega)]) ?_
            refine lv_if_eq (tgt := 129) hx hb dM_count_122 (by decide) (fun c_122 => ?_) (fun c_122 => ?_)
            · have c_122 := (bI_e _).mp c_122
              refine lv_iconst (v := nI 1) hx hb dM_count_129 (by decide) ?_
              refine lv_iadd hx hb dM_count_130 ?_
              refine kv_top (show _ = nI ((cntB (nG np sb) k) + 1) from nI_add _ _) ?_
              refine kv_top (show _ = nI (cntB (nG np sb) (k + 1)) from (by rw [cntB, if_pos (by simp [nG, c_122])])) ?_
              refine lv_istore_n (lv' := [(2, .int (nI (cntB (nG np sb) (k + 1)))), (3, .int (nI k)), (0, .ref g)]) hx hb dM_count_131 rfl hl (by decide) rfl (fun ls hl => ?_)
              refine lv_iinc (v := nI (k + 1)) (lv' := [(3, .int (nI (k + 1))), (2, .int (nI (cntB (nG np sb) (k + 1)))), (0, .ref g)]) hx hb dM_count_132 hl (k := 1) rfl (ki_inc _) (by decide) rfl (fun ls hl => ?_)
              refine lv_goto (tgt := 108) hx hb dM_count_135 (by decide) ?_
              have hP : va_P (dC, dI) vwCl (wM g m1 m2 m3 m4 m5 m6 m7 m8 m9 m10 m11 m12 m13 ci mt tl rc kp ms mi ml mb mf mo my (np / 56) (np % 56) md mu fi sp sq) H := hP
              have hD : va_D A (wM g m1 m2 m3 m4 m5 m6 m7 m8 m9 m10 m11 m12 m13 ci mt tl rc kp ms mi ml mb mf mo my (np / 56) (np % 56) md mu fi sp sq) := hD
              exact ih (k + 1) (by omega) (by omega) _ _ _ hP hD hS (lv_sub hl [0, 1, 2] rfl)
            · have c_122 := kmt (bI_e _).mpr c_122
              have c_122 := bT c_122
              refine lv_iconst (v := nI 0) hx hb dM_count_125 (by decide) ?_
              refine lv_goto (tgt := 130) hx hb dM_count_126 (by decide) ?_
              refine lv_iadd hx hb dM_count_130 ?_
              refine kv_top (show _ = nI ((cntB (nG np sb) k) + 0) from nI_add _ _) ?_
              refine kv_top (show _ = nI (cntB (nG np sb) (k + 1)) from (by rw [Nat.add_zero, cntB, if_neg (by simp [nG, c_122])])) ?_
              refine lv_istore_n (lv' := [(2, .int (nI (cntB (nG np sb) (k + 1)))), (3, .int (nI k)), (0, .ref g)]) hx hb dM_count_131 rfl hl (by decide) rfl (fun ls hl => ?_)
              refine lv_iinc (v := nI (k + 1)) (lv' := [(3, .int (nI (k + 1))), (2, .int (nI (cntB (nG np sb) (k + 1)))), (0, .ref g)]) hx hb dM_count_132 hl (k := 1) rfl (ki_inc _) (by decide) rfl (fun ls hl => ?_)
              refine lv_goto (tgt := 108) hx hb dM_count_135 (by decide) ?_
              have hP : va_P (dC, dI) vwCl (wM g m1 m2 m3 m4 m5 m6 m7 m8 m9 m10 m11 m12 m13 ci mt tl rc kp ms mi ml mb mf mo my (np / 56) (np % 56) md mu fi sp sq) H := hP
              have hD : va_D A (wM g m1 m2 m3 m4 m5 m6 m7 m8 m9 m10 m11 m12 m13 ci mt tl rc kp ms mi ml mb mf mo my (np / 56) (np % 56) md mu fi sp sq) := hD
              exact ih (k + 1) (by omega) (by omega) _ _ _ hP hD hS (lv_sub hl [0, 1, 2] rfl)
      have hP : va_P (dC, dI) vwCl (wM g m1 m2 m3 m4 m5 m6 m7 m8 m9 m10 m11 m12 m13 ci mt tl rc kp ms mi ml mb mf mo my (np / 56) (np % 56) md mu fi sp sq) H := hP
      have hD : va_D A (wM g m1 m2 m3 m4 m5 m6 m7 m8 m9 m10 m11 m12 m13 ci mt tl rc kp ms mi ml mb mf mo my (np / 56) (np % 56) md mu fi sp sq) := hD
      exact hloopk ((np / 56) + 1) 0 (by omega) (by omega) _ _ _ hP hD hS (lv_sub hl [0, 1, 2] rfl)
    · refine lv_tableIn (tgt := 140) (off := 132) hx hb dM_count_8 (by decide) (by decide) (by decide) (by decide) ?_
      refine lv_aload_n hx hb dM_count_140 rfl (lv_at hl 1 rfl) ?_
      refine kc_vi (WR := []) (As := []) (rest := []) ⟨hx, hb, hml, hown, hts⟩ (r_room l dC dI g m1 m2 m3 m4 m5 m6 m7 m8 m9 m10 m11 m12 m13 ci mt tl rc kp ms mi ml mb mf mo my np md mu fi sp sq H.size (by omega)) (cwV 0 hts gM_count_M_room rfl rfl rfl (by decide +kernel) ⟨Nat.le_of_ble_eq_true rfl, Nat.le_of_ble_eq_true rfl⟩) hK hP hD hS hA [0, 1, 2, 3, 4, 5, 6, 7, 8, 9, 10, 11, 12, 13] [] [0] rfl rfl (by decide) (by decide) (by decide) rfl 0 1 rfl rfl rfl rfl hl.1 rfl (Nat.le_of_ble_eq_true rfl) dM_count_141 ⟨Nat.zero_le _, Nat.zero_le _⟩ (fun H locs hP hD hS => ?_)
      have hP : va_P (dC, dI) vwCl (wM g m1 m2 m3 m4 m5 m6 m7 m8 m9 m10 m11 m12 m13 ci mt tl rc kp ms mi ml mb mf mo my (np / 56) (np % 56) md mu fi sp sq) H := hP
      have hD : va_D A (wM g m1 m2 m3 m4 m5 m6 m7 m8 m9 m10 m11 m12 m13 ci mt tl rc kp ms mi ml mb mf mo my (np / 56) (np % 56) md mu fi sp sq) := hD
      refine kv_top (show _ = cntX tl np rc rp rl sb (nI 6) from rfl) ?_
      exact hret _ _ _ _ hP hD hS dM_count_144
set_option maxHeartbeats 4000000 in
set_option maxRecDepth 100000 in
theorem r_readN (l : Launch) (dC : Nat → ClassId) (dI : Nat → Nat → Nat) (g m1 m2 m3 m4 m5 m6 m7 m8 m9 m10 m11 m12 m13 : Nat) (ci : ClassId) (mt : Nat → Nat) (tl rc kp : Nat) (ms mi ml mb mf mo my : Nat → Nat) (np : Nat) (md mu fi : Nat → Nat) (sp : Nat → Int32) (sq : Nat → Nat) (sb rp rl : Nat → Nat) (sz : Nat) (j : Nat) (x : Int32) (hnp : np ≤ 4480) (hsp : ∀ b, b < np / 56 → ((sp b).toInt < 0 ↔ sb b = 0)) (hrc : rc ≤ 200) (hrow : ∀ k, k < rc → rp k + rl k ≤ 4480 ∧ 6 ≤ rl k) (hft : ∀ k, k < rc → mf k = rp k / 56 ∧ mo k = (rp k + rl k - 1) / 56) (hj : j < 2 ^ 31) (hN : rOf (isR np sb rp rl) (nI j) rc 0 0 = -1) : Met l yM_read wsM_read ({ frames := 3, cells := 0, slots := 0, locals := 64 }) (kPre (dC, dI) vwCl (wM g m1 m2 m3 m4 m5 m6 m7 m8 m9 m10 m11 m12 m13 ci mt tl rc kp ms mi ml mb mf mo my (np / 56) (np % 56) md mu fi sp sq) (tM ci) sz [.ref g, .int (nI j), .int x]) (kQi (dC, dI) vwCl (wM g m1 m2 m3 m4 m5 m6 m7 m8 m9 m10 m11 m12 m13 ci mt tl rc kp ms mi ml mb mf mo my (np / 56) (np % 56) md mu fi sp sq) (tM ci) sz ((-1)) (wM g m1 m2 m3 m4 m5 m6 m7 m8 m9 m10 m11 m12 m13 ci mt tl rc kp ms mi ml mb mf mo my (np / 56) (np % 56) md mu fi sp sq)) 0 0 (va_A (wM g m1 m2 m3 m4 m5 m6 m7 m8 m9 m10 m11 m12 m13 ci mt tl rc kp ms mi ml mb mf mo my (np / 56) (np % 56) md mu fi sp sq) sz) := by
  refine kM_i (cc := cM_read) (maxL := 5) (by decide) rfl (Nat.le_of_ble_eq_true rfl) ?_
  intro p e s m below meth c A Q ls H locs S hP hK hD hS hA hl hret
  obtain ⟨hx, hb, hml, hown, hts⟩ := id S
  have hin1 : ∀ w ∈ u_ws RX1 TX1 19, w ∈ wsM_read := fun _ h => List.mem_cons_of_mem _ (List.mem_append_right _ h)
  have lkf49 := hts (.fieldLink RX1 49 "BlockTapeModel" "thrown" "I") (by decide +kernel)
  have lkf66 := hts (.fieldLink RX1 66 "BlockTapeModel" "records" "I") (by decide +kernel)
  have hl : lv_has ls 5 [(0, .ref g), (1, .int (nI j)), (2, .int x)] := hl
  have hcb := cntB_le (isR np sb rp rl)
  refine lv_aload_n hx hb dM_read_0 rfl (lv_at hl 0 rfl) ?_
  refine lv_iconst (v := nI 0) hx hb dM_read_1 (by decide) ?_
  refine va_put (D := (dC, dI)) (ci := 1) (v := .int (nI 0)) (ty := .int) (C := RX1) (T := TX1) (N := 19) hx hb hts hin1 tyX1 tyX1_ok nmX1 hown hK hP hD hS 0 rfl rfl 0 (by decide) lkf49 (fun _ h9 => h9) rfl (by decide +kernel) rfl rfl (Nat.le_of_ble_eq_true rfl) dM_read_2 (fun H locs hP hD hS => ?_)
  have hP : va_P (dC, dI) vwCl (wM g m1 m2 m3 m4 m5 m6 m7 m8 m9 m10 m11 m12 m13 ci mt tl rc kp ms mi ml mb mf mo my (np / 56) (np % 56) md mu fi sp sq) H := hP
  have hD : va_D A (wM g m1 m2 m3 m4 m5 m6 m7 m8 m9 m10 m11 m12 m13 ci mt tl rc kp ms mi ml mb mf mo my (np / 56) (np % 56) md mu fi sp sq) := hD
  refine lv_iload_n hx hb dM_read_5 rfl (lv_at hl 1 rfl) ?_
  refine lv_istore_n (lv' := [(3, .int (nI j)), (0, .ref g), (1, .int (nI j)), (2, .int x)]) hx hb dM_read_6 rfl hl (by decide) rfl (fun ls hl => ?_)
  refine lv_iconst (v := nI 0) hx hb dM_read_7 (by decide) ?_
  refine lv_istore (lv' := [(4, .int (nI 0)), (3, .int (nI j)), (0, .ref g), (1, .int (nI j)), (2, .int x)]) hx hb dM_read_8 hl (by decide) rfl (fun ls hl => ?_)
  have hloopk : ∀ (n k : Nat), k ≤ rc → rc + 1 ≤ k + n → (rOf (isR np sb rp rl) (nI j) (rc - k) k (cntB (isR np sb rp rl) k) = rOf (isR np sb rp rl) (nI j) rc 0 0) → (cntB (isR np sb rp rl) k ≤ j) → ∀ (H : Heap) (locs : List Loc) (ls : Array Slot), va_P (dC, dI) vwCl (wM g m1 m2 m3 m4 m5 m6 m7 m8 m9 m10 m11 m12 m13 ci mt tl rc kp ms mi ml mb mf mo my (np / 56) (np % 56) md mu fi sp sq) H → va_D A (wM g m1 m2 m3 m4 m5 m6 m7 m8 m9 m10 m11 m12 m13 ci mt tl rc kp ms mi ml mb mf mo my (np / 56) (np % 56) md mu fi sp sq) → va_S A s.heap H locs → lv_has ls 5 [(4, .int (nI k)), (3, .int (nI (j - cntB (isR np sb rp rl) k))), (0, .ref g), (2, .int x)] → W p l e ({ frames := 3, cells := 0, slots := 0, locals := 64 }) s m ([.ref g, .int (nI j), .int x] : List Value).toArray below meth c H locs 0 0 Q (F0 m 10 ls []) := by
    intro n
    induction n with
    | zero => intro k h1 h2; exact absurd h2 (by omega)
    | succ n ih =>
      intro k hkA hkB hres hcj H locs ls hP hD hS hl
      refine lv_iload hx hb dM_read_10 (lv_at hl 0 rfl) ?_
      refine lv_aload_n hx hb dM_read_12 rfl (lv_at hl 2 rfl) ?_
      refine va_get (D := (dC, dI)) (ci := 1) (v := .int (nI rc)) (C := RX1) (T := TX1) (N := 19) hx hb hts hin1 hown hK hP 0 rfl rfl 3 (by decide) lkf66 (fun _ h9 => h9) rfl dM_read_13 ?_
      refine lv_icmp_ge (tgt := 153) hx hb dM_read_16 (by decide) (fun c_16 => ?_) (fun c_16 => ?_)
      · have c_16 := (nI_leI (by omega) (by omega)).mp c_16
        refine lv_iconst (v := (-1)) hx hb dM_read_153 (by decide) ?_
        exact hret _ _ _ _ hP hD hS dM_read_154
      · have c_16 := kmt (nI_leI (by omega) (by omega)).mpr c_16
        refine lv_iload_n hx hb dM_read_19 rfl (lv_at hl 1 rfl) ?_
        refine lv_if_lt (tgt := 153) hx hb dM_read_20 (by decide) (fun c_20 => ?_) (fun c_20 => ?_)
        · have c_20 := (kn_lt0 (by omega)).mp c_20
          exfalso; omega
        · have c_20 := kmt (kn_lt0 (by omega)).mpr c_20
          refine lv_aload_n hx hb dM_read_23 rfl (lv_at hl 2 rfl) ?_
          refine lv_iload hx hb dM_read_24 (lv_at hl 0 rfl) ?_
          refine kc_vi (WR := []) (As := [.int (nI k)]) (rest := []) ⟨hx, hb, hml, hown, hts⟩ (r_isRead l dC dI g m1 m2 m3 m4 m5 m6 m7 m8 m9 m10 m11 m12 m13 ci mt tl rc kp ms mi ml mb mf mo my np md mu fi sp sq sb rp rl H.size k (by omega) hsp (by omega) (hrow _ (by omega)) (hft _ (by omega))) (cwV 1 hts gM_read_M_isRead rfl rfl rfl (by decide +kernel) ⟨Nat.le_of_ble_eq_true rfl, Nat.le_of_ble_eq_true rfl⟩) hK hP hD hS hA [0, 1, 2, 3, 4, 5, 6, 7, 8, 9, 10, 11, 12, 13] [] [0] rfl rfl (by decide) (by decide) (by decide) rfl 0 1 rfl rfl rfl rfl hl.1 rfl (Nat.le_of_ble_eq_true rfl) dM_read_26 ⟨Nat.zero_le _, Nat.zero_le _⟩ (fun H locs hP hD hS => ?_)
          have hP : va_P (dC, dI) vwCl (wM g m1 m2 m3 m4 m5 m6 m7 m8 m9 m10 m11 m12 m13 ci mt tl rc kp ms mi ml mb mf mo my (np / 56) (np % 56) md mu fi sp sq) H := hP
          have hD : va_D A (wM g m1 m2 m3 m4 m5 m6 m7 m8 m9 m10 m11 m12 m13 ci mt tl rc kp ms mi ml mb mf mo my (np / 56) (np % 56) md mu fi sp sq) := hD
          refine lv_if_ne (tgt := 35) hx hb dM_read_29 (by decide) (fun c_29 => ?_) (fun c_29 => ?_)
          · have c_29 := kmt (bI_e _).mpr c_29
            have c_29 := bT c_29
            rw [rOf_step (by omega), if_pos c_29] at hres
            have hcs : cntB (isR np sb rp rl) (k + 1) = cntB (isR np sb rp rl) k + 1 := by rw [cntB, if_pos c_29]
            by_cases hjk : cntB (isR np sb rp rl) k = j
            · rw [if_pos (by rw [hjk])] at hres
              refine lv_iinc (v := -1) (lv' := [(3, .int ((-1))), (4, .int (nI k)), (0, .ref g), (2, .int x)]) hx hb dM_read_35 hl (k := 1) rfl (by rw [show j - cntB (isR np sb rp rl) k = 0 by omega]; rfl) (by decide) rfl (fun ls hl => ?_)
              exact absurd (hres.trans hN) (nI_nm1 (by omega))
            · rw [if_neg (fun h9 => hjk ((nI_eq (by omega) (by omega)).mp h9)), ← hcs] at hres
              refine lv_iinc (v := nI (j - cntB (isR np sb rp rl) (k + 1))) (lv' := [(3, .int (nI (j - cntB (isR np sb rp rl) (k + 1)))), (4, .int (nI k)), (0, .ref g), (2, .int x)]) hx hb dM_read_35 hl (k := 1) rfl (by rw [hcs, show j - cntB (isR np sb rp rl) k = (j - (cntB (isR np sb rp rl) k + 1)) + 1 by omega]; exact pk_m1 _) (by decide) rfl (fun ls hl => ?_)
              have hcj : cntB (isR np sb rp rl) (k + 1) ≤ j := by omega
              refine lv_iload_n hx hb dM_read_38 rfl (lv_at hl 0 rfl) ?_
              refine lv_if_lt (tgt := 45) hx hb dM_read_39 (by decide) (fun c_39 => ?_) (fun c_39 => ?_)
              · have c_39 := (kn_lt0 (by omega)).mp c_39
                exfalso; omega
              · have c_39 := kmt (kn_lt0 (by omega)).mpr c_39
                refine lv_goto (tgt := 147) hx hb dM_read_42 (by decide) ?_
                refine lv_iinc (v := nI (k + 1)) (lv' := [(4, .int (nI (k + 1))), (3, .int (nI (j - cntB (isR np sb rp rl) (k + 1)))), (0, .ref g), (2, .int x)]) hx hb dM_read_147 hl (k := 1) rfl (ki_inc _) (by decide) rfl (fun ls hl => ?_)
                refine lv_goto (tgt := 10) hx hb dM_read_150 (by decide) ?_
                have hP : va_P (dC, dI) vwCl (wM g m1 m2 m3 m4 m5 m6 m7 m8 m9 m10 m11 m12 m13 ci mt tl rc kp ms mi ml mb mf mo my (np / 56) (np % 56) md mu fi sp sq) H := hP
                have hD : va_D A (wM g m1 m2 m3 m4 m5 m6 m7 m8 m9 m10 m11 m12 m13 ci mt tl rc kp ms mi ml mb mf mo my (np / 56) (np % 56) md mu fi sp sq) := hD
                exact ih (k + 1) (by omega) (by omega) (hres) (hcj) _ _ _ hP hD hS (lv_sub hl [0, 1, 2, 3] rfl)
          · have c_29 := (bI_e _).mp c_29
            rw [rOf_step (by omega), if_neg (by rw [c_29]; decide)] at hres
            rw [show cntB (isR np sb rp rl) k = cntB (isR np sb rp rl) (k + 1) from (by rw [cntB, if_neg (by rw [c_29]; decide)])] at hl hres hcj
            refine lv_goto (tgt := 147) hx hb dM_read_32 (by decide) ?_
            refine lv_iinc (v := nI (k + 1)) (lv' := [(4, .int (nI (k + 1))), (3, .int (nI (j - cntB (isR np sb rp rl) (k + 1)))), (0, .ref g), (2, .int x)]) hx hb dM_read_147 hl (k := 0) rfl (ki_inc _) (by decide) rfl (fun ls hl => ?_)
            refine lv_goto (tgt := 10) hx hb dM_read_150 (by decide) ?_
            have hP : va_P (dC, dI) vwCl (wM g m1 m2 m3 m4 m5 m6 m7 m8 m9 m10 m11 m12 m13 ci mt tl rc kp ms mi ml mb mf mo my (np / 56) (np % 56) md mu fi sp sq) H := hP
            have hD : va_D A (wM g m1 m2 m3 m4 m5 m6 m7 m8 m9 m10 m11 m12 m13 ci mt tl rc kp ms mi ml mb mf mo my (np / 56) (np % 56) md mu fi sp sq) := hD
            exact ih (k + 1) (by omega) (by omega) (hres) (hcj) _ _ _ hP hD hS (lv_sub hl [0, 1, 2, 3] rfl)
  have hP : va_P (dC, dI) vwCl (wM g m1 m2 m3 m4 m5 m6 m7 m8 m9 m10 m11 m12 m13 ci mt tl rc kp ms mi ml mb mf mo my (np / 56) (np % 56) md mu fi sp sq) H := hP
  have hD : va_D A (wM g m1 m2 m3 m4 m5 m6 m7 m8 m9 m10 m11 m12 m13 ci mt tl rc kp ms mi ml mb mf mo my (np / 56) (np % 56) md mu fi sp sq) := hD
  exact hloopk (rc + 1) 0 (by omega) (by omega) (rfl) (Nat.zero_le _) _ _ _ hP hD hS (lv_sub hl [0, 1, 2, 4] rfl)
set_option maxHeartbeats 4000000 in
set_option maxRecDepth 100000 in
theorem r_read (l : Launch) (dC : Nat → ClassId) (dI : Nat → Nat → Nat) (g m1 m2 m3 m4 m5 m6 m7 m8 m9 m10 m11 m12 m13 : Nat) (ci : ClassId) (mt : Nat → Nat) (tl rc kp : Nat) (ms mi ml mb mf mo my : Nat → Nat) (np : Nat) (md mu fi : Nat → Nat) (sp : Nat → Int32) (sq : Nat → Nat) (sb rp rl : Nat → Nat) (sz : Nat) (j : Nat) (x : Int32) (hnp : np ≤ 4480) (hsp : ∀ b, b < np / 56 → ((sp b).toInt < 0 ↔ sb b = 0)) (hrc : rc ≤ 200) (hrow : ∀ k, k < rc → rp k + rl k ≤ 4480 ∧ 6 ≤ rl k) (hft : ∀ k, k < rc → mf k = rp k / 56 ∧ mo k = (rp k + rl k - 1) / 56) (hj : j < 2 ^ 31) (r : Nat) (hr : r < rc) (hN : rOf (isR np sb rp rl) (nI j) rc 0 0 = nI r) (hmr : mb r + ml r ≤ 4480 ∧ ml r ≤ 300) : Met l yM_read wsM_read ({ frames := 3, cells := 0, slots := 0, locals := 64 }) (kPre (dC, dI) vwCl (wM g m1 m2 m3 m4 m5 m6 m7 m8 m9 m10 m11 m12 m13 ci mt tl rc kp ms mi ml mb mf mo my (np / 56) (np % 56) md mu fi sp sq) (tM ci) sz [.ref g, .int (nI j), .int x]) (kQi (dC, dI) vwCl (wM g m1 m2 m3 m4 m5 m6 m7 m8 m9 m10 m11 m12 m13 ci mt tl rc kp ms mi ml mb mf mo my (np / 56) (np % 56) md mu fi sp sq) (tM ci) sz (rdM ms mi ml mf mb my r x) (wM g m1 m2 m3 m4 m5 m6 m7 m8 m9 m10 m11 m12 m13 ci mt tl rc kp ms mi ml mb mf mo my (np / 56) (np % 56) md mu fi sp sq)) 0 0 (va_A (wM g m1 m2 m3 m4 m5 m6 m7 m8 m9 m10 m11 m12 m13 ci mt tl rc kp ms mi ml mb mf mo my (np / 56) (np % 56) md mu fi sp sq) sz) := by
  refine kM_i (cc := cM_read) (maxL := 5) (by decide) rfl (Nat.le_of_ble_eq_true rfl) ?_
  intro p e s m below meth c A Q ls H locs S hP hK hD hS hA hl hret
  obtain ⟨hx, hb, hml, hown, hts⟩ := id S
  have hin1 : ∀ w ∈ u_ws RX1 TX1 19, w ∈ wsM_read := fun _ h => List.mem_cons_of_mem _ (List.mem_append_right _ h)
  have lkf49 := hts (.fieldLink RX1 49 "BlockTapeModel" "thrown" "I") (by decide +kernel)
  have lkf66 := hts (.fieldLink RX1 66 "BlockTapeModel" "records" "I") (by decide +kernel)
  have lkf19 := hts (.fieldLink RX1 19 "BlockTapeModel" "length" "[I") (by decide +kernel)
  have lkf31 := hts (.fieldLink RX1 31 "BlockTapeModel" "bytes" "[I") (by decide +kernel)
  have lkf22 := hts (.fieldLink RX1 22 "BlockTapeModel" "begin" "[I") (by decide +kernel)
  have lkf13 := hts (.fieldLink RX1 13 "BlockTapeModel" "stream" "[I") (by decide +kernel)
  have lkf16 := hts (.fieldLink RX1 16 "BlockTapeModel" "index" "[I") (by decide +kernel)
  have lkf25 := hts (.fieldLink RX1 25 "BlockTapeModel" "fromBlock" "[I") (by decide +kernel)
  have hl : lv_has ls 5 [(0, .ref g), (1, .int (nI j)), (2, .int x)] := hl
  have hrw := hmr
  have hcb := cntB_le (isR np sb rp rl)
  refine lv_aload_n hx hb dM_read_0 rfl (lv_at hl 0 rfl) ?_
  refine lv_iconst (v := nI 0) hx hb dM_read_1 (by decide) ?_
  refine va_put (D := (dC, dI)) (ci := 1) (v := .int (nI 0)) (ty := .int) (C := RX1) (T := TX1) (N := 19) hx hb hts hin1 tyX1 tyX1_ok nmX1 hown hK hP hD hS 0 rfl rfl 0 (by decide) lkf49 (fun _ h9 => h9) rfl (by decide +kernel) rfl rfl (Nat.le_of_ble_eq_true rfl) dM_read_2 (fun H locs hP hD hS => ?_)
  have hP : va_P (dC, dI) vwCl (wM g m1 m2 m3 m4 m5 m6 m7 m8 m9 m10 m11 m12 m13 ci mt tl rc kp ms mi ml mb mf mo my (np / 56) (np % 56) md mu fi sp sq) H := hP
  have hD : va_D A (wM g m1 m2 m3 m4 m5 m6 m7 m8 m9 m10 m11 m12 m13 ci mt tl rc kp ms mi ml mb mf mo my (np / 56) (np % 56) md mu fi sp sq) := hD
  refine lv_iload_n hx hb dM_read_5 rfl (lv_at hl 1 rfl) ?_
  refine lv_istore_n (lv' := [(3, .int (nI j)), (0, .ref g), (1, .int (nI j)), (2, .int x)]) hx hb dM_read_6 rfl hl (by decide) rfl (fun ls hl => ?_)
  refine lv_iconst (v := nI 0) hx hb dM_read_7 (by decide) ?_
  refine lv_istore (lv' := [(4, .int (nI 0)), (3, .int (nI j)), (0, .ref g), (1, .int (nI j)), (2, .int x)]) hx hb dM_read_8 hl (by decide) rfl (fun ls hl => ?_)
  have hloopk : ∀ (n k : Nat), k ≤ rc → rc + 1 ≤ k + n → (rOf (isR np sb rp rl) (nI j) (rc - k) k (cntB (isR np sb rp rl) k) = rOf (isR np sb rp rl) (nI j) rc 0 0) → (cntB (isR np sb rp rl) k ≤ j) → ∀ (H : Heap) (locs : List Loc) (ls : Array Slot), va_P (dC, dI) vwCl (wM g m1 m2 m3 m4 m5 m6 m7 m8 m9 m10 m11 m12 m13 ci mt tl rc kp ms mi ml mb mf mo my (np / 56) (np % 56) md mu fi sp sq) H → va_D A (wM g m1 m2 m3 m4 m5 m6 m7 m8 m9 m10 m11 m12 m13 ci mt tl rc kp ms mi ml mb mf mo my (np / 56) (np % 56) md mu fi sp sq) → va_S A s.heap H locs → lv_has ls 5 [(4, .int (nI k)), (3, .int (nI (j - cntB (isR np sb rp rl) k))), (0, .ref g), (2, .int x)] → W p l e ({ frames := 3, cells := 0, slots := 0, locals := 64 }) s m ([.ref g, .int (nI j), .int x] : List Value).toArray below meth c H locs 0 0 Q (F0 m 10 ls []) := by
    intro n
    induction n with
    | zero => intro k h1 h2; exact absurd h2 (by omega)
    | succ n ih =>
      intro k hkA hkB hres hcj H locs ls hP hD hS hl
      refine lv_iload hx hb dM_read_10 (lv_at hl 0 rfl) ?_
      refine lv_aload_n hx hb dM_read_12 rfl (lv_at hl 2 rfl) ?_
      refine va_get (D := (dC, dI)) (ci := 1) (v := .int (nI rc)) (C := RX1) (T := TX1) (N := 19) hx hb hts hin1 hown hK hP 0 rfl rfl 3 (by decide) lkf66 (fun _ h9 => h9) rfl dM_read_13 ?_
      refine lv_icmp_ge (tgt := 153) hx hb dM_read_16 (by decide) (fun c_16 => ?_) (fun c_16 => ?_)
      · have c_16 := (nI_leI (by omega) (by omega)).mp c_16
        refine lv_iconst (v := (-1)) hx hb dM_read_153 (by decide) ?_
        refine kv_top (show _ = rdM ms mi ml mf mb my r x from (by rw [show rc - k = 0 by omega] at hres; exact absurd (hres.trans hN).symm (nI_nm1 (by omega)))) ?_
        exact hret _ _ _ _ hP hD hS dM_read_154
      · have c_16 := kmt (nI_leI (by omega) (by omega)).mpr c_16
        refine lv_iload_n hx hb dM_read_19 rfl (lv_at hl 1 rfl) ?_
        refine lv_if_lt (tgt := 153) hx hb dM_read_20 (by decide) (fun c_20 => ?_) (fun c_20 => ?_)
        · have c_20 := (kn_lt0 (by omega)).mp c_20
          exfalso; omega
        · have c_20 := kmt (kn_lt0 (by omega)).mpr c_20
          refine lv_aload_n hx hb dM_read_23 rfl (lv_at hl 2 rfl) ?_
          refine lv_iload hx hb dM_read_24 (lv_at hl 0 rfl) ?_
          refine kc_vi (WR := []) (As := [.int (nI k)]) (rest := []) ⟨hx, hb, hml, hown, hts⟩ (r_isRead l dC dI g m1 m2 m3 m4 m5 m6 m7 m8 m9 m10 m11 m12 m13 ci mt tl rc kp ms mi ml mb mf mo my np md mu fi sp sq sb rp rl H.size k (by omega) hsp (by omega) (hrow _ (by omega)) (hft _ (by omega))) (cwV 1 hts gM_read_M_isRead rfl rfl rfl (by decide +kernel) ⟨Nat.le_of_ble_eq_true rfl, Nat.le_of_ble_eq_true rfl⟩) hK hP hD hS hA [0, 1, 2, 3, 4, 5, 6, 7, 8, 9, 10, 11, 12, 13] [] [0] rfl rfl (by decide) (by decide) (by decide) rfl 0 1 rfl rfl rfl rfl hl.1 rfl (Nat.le_of_ble_eq_true rfl) dM_read_26 ⟨Nat.zero_le _, Nat.zero_le _⟩ (fun H locs hP hD hS => ?_)
          have hP : va_P (dC, dI) vwCl (wM g m1 m2 m3 m4 m5 m6 m7 m8 m9 m10 m11 m12 m13 ci mt tl rc kp ms mi ml mb mf mo my (np / 56) (np % 56) md mu fi sp sq) H := hP
          have hD : va_D A (wM g m1 m2 m3 m4 m5 m6 m7 m8 m9 m10 m11 m12 m13 ci mt tl rc kp ms mi ml mb mf mo my (np / 56) (np % 56) md mu fi sp sq) := hD
          refine lv_if_ne (tgt := 35) hx hb dM_read_29 (by decide) (fun c_29 => ?_) (fun c_29 => ?_)
          · have c_29 := kmt (bI_e _).mpr c_29
            have c_29 := bT c_29
            rw [rOf_step (by omega), if_pos c_29] at hres
            have hcs : cntB (isR np sb rp rl) (k + 1) = cntB (isR np sb rp rl) k + 1 := by rw [cntB, if_pos c_29]
            by_cases hjk : cntB (isR np sb rp rl) k = j
            · rw [if_pos (by rw [hjk])] at hres
              refine lv_iinc (v := -1) (lv' := [(3, .int ((-1))), (4, .int (nI k)), (0, .ref g), (2, .int x)]) hx hb dM_read_35 hl (k := 1) rfl (by rw [show j - cntB (isR np sb rp rl) k = 0 by omega]; rfl) (by decide) rfl (fun ls hl => ?_)
              have hkr : k = r := (nI_eq (by omega) (by omega)).mp (hres.trans hN)
              subst hkr
              have hmr := hrw
              refine lv_iload_n hx hb dM_read_38 rfl (lv_at hl 0 rfl) ?_
              refine lv_if_lt (tgt := 45) hx hb dM_read_39 (by decide) (fun c_39 => ?_) (fun c_39 => ?_)
              · refine lv_iload_n hx hb dM_read_45 rfl (lv_at hl 3 rfl) ?_
                rcases kx_sw x 4 with hsw | ⟨q, hq, rfl⟩
                · refine lv_tableOut (tgt := 108) hx hb dM_read_46 (by omega) (by decide) ?_
                  refine lv_iload_n hx hb dM_read_108 rfl (lv_at hl 3 rfl) ?_
                  refine lv_iconst (v := nI 3) hx hb dM_read_109 (by decide) ?_
                  refine lv_icmp_le (tgt := 145) hx hb dM_read_110 (by decide) (fun c_110 => ?_) (fun c_110 => ?_)
                  · have c_110 := (kx_le (by omega)).mp c_110
                    refine lv_iconst (v := (-1)) hx hb dM_read_145 (by decide) ?_
                    refine kv_top (show _ = rdM ms mi ml mf mb my k x from (rdM_no (by omega) (by omega)).symm) ?_
                    exact hret _ _ _ _ hP hD hS dM_read_146
                  · have c_110 := kmt (kx_le (by omega)).mpr c_110
                    obtain ⟨q, hq, rfl⟩ := kx_of (x := x) (by omega)
                    rw [nI_toInt hq] at hsw c_110
                    rw [rdM_q (by omega)] at hret
                    refine lv_iload_n hx hb dM_read_113 rfl (lv_at hl 3 rfl) ?_
                    refine lv_iconst (v := nI 4) hx hb dM_read_114 (by decide) ?_
                    refine lv_isub hx hb dM_read_115 ?_
                    refine kv_top (show _ = nI (q - 4) from pk_sub (by omega)) ?_
                    refine lv_aload_n hx hb dM_read_116 rfl (lv_at hl 2 rfl) ?_
                    refine va_get (D := (dC, dI)) (ci := 1) (v := .ref m4) (C := RX1) (T := TX1) (N := 19) hx hb hts hin1 hown hK hP 0 rfl rfl 7 (by decide) lkf19 (fun _ h9 => h9) rfl dM_read_117 ?_
                    refine lv_iload hx hb dM_read_120 (lv_at hl 1 rfl) ?_
                    refine ka_ialdN hx hb hK hP 4 0 rfl rfl (k := k) (by omega) (by decide) dM_read_122 ?_
                    refine lv_icmp_ge (tgt := 145) hx hb dM_read_123 (by decide) (fun c_123 => ?_) (fun c_123 => ?_)
                    · have c_123 := (nI_leI (by omega) (by omega)).mp c_123
                      refine lv_iconst (v := (-1)) hx hb dM_read_145 (by decide) ?_
                      refine kv_top (show _ = if q - 4 < ml k then nI (my (mb k + (q - 4))) else -1 from (by rw [if_neg (by omega)])) ?_
                      exact hret _ _ _ _ hP hD hS dM_read_146
                    · have c_123 := kmt (nI_leI (by omega) (by omega)).mpr c_123
                      refine lv_aload_n hx hb dM_read_126 rfl (lv_at hl 2 rfl) ?_
                      refine va_get (D := (dC, dI)) (ci := 1) (v := .ref m8) (C := RX1) (T := TX1) (N := 19) hx hb hts hin1 hown hK hP 0 rfl rfl 11 (by decide) lkf31 (fun _ h9 => h9) rfl dM_read_127 ?_
                      refine lv_aload_n hx hb dM_read_130 rfl (lv_at hl 2 rfl) ?_
                      refine va_get (D := (dC, dI)) (ci := 1) (v := .ref m5) (C := RX1) (T := TX1) (N := 19) hx hb hts hin1 hown hK hP 0 rfl rfl 8 (by decide) lkf22 (fun _ h9 => h9) rfl dM_read_131 ?_
                      refine lv_iload hx hb dM_read_134 (lv_at hl 1 rfl) ?_
                      refine ka_ialdN hx hb hK hP 5 0 rfl rfl (k := k) (by omega) (by decide) dM_read_136 ?_
                      refine lv_iload_n hx hb dM_read_137 rfl (lv_at hl 3 rfl) ?_
                      refine lv_iadd hx hb dM_read_138 ?_
                      refine kv_top (show _ = nI ((mb k) + q) from nI_add _ _) ?_
                      refine lv_iconst (v := nI 4) hx hb dM_read_139 (by decide) ?_
                      refine lv_isub hx hb dM_read_140 ?_
                      refine kv_top (show _ = nI (((mb k) + q) - 4) from pk_sub (by omega)) ?_
                      refine ka_ialdN hx hb hK hP 8 0 rfl rfl (k := ((mb k) + q) - 4) (by omega) (by decide) dM_read_141 ?_
                      refine lv_goto (tgt := 146) hx hb dM_read_142 (by decide) ?_
                      refine kv_top (show _ = if q - 4 < ml k then nI (my (mb k + (q - 4))) else -1 from (by rw [if_pos (by omega), show mb k + q - 4 = mb k + (q - 4) by omega])) ?_
                      exact hret _ _ _ _ hP hD hS dM_read_146
                · have hj7 : q = 0 ∨ q = 1 ∨ q = 2 ∨ q = 3 := by omega
                  rcases hj7 with rfl | rfl | rfl | rfl
                  · refine lv_tableIn (tgt := 76) (off := 30) hx hb dM_read_46 (by decide) (by decide) (by decide) (by decide) ?_
                    refine lv_aload_n hx hb dM_read_76 rfl (lv_at hl 2 rfl) ?_
                    refine va_get (D := (dC, dI)) (ci := 1) (v := .ref m2) (C := RX1) (T := TX1) (N := 19) hx hb hts hin1 hown hK hP 0 rfl rfl 5 (by decide) lkf13 (fun _ h9 => h9) rfl dM_read_77 ?_
                    refine lv_iload hx hb dM_read_80 (lv_at hl 1 rfl) ?_
                    refine ka_ialdN hx hb hK hP 2 0 rfl rfl (k := k) (by omega) (by decide) dM_read_82 ?_
                    refine kv_top (show _ = rdM ms mi ml mf mb my k (nI 0) from rfl) ?_
                    exact hret _ _ _ _ hP hD hS dM_read_83
                  · refine lv_tableIn (tgt := 84) (off := 38) hx hb dM_read_46 (by decide) (by decide) (by decide) (by decide) ?_
                    refine lv_aload_n hx hb dM_read_84 rfl (lv_at hl 2 rfl) ?_
                    refine va_get (D := (dC, dI)) (ci := 1) (v := .ref m3) (C := RX1) (T := TX1) (N := 19) hx hb hts hin1 hown hK hP 0 rfl rfl 6 (by decide) lkf16 (fun _ h9 => h9) rfl dM_read_85 ?_
                    refine lv_iload hx hb dM_read_88 (lv_at hl 1 rfl) ?_
                    refine ka_ialdN hx hb hK hP 3 0 rfl rfl (k := k) (by omega) (by decide) dM_read_90 ?_
                    refine kv_top (show _ = rdM ms mi ml mf mb my k (nI 1) from rfl) ?_
                    exact hret _ _ _ _ hP hD hS dM_read_91
                  · refine lv_tableIn (tgt := 92) (off := 46) hx hb dM_read_46 (by decide) (by decide) (by decide) (by decide) ?_
                    refine lv_aload_n hx hb dM_read_92 rfl (lv_at hl 2 rfl) ?_
                    refine va_get (D := (dC, dI)) (ci := 1) (v := .ref m4) (C := RX1) (T := TX1) (N := 19) hx hb hts hin1 hown hK hP 0 rfl rfl 7 (by decide) lkf19 (fun _ h9 => h9) rfl dM_read_93 ?_
                    refine lv_iload hx hb dM_read_96 (lv_at hl 1 rfl) ?_
                    refine ka_ialdN hx hb hK hP 4 0 rfl rfl (k := k) (by omega) (by decide) dM_read_98 ?_
                    refine kv_top (show _ = rdM ms mi ml mf mb my k (nI 2) from rfl) ?_
                    exact hret _ _ _ _ hP hD hS dM_read_99
                  · refine lv_tableIn (tgt := 100) (off := 54) hx hb dM_read_46 (by decide) (by decide) (by decide) (by decide) ?_
                    refine lv_aload_n hx hb dM_read_100 rfl (lv_at hl 2 rfl) ?_
                    refine va_get (D := (dC, dI)) (ci := 1) (v := .ref m6) (C := RX1) (T := TX1) (N := 19) hx hb hts hin1 hown hK hP 0 rfl rfl 9 (by decide) lkf25 (fun _ h9 => h9) rfl dM_read_101 ?_
                    refine lv_iload hx hb dM_read_104 (lv_at hl 1 rfl) ?_
                    refine ka_ialdN hx hb hK hP 6 0 rfl rfl (k := k) (by omega) (by decide) dM_read_106 ?_
                    refine kv_top (show _ = rdM ms mi ml mf mb my k (nI 3) from rfl) ?_
                    exact hret _ _ _ _ hP hD hS dM_read_107
              · exact absurd (by decide) c_39
            · rw [if_neg (fun h9 => hjk ((nI_eq (by omega) (by omega)).mp h9)), ← hcs] at hres
              refine lv_iinc (v := nI (j - cntB (isR np sb rp rl) (k + 1))) (lv' := [(3, .int (nI (j - cntB (isR np sb rp rl) (k + 1)))), (4, .int (nI k)), (0, .ref g), (2, .int x)]) hx hb dM_read_35 hl (k := 1) rfl (by rw [hcs, show j - cntB (isR np sb rp rl) k = (j - (cntB (isR np sb rp rl) k + 1)) + 1 by omega]; exact pk_m1 _) (by decide) rfl (fun ls hl => ?_)
              have hcj : cntB (isR np sb rp rl) (k + 1) ≤ j := by omega
              refine lv_iload_n hx hb dM_read_38 rfl (lv_at hl 0 rfl) ?_
              refine lv_if_lt (tgt := 45) hx hb dM_read_39 (by decide) (fun c_39 => ?_) (fun c_39 => ?_)
              · have c_39 := (kn_lt0 (by omega)).mp c_39
                exfalso; omega
              · have c_39 := kmt (kn_lt0 (by omega)).mpr c_39
                refine lv_goto (tgt := 147) hx hb dM_read_42 (by decide) ?_
                refine lv_iinc (v := nI (k + 1)) (lv' := [(4, .int (nI (k + 1))), (3, .int (nI (j - cntB (isR np sb rp rl) (k + 1)))), (0, .ref g), (2, .int x)]) hx hb dM_read_147 hl (k := 1) rfl (ki_inc _) (by decide) rfl (fun ls hl => ?_)
                refine lv_goto (tgt := 10) hx hb dM_read_150 (by decide) ?_
                have hP : va_P (dC, dI) vwCl (wM g m1 m2 m3 m4 m5 m6 m7 m8 m9 m10 m11 m12 m13 ci mt tl rc kp ms mi ml mb mf mo my (np / 56) (np % 56) md mu fi sp sq) H := hP
                have hD : va_D A (wM g m1 m2 m3 m4 m5 m6 m7 m8 m9 m10 m11 m12 m13 ci mt tl rc kp ms mi ml mb mf mo my (np / 56) (np % 56) md mu fi sp sq) := hD
                exact ih (k + 1) (by omega) (by omega) (hres) (hcj) _ _ _ hP hD hS (lv_sub hl [0, 1, 2, 3] rfl)
          · have c_29 := (bI_e _).mp c_29
            rw [rOf_step (by omega), if_neg (by rw [c_29]; decide)] at hres
            rw [show cntB (isR np sb rp rl) k = cntB (isR np sb rp rl) (k + 1) from (by rw [cntB, if_neg (by rw [c_29]; decide)])] at hl hres hcj
            refine lv_goto (tgt := 147) hx hb dM_read_32 (by decide) ?_
            refine lv_iinc (v := nI (k + 1)) (lv' := [(4, .int (nI (k + 1))), (3, .int (nI (j - cntB (isR np sb rp rl) (k + 1)))), (0, .ref g), (2, .int x)]) hx hb dM_read_147 hl (k := 0) rfl (ki_inc _) (by decide) rfl (fun ls hl => ?_)
            refine lv_goto (tgt := 10) hx hb dM_read_150 (by decide) ?_
            have hP : va_P (dC, dI) vwCl (wM g m1 m2 m3 m4 m5 m6 m7 m8 m9 m10 m11 m12 m13 ci mt tl rc kp ms mi ml mb mf mo my (np / 56) (np % 56) md mu fi sp sq) H := hP
            have hD : va_D A (wM g m1 m2 m3 m4 m5 m6 m7 m8 m9 m10 m11 m12 m13 ci mt tl rc kp ms mi ml mb mf mo my (np / 56) (np % 56) md mu fi sp sq) := hD
            exact ih (k + 1) (by omega) (by omega) (hres) (hcj) _ _ _ hP hD hS (lv_sub hl [0, 1, 2, 3] rfl)
  have hP : va_P (dC, dI) vwCl (wM g m1 m2 m3 m4 m5 m6 m7 m8 m9 m10 m11 m12 m13 ci mt tl rc kp ms mi ml mb mf mo my (np / 56) (np % 56) md mu fi sp sq) H := hP
  have hD : va_D A (wM g m1 m2 m3 m4 m5 m6 m7 m8 m9 m10 m11 m12 m13 ci mt tl rc kp ms mi ml mb mf mo my (np / 56) (np % 56) md mu fi sp sq) := hD
  exact hloopk (rc + 1) 0 (by omega) (by omega) (rfl) (Nat.zero_le _) _ _ _ hP hD hS (lv_sub hl [0, 1, 2, 4] rfl)
set_option maxHeartbeats 4000000 in
set_option maxRecDepth 100000 in
theorem r_readL (l : Launch) (dC : Nat → ClassId) (dI : Nat → Nat → Nat) (g m1 m2 m3 m4 m5 m6 m7 m8 m9 m10 m11 m12 m13 : Nat) (ci : ClassId) (mt : Nat → Nat) (tl rc kp : Nat) (ms mi ml mb mf mo my : Nat → Nat) (np : Nat) (md mu fi : Nat → Nat) (sp : Nat → Int32) (sq : Nat → Nat) (sz : Nat) (i : Int32) (x : Int32) (hrc : rc ≤ 200) (hi : i.toInt < 0) : Met l yM_read wsM_read ({ frames := 3, cells := 0, slots := 0, locals := 64 }) (kPre (dC, dI) vwCl (wM g m1 m2 m3 m4 m5 m6 m7 m8 m9 m10 m11 m12 m13 ci mt tl rc kp ms mi ml mb mf mo my (np / 56) (np % 56) md mu fi sp sq) (tM ci) sz [.ref g, .int i, .int x]) (kQi (dC, dI) vwCl (wM g m1 m2 m3 m4 m5 m6 m7 m8 m9 m10 m11 m12 m13 ci mt tl rc kp ms mi ml mb mf mo my (np / 56) (np % 56) md mu fi sp sq) (tM ci) sz ((-1)) (wM g m1 m2 m3 m4 m5 m6 m7 m8 m9 m10 m11 m12 m13 ci mt tl rc kp ms mi ml mb mf mo my (np / 56) (np % 56) md mu fi sp sq)) 0 0 (va_A (wM g m1 m2 m3 m4 m5 m6 m7 m8 m9 m10 m11 m12 m13 ci mt tl rc kp ms mi ml mb mf mo my (np / 56) (np % 56) md mu fi sp sq) sz) := by
  refine kM_i (cc := cM_read) (maxL := 5) (by decide) rfl (Nat.le_of_ble_eq_true rfl) ?_
  intro p e s m below meth c A Q ls H locs S hP hK hD hS hA hl hret
  obtain ⟨hx, hb, hml, hown, hts⟩ := id S
  have hin1 : ∀ w ∈ u_ws RX1 TX1 19, w ∈ wsM_read := fun _ h => List.mem_cons_of_mem _ (List.mem_append_right _ h)
  have lkf49 := hts (.fieldLink RX1 49 "BlockTapeModel" "thrown" "I") (by decide +kernel)
  have lkf66 := hts (.fieldLink RX1 66 "BlockTapeModel" "records" "I") (by decide +kernel)
  have hl : lv_has ls 5 [(0, .ref g), (1, .int i), (2, .int x)] := hl
  refine lv_aload_n hx hb dM_read_0 rfl (lv_at hl 0 rfl) ?_
  refine lv_iconst (v := nI 0) hx hb dM_read_1 (by decide) ?_
  refine va_put (D := (dC, dI)) (ci := 1) (v := .int (nI 0)) (ty := .int) (C := RX1) (T := TX1) (N := 19) hx hb hts hin1 tyX1 tyX1_ok nmX1 hown hK hP hD hS 0 rfl rfl 0 (by decide) lkf49 (fun _ h9 => h9) rfl (by decide +kernel) rfl rfl (Nat.le_of_ble_eq_true rfl) dM_read_2 (fun H locs hP hD hS => ?_)
  have hP : va_P (dC, dI) vwCl (wM g m1 m2 m3 m4 m5 m6 m7 m8 m9 m10 m11 m12 m13 ci mt tl rc kp ms mi ml mb mf mo my (np / 56) (np % 56) md mu fi sp sq) H := hP
  have hD : va_D A (wM g m1 m2 m3 m4 m5 m6 m7 m8 m9 m10 m11 m12 m13 ci mt tl rc kp ms mi ml mb mf mo my (np / 56) (np % 56) md mu fi sp sq) := hD
  refine lv_iload_n hx hb dM_read_5 rfl (lv_at hl 1 rfl) ?_
  refine lv_istore_n (lv' := [(3, .int i), (0, .ref g), (1, .int i), (2, .int x)]) hx hb dM_read_6 rfl hl (by decide) rfl (fun ls hl => ?_)
  refine lv_iconst (v := nI 0) hx hb dM_read_7 (by decide) ?_
  refine lv_istore (lv' := [(4, .int (nI 0)), (3, .int i), (0, .ref g), (1, .int i), (2, .int x)]) hx hb dM_read_8 hl (by decide) rfl (fun ls hl => ?_)
  have hloopk : ∀ (n k : Nat), k ≤ 0 → 0 + 1 ≤ k + n → ∀ (H : Heap) (locs : List Loc) (ls : Array Slot), va_P (dC, dI) vwCl (wM g m1 m2 m3 m4 m5 m6 m7 m8 m9 m10 m11 m12 m13 ci mt tl rc kp ms mi ml mb mf mo my (np / 56) (np % 56) md mu fi sp sq) H → va_D A (wM g m1 m2 m3 m4 m5 m6 m7 m8 m9 m10 m11 m12 m13 ci mt tl rc kp ms mi ml mb mf mo my (np / 56) (np % 56) md mu fi sp sq) → va_S A s.heap H locs → lv_has ls 5 [(4, .int (nI k)), (3, .int i), (0, .ref g), (2, .int x)] → W p l e ({ frames := 3, cells := 0, slots := 0, locals := 64 }) s m ([.ref g, .int i, .int x] : List Value).toArray below meth c H locs 0 0 Q (F0 m 10 ls []) := by
    intro n
    induction n with
    | zero => intro k h1 h2; exact absurd h2 (by omega)
    | succ n ih =>
      intro k hkA hkB H locs ls hP hD hS hl
      refine lv_iload hx hb dM_read_10 (lv_at hl 0 rfl) ?_
      refine lv_aload_n hx hb dM_read_12 rfl (lv_at hl 2 rfl) ?_
      refine va_get (D := (dC, dI)) (ci := 1) (v := .int (nI rc)) (C := RX1) (T := TX1) (N := 19) hx hb hts hin1 hown hK hP 0 rfl rfl 3 (by decide) lkf66 (fun _ h9 => h9) rfl dM_read_13 ?_
      refine lv_icmp_ge (tgt := 153) hx hb dM_read_16 (by decide) (fun c_16 => ?_) (fun c_16 => ?_)
      · have c_16 := (nI_leI (by omega) (by omega)).mp c_16
        refine lv_iconst (v := (-1)) hx hb dM_read_153 (by decide) ?_
        exact hret _ _ _ _ hP hD hS dM_read_154
      · have c_16 := kmt (nI_leI (by omega) (by omega)).mpr c_16
        refine lv_iload_n hx hb dM_read_19 rfl (lv_at hl 1 rfl) ?_
        refine lv_if_lt (tgt := 153) hx hb dM_read_20 (by decide) (fun c_20 => ?_) (fun c_20 => ?_)
        · have c_20 := (kx_lt0).mp c_20
          refine lv_iconst (v := (-1)) hx hb dM_read_153 (by decide) ?_
          exact hret _ _ _ _ hP hD hS dM_read_154
        · have c_20 := kmt (kx_lt0).mpr c_20
          exfalso; omega
  have hP : va_P (dC, dI) vwCl (wM g m1 m2 m3 m4 m5 m6 m7 m8 m9 m10 m11 m12 m13 ci mt tl rc kp ms mi ml mb mf mo my (np / 56) (np % 56) md mu fi sp sq) H := hP
  have hD : va_D A (wM g m1 m2 m3 m4 m5 m6 m7 m8 m9 m10 m11 m12 m13 ci mt tl rc kp ms mi ml mb mf mo my (np / 56) (np % 56) md mu fi sp sq) := hD
  exact hloopk (0 + 1) 0 (by omega) (by omega) _ _ _ hP hD hS (lv_sub hl [0, 1, 2, 4] rfl)
