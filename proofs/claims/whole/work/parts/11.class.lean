set_option maxHeartbeats 4000000 in
set_option maxRecDepth 100000 in
theorem c_good (l : Launch) (dC : Nat → ClassId) (dI : Nat → Nat → Nat) (h a1 a2 a3 a4 a5 a6 : Nat) (cb ci : ClassId) (tp : Nat → Int32) (tl : Nat) (vo : Nat → Int32) (np : Nat) (rp rl : Nat → Nat) (rc : Nat) (sb sa : Nat → Nat) (sz : Nat) (x : Int32) (hnp : np ≤ 4480) (hsb : ∀ b, b < 80 → sb b < 256) : Met l yX0_good wsX0_good ({ frames := 2, cells := 0, slots := 0, locals := 41 }) (kPre (dC, dI) vwCl (wB h a1 a2 a3 a4 a5 a6 cb ci tp tl vo np rp rl rc sb sa) (tB cb ci) sz [.ref h, .int x]) (kQi (dC, dI) vwCl (wB h a1 a2 a3 a4 a5 a6 cb ci tp tl vo np rp rl rc sb sa) (tB cb ci) sz (bI (goodX np sb x)) (wB h a1 a2 a3 a4 a5 a6 cb ci tp tl vo np rp rl rc sb sa)) 0 0 (va_A (wB h a1 a2 a3 a4 a5 a6 cb ci tp tl vo np rp rl rc sb sa) sz) := by
  refine kM_z (cc := cX0_good) (maxL := 2) (by decide) rfl (Nat.le_of_ble_eq_true rfl) (bI_n _) ?_
  intro p e s m below meth c A Q ls H locs S hP hK hD hS hA hl hret
  obtain ⟨hx, hb, hml, hown, hts⟩ := id S
  have hin0 : ∀ w ∈ u_ws RX0 TX0 9, w ∈ wsX0_good := fun _ h => List.mem_cons_of_mem _ (List.mem_append_right _ h)
  have lkf23 := hts (.fieldLink RX0 23 "BlockTape" "spoiltBy" "[I") (by decide +kernel)
  have hl : lv_has ls 2 [(0, .ref h), (1, .int x)] := hl
  refine lv_aload_n hx hb dX0_good_0 rfl (lv_at hl 0 rfl) ?_
  refine lv_iload_n hx hb dX0_good_1 rfl (lv_at hl 1 rfl) ?_
  refine kc_vi (WR := []) (As := [.int x]) (rest := []) ⟨hx, hb, hml, hown, hts⟩ (c_isWritten l dC dI h a1 a2 a3 a4 a5 a6 cb ci tp tl vo np rp rl rc sb sa H.size x (by omega)) (cwV 1 hts gX0_good_X0_isWritten rfl rfl rfl (by decide +kernel) ⟨Nat.le_of_ble_eq_true rfl, Nat.le_of_ble_eq_true rfl⟩) hK hP hD hS hA [0, 1, 2, 3, 4, 5, 6] [] [0, 1] rfl rfl (by decide) (by decide) (by decide) rfl 0 0 rfl rfl rfl rfl hl.1 rfl (Nat.le_of_ble_eq_true rfl) dX0_good_2 ⟨Nat.zero_le _, Nat.zero_le _⟩ (fun H locs hP hD hS => ?_)
  have hP : va_P (dC, dI) vwCl (wB h a1 a2 a3 a4 a5 a6 cb ci tp tl vo np rp rl rc sb sa) H := hP
  have hD : va_D A (wB h a1 a2 a3 a4 a5 a6 cb ci tp tl vo np rp rl rc sb sa) := hD
  refine lv_if_eq (tgt := 21) hx hb dX0_good_5 (by decide) (fun c_5 => ?_) (fun c_5 => ?_)
  · have c_5 := (bI_e _).mp c_5
    refine lv_iconst (v := nI 0) hx hb dX0_good_21 (by decide) ?_
    refine kv_top (show _ = bI (goodX np sb x) from (bI_f (goodX_f c_5))) ?_
    exact hret _ _ _ _ hP hD hS dX0_good_22
  · have c_5 := kmt (bI_e _).mpr c_5
    have c_5 := bT c_5
    obtain ⟨j, hj, rfl⟩ := isW_of c_5
    have hsj := hsb j (by omega)
    refine lv_aload_n hx hb dX0_good_8 rfl (lv_at hl 0 rfl) ?_
    refine va_get (D := (dC, dI)) (ci := 0) (v := .ref a5) (C := RX0) (T := TX0) (N := 9) hx hb hts hin0 hown hK hP 0 rfl rfl 7 (by decide) lkf23 (fun _ h9 => h9) rfl dX0_good_9 ?_
    refine lv_iload_n hx hb dX0_good_12 rfl (lv_at hl 1 rfl) ?_
    refine ka_ialdN hx hb hK hP 5 1 rfl rfl (k := j) (by omega) (by decide) dX0_good_13 ?_
    refine lv_if_ne (tgt := 21) hx hb dX0_good_14 (by decide) (fun c_14 => ?_) (fun c_14 => ?_)
    · have c_14 := kmt (kn_eq0 (by omega)).mpr c_14
      refine lv_iconst (v := nI 0) hx hb dX0_good_21 (by decide) ?_
      refine kv_top (show _ = bI (goodX np sb (nI j)) from (bI_f (by rw [goodX_n (by omega)]; simp [gd]; omega))) ?_
      exact hret _ _ _ _ hP hD hS dX0_good_22
    · have c_14 := (kn_eq0 (by omega)).mp c_14
      refine lv_iconst (v := nI 1) hx hb dX0_good_17 (by decide) ?_
      refine lv_goto (tgt := 22) hx hb dX0_good_18 (by decide) ?_
      refine kv_top (show _ = bI (goodX np sb (nI j)) from (bI_t (by rw [goodX_n (by omega)]; simp [gd]; omega))) ?_
      exact hret _ _ _ _ hP hD hS dX0_good_22
set_option maxHeartbeats 4000000 in
set_option maxRecDepth 100000 in
theorem c_isRead (l : Launch) (dC : Nat → ClassId) (dI : Nat → Nat → Nat) (h a1 a2 a3 a4 a5 a6 : Nat) (cb ci : ClassId) (tp : Nat → Int32) (tl : Nat) (vo : Nat → Int32) (np : Nat) (rp rl : Nat → Nat) (rc : Nat) (sb sa : Nat → Nat) (sz : Nat) (r : Nat) (hnp : np ≤ 4480) (hsb : ∀ b, b < 80 → sb b < 256) (hr : r < 200) (hrow : rp r + rl r ≤ 4480 ∧ 6 ≤ rl r) : Met l yX0_isRead wsX0_isRead ({ frames := 3, cells := 0, slots := 0, locals := 62 }) (kPre (dC, dI) vwCl (wB h a1 a2 a3 a4 a5 a6 cb ci tp tl vo np rp rl rc sb sa) (tB cb ci) sz [.ref h, .int (nI r)]) (kQi (dC, dI) vwCl (wB h a1 a2 a3 a4 a5 a6 cb ci tp tl vo np rp rl rc sb sa) (tB cb ci) sz (bI (isR np sb rp rl r)) (wB h a1 a2 a3 a4 a5 a6 cb ci tp tl vo np rp rl rc sb sa)) 0 0 (va_A (wB h a1 a2 a3 a4 a5 a6 cb ci tp tl vo np rp rl rc sb sa) sz) := by
  refine kM_z (cc := cX0_isRead) (maxL := 4) (by decide) rfl (Nat.le_of_ble_eq_true rfl) (bI_n _) ?_
  intro p e s m below meth c A Q ls H locs S hP hK hD hS hA hl hret
  obtain ⟨hx, hb, hml, hown, hts⟩ := id S
  have hin0 : ∀ w ∈ u_ws RX0 TX0 9, w ∈ wsX0_isRead := fun _ h => List.mem_cons_of_mem _ (List.mem_append_right _ h)
  have lkf16 := hts (.fieldLink RX0 16 "BlockTape" "rowPlace" "[I") (by decide +kernel)
  have lkf20 := hts (.fieldLink RX0 20 "BlockTape" "rowLength" "[I") (by decide +kernel)
  have hl : lv_has ls 4 [(0, .ref h), (1, .int (nI r))] := hl
  refine lv_aload_n hx hb dX0_isRead_0 rfl (lv_at hl 0 rfl) ?_
  refine va_get (D := (dC, dI)) (ci := 0) (v := .ref a3) (C := RX0) (T := TX0) (N := 9) hx hb hts hin0 hown hK hP 0 rfl rfl 4 (by decide) lkf16 (fun _ h9 => h9) rfl dX0_isRead_1 ?_
  refine lv_iload_n hx hb dX0_isRead_4 rfl (lv_at hl 1 rfl) ?_
  refine ka_ialdN hx hb hK hP 3 1 rfl rfl (k := r) (by omega) (by decide) dX0_isRead_5 ?_
  refine lv_aload_n hx hb dX0_isRead_6 rfl (lv_at hl 0 rfl) ?_
  refine va_get (D := (dC, dI)) (ci := 0) (v := .ref a4) (C := RX0) (T := TX0) (N := 9) hx hb hts hin0 hown hK hP 0 rfl rfl 5 (by decide) lkf20 (fun _ h9 => h9) rfl dX0_isRead_7 ?_
  refine lv_iload_n hx hb dX0_isRead_10 rfl (lv_at hl 1 rfl) ?_
  refine ka_ialdN hx hb hK hP 4 1 rfl rfl (k := r) (by omega) (by decide) dX0_isRead_11 ?_
  refine lv_iadd hx hb dX0_isRead_12 ?_
  refine kv_top (show _ = nI ((rp r) + (rl r)) from nI_add _ _) ?_
  refine lv_iconst (v := nI 1) hx hb dX0_isRead_13 (by decide) ?_
  refine lv_isub hx hb dX0_isRead_14 ?_
  refine kv_top (show _ = nI (((rp r) + (rl r)) - 1) from pk_sub (by omega)) ?_
  refine lv_bipush (v := nI 56) hx hb dX0_isRead_15 (by decide) ?_
  refine lv_idiv hx hb dX0_isRead_17 (by decide) ?_
  refine kv_top (show _ = nI ((((rp r) + (rl r)) - 1) / 56) from pk_div (by omega) (by omega) (by omega)) ?_
  refine lv_istore_n (lv' := [(2, .int (nI ((((rp r) + (rl r)) - 1) / 56))), (0, .ref h), (1, .int (nI r))]) hx hb dX0_isRead_18 rfl hl (by decide) rfl (fun ls hl => ?_)
  refine lv_aload_n hx hb dX0_isRead_19 rfl (lv_at hl 1 rfl) ?_
  refine va_get (D := (dC, dI)) (ci := 0) (v := .ref a3) (C := RX0) (T := TX0) (N := 9) hx hb hts hin0 hown hK hP 0 rfl rfl 4 (by decide) lkf16 (fun _ h9 => h9) rfl dX0_isRead_20 ?_
  refine lv_iload_n hx hb dX0_isRead_23 rfl (lv_at hl 2 rfl) ?_
  refine ka_ialdN hx hb hK hP 3 1 rfl rfl (k := r) (by omega) (by decide) dX0_isRead_24 ?_
  refine lv_bipush (v := nI 56) hx hb dX0_isRead_25 (by decide) ?_
  refine lv_idiv hx hb dX0_isRead_27 (by decide) ?_
  refine kv_top (show _ = nI ((rp r) / 56) from pk_div (by omega) (by omega) (by omega)) ?_
  refine lv_istore_n (lv' := [(3, .int (nI ((rp r) / 56))), (2, .int (nI ((((rp r) + (rl r)) - 1) / 56))), (0, .ref h), (1, .int (nI r))]) hx hb dX0_isRead_28 rfl hl (by decide) rfl (fun ls hl => ?_)
  have hloopk : ∀ (n k : Nat), k ≤ (((rp r) + (rl r)) - 1) / 56 + 1 → (((rp r) + (rl r)) - 1) / 56 + 1 + 1 ≤ k + n → (allG np sb ((((rp r) + (rl r)) - 1) / 56 + 1 - k) k = isR np sb rp rl r) → ∀ (H : Heap) (locs : List Loc) (ls : Array Slot), va_P (dC, dI) vwCl (wB h a1 a2 a3 a4 a5 a6 cb ci tp tl vo np rp rl rc sb sa) H → va_D A (wB h a1 a2 a3 a4 a5 a6 cb ci tp tl vo np rp rl rc sb sa) → va_S A s.heap H locs → lv_has ls 4 [(3, .int (nI k)), (2, .int (nI ((((rp r) + (rl r)) - 1) / 56))), (0, .ref h)] → W p l e ({ frames := 3, cells := 0, slots := 0, locals := 62 }) s m ([.ref h, .int (nI r)] : List Value).toArray below meth c H locs 0 0 Q (F0 m 29 ls []) := by
    intro n
    induction n with
    | zero => intro k h1 h2; exact absurd h2 (by omega)
    | succ n ih =>
      intro k hkA hkB hres H locs ls hP hD hS hl
      refine lv_iload_n hx hb dX0_isRead_29 rfl (lv_at hl 0 rfl) ?_
      refine lv_iload_n hx hb dX0_isRead_30 rfl (lv_at hl 1 rfl) ?_
      refine lv_icmp_gt (tgt := 50) hx hb dX0_isRead_31 (by decide) (fun c_31 => ?_) (fun c_31 => ?_)
      · have c_31 := (nI_ltI (by omega) (by omega)).mp c_31
        refine lv_iconst (v := nI 1) hx hb dX0_isRead_50 (by decide) ?_
        refine kv_top (show _ = bI (isR np sb rp rl r) from (bI_t (by rw [← hres, show (((rp r) + (rl r)) - 1) / 56 + 1 - k = 0 by omega]; rfl))) ?_
        exact hret _ _ _ _ hP hD hS dX0_isRead_51
      · have c_31 := kmt (nI_ltI (by omega) (by omega)).mpr c_31
        refine lv_aload_n hx hb dX0_isRead_34 rfl (lv_at hl 2 rfl) ?_
        refine lv_iload_n hx hb dX0_isRead_35 rfl (lv_at hl 0 rfl) ?_
        refine kc_vi (WR := []) (As := [.int (nI k)]) (rest := []) ⟨hx, hb, hml, hown, hts⟩ (c_good l dC dI h a1 a2 a3 a4 a5 a6 cb ci tp tl vo np rp rl rc sb sa H.size (nI k) (by omega) hsb) (cwV 1 hts gX0_isRead_X0_good rfl rfl rfl (by decide +kernel) ⟨Nat.le_of_ble_eq_true rfl, Nat.le_of_ble_eq_true rfl⟩) hK hP hD hS hA [0, 1, 2, 3, 4, 5, 6] [] [0, 1] rfl rfl (by decide) (by decide) (by decide) rfl 0 0 rfl rfl rfl rfl hl.1 rfl (Nat.le_of_ble_eq_true rfl) dX0_isRead_36 ⟨Nat.zero_le _, Nat.zero_le _⟩ (fun H locs hP hD hS => ?_)
        have hP : va_P (dC, dI) vwCl (wB h a1 a2 a3 a4 a5 a6 cb ci tp tl vo np rp rl rc sb sa) H := hP
        have hD : va_D A (wB h a1 a2 a3 a4 a5 a6 cb ci tp tl vo np rp rl rc sb sa) := hD
        refine kv_top (show _ = bI (gd np sb k) from by rw [goodX_n (by omega)]) ?_
        refine lv_if_ne (tgt := 44) hx hb dX0_isRead_39 (by decide) (fun c_39 => ?_) (fun c_39 => ?_)
        · have c_39 := kmt (bI_e _).mpr c_39
          have c_39 := bT c_39
          refine lv_iinc (v := nI (k + 1)) (lv' := [(3, .int (nI (k + 1))), (2, .int (nI ((((rp r) + (rl r)) - 1) / 56))), (0, .ref h)]) hx hb dX0_isRead_44 hl (k := 0) rfl (ki_inc _) (by decide) rfl (fun ls hl => ?_)
          refine lv_goto (tgt := 29) hx hb dX0_isRead_47 (by decide) ?_
          have hP : va_P (dC, dI) vwCl (wB h a1 a2 a3 a4 a5 a6 cb ci tp tl vo np rp rl rc sb sa) H := hP
          have hD : va_D A (wB h a1 a2 a3 a4 a5 a6 cb ci tp tl vo np rp rl rc sb sa) := hD
          exact ih (k + 1) (by omega) (by omega) (by rw [← hres, allG_step (T := (((rp r) + (rl r)) - 1) / 56 + 1) (k := k) (by omega), c_39]; rfl) _ _ _ hP hD hS (lv_sub hl [0, 1, 2] rfl)
        · have c_39 := (bI_e _).mp c_39
          refine lv_iconst (v := nI 0) hx hb dX0_isRead_42 (by decide) ?_
          refine kv_top (show _ = bI (isR np sb rp rl r) from (bI_f (by rw [← hres, allG_step (T := (((rp r) + (rl r)) - 1) / 56 + 1) (k := k) (by omega), c_39]; rfl))) ?_
          exact hret _ _ _ _ hP hD hS dX0_isRead_43
  have hP : va_P (dC, dI) vwCl (wB h a1 a2 a3 a4 a5 a6 cb ci tp tl vo np rp rl rc sb sa) H := hP
  have hD : va_D A (wB h a1 a2 a3 a4 a5 a6 cb ci tp tl vo np rp rl rc sb sa) := hD
  exact hloopk (((((rp r) + (rl r)) - 1) / 56 + 1) + 1) ((rp r) / 56) (by omega) (by omega) (rfl) _ _ _ hP hD hS (lv_sub hl [0, 1, 2] rfl)
set_option maxHeartbeats 4000000 in
set_option maxRecDepth 100000 in
theorem c_recordOfRead (l : Launch) (dC : Nat → ClassId) (dI : Nat → Nat → Nat) (h a1 a2 a3 a4 a5 a6 : Nat) (cb ci : ClassId) (tp : Nat → Int32) (tl : Nat) (vo : Nat → Int32) (np : Nat) (rp rl : Nat → Nat) (rc : Nat) (sb sa : Nat → Nat) (sz : Nat) (i : Int32) (hnp : np ≤ 4480) (hsb : ∀ b, b < 80 → sb b < 256) (hrc : rc ≤ 200) (hrow : ∀ k, k < rc → rp k + rl k ≤ 4480 ∧ 6 ≤ rl k) : Met l yX0_recordOfRead wsX0_recordOfRead ({ frames := 4, cells := 0, slots := 0, locals := 85 }) (kPre (dC, dI) vwCl (wB h a1 a2 a3 a4 a5 a6 cb ci tp tl vo np rp rl rc sb sa) (tB cb ci) sz [.ref h, .int i]) (kQi (dC, dI) vwCl (wB h a1 a2 a3 a4 a5 a6 cb ci tp tl vo np rp rl rc sb sa) (tB cb ci) sz (rOf (isR np sb rp rl) i rc 0 0) (wB h a1 a2 a3 a4 a5 a6 cb ci tp tl vo np rp rl rc sb sa)) 0 0 (va_A (wB h a1 a2 a3 a4 a5 a6 cb ci tp tl vo np rp rl rc sb sa) sz) := by
  refine kM_i (cc := cX0_recordOfRead) (maxL := 4) (by decide) rfl (Nat.le_of_ble_eq_true rfl) ?_
  intro p e s m below meth c A Q ls H locs S hP hK hD hS hA hl hret
  obtain ⟨hx, hb, hml, hown, hts⟩ := id S
  have hin0 : ∀ w ∈ u_ws RX0 TX0 9, w ∈ wsX0_recordOfRead := fun _ h => List.mem_cons_of_mem _ (List.mem_append_right _ h)
  have lkf34 := hts (.fieldLink RX0 34 "BlockTape" "records" "I") (by decide +kernel)
  have hl : lv_has ls 4 [(0, .ref h), (1, .int i)] := hl
  refine lv_iconst (v := nI 0) hx hb dX0_recordOfRead_0 (by decide) ?_
  refine lv_istore_n (lv' := [(2, .int (nI 0)), (0, .ref h), (1, .int i)]) hx hb dX0_recordOfRead_1 rfl hl (by decide) rfl (fun ls hl => ?_)
  refine lv_iconst (v := nI 0) hx hb dX0_recordOfRead_2 (by decide) ?_
  refine lv_istore_n (lv' := [(3, .int (nI 0)), (2, .int (nI 0)), (0, .ref h), (1, .int i)]) hx hb dX0_recordOfRead_3 rfl hl (by decide) rfl (fun ls hl => ?_)
  have hloopk : ∀ (n k : Nat), k ≤ rc → rc + 1 ≤ k + n → (rOf (isR np sb rp rl) i (rc - k) k (cntB (isR np sb rp rl) k) = rOf (isR np sb rp rl) i rc 0 0) → ∀ (H : Heap) (locs : List Loc) (ls : Array Slot), va_P (dC, dI) vwCl (wB h a1 a2 a3 a4 a5 a6 cb ci tp tl vo np rp rl rc sb sa) H → va_D A (wB h a1 a2 a3 a4 a5 a6 cb ci tp tl vo np rp rl rc sb sa) → va_S A s.heap H locs → lv_has ls 4 [(3, .int (nI k)), (2, .int (nI (cntB (isR np sb rp rl) k))), (0, .ref h), (1, .int i)] → W p l e ({ frames := 4, cells := 0, slots := 0, locals := 85 }) s m ([.ref h, .int i] : List Value).toArray below meth c H locs 0 0 Q (F0 m 4 ls []) := by
    intro n
    induction n with
    | zero => intro k h1 h2; exact absurd h2 (by omega)
    | succ n ih =>
      intro k hkA hkB hres H locs ls hP hD hS hl
      refine lv_iload_n hx hb dX0_recordOfRead_4 rfl (lv_at hl 0 rfl) ?_
      refine lv_aload_n hx hb dX0_recordOfRead_5 rfl (lv_at hl 2 rfl) ?_
      refine va_get (D := (dC, dI)) (ci := 0) (v := .int (nI rc)) (C := RX0) (T := TX0) (N := 9) hx hb hts hin0 hown hK hP 0 rfl rfl 6 (by decide) lkf34 (fun _ h9 => h9) rfl dX0_recordOfRead_6 ?_
      refine lv_icmp_ge (tgt := 36) hx hb dX0_recordOfRead_9 (by decide) (fun c_9 => ?_) (fun c_9 => ?_)
      · have c_9 := (nI_leI (by omega) (by omega)).mp c_9
        refine lv_iconst (v := (-1)) hx hb dX0_recordOfRead_36 (by decide) ?_
        refine kv_top (show _ = rOf (isR np sb rp rl) i rc 0 0 from (by rw [← hres, show rc - k = 0 by omega]; rfl)) ?_
        exact hret _ _ _ _ hP hD hS dX0_recordOfRead_37
      · have c_9 := kmt (nI_leI (by omega) (by omega)).mpr c_9
        refine lv_aload_n hx hb dX0_recordOfRead_12 rfl (lv_at hl 2 rfl) ?_
        refine lv_iload_n hx hb dX0_recordOfRead_13 rfl (lv_at hl 0 rfl) ?_
        refine kc_vi (WR := []) (As := [.int (nI k)]) (rest := []) ⟨hx, hb, hml, hown, hts⟩ (c_isRead l dC dI h a1 a2 a3 a4 a5 a6 cb ci tp tl vo np rp rl rc sb sa H.size k (by omega) hsb (by omega) (hrow _ (by omega))) (cwV 1 hts gX0_recordOfRead_X0_isRead rfl rfl rfl (by decide +kernel) ⟨Nat.le_of_ble_eq_true rfl, Nat.le_of_ble_eq_true rfl⟩) hK hP hD hS hA [0, 1, 2, 3, 4, 5, 6] [] [0, 1] rfl rfl (by decide) (by decide) (by decide) rfl 0 0 rfl rfl rfl rfl hl.1 rfl (Nat.le_of_ble_eq_true rfl) dX0_recordOfRead_14 ⟨Nat.zero_le _, Nat.zero_le _⟩ (fun H locs hP hD hS => ?_)
        have hP : va_P (dC, dI) vwCl (wB h a1 a2 a3 a4 a5 a6 cb ci tp tl vo np rp rl rc sb sa) H := hP
        have hD : va_D A (wB h a1 a2 a3 a4 a5 a6 cb ci tp tl vo np rp rl rc sb sa) := hD
        refine lv_if_eq (tgt := 30) hx hb dX0_recordOfRead_17 (by decide) (fun c_17 => ?_) (fun c_17 => ?_)
        · have c_17 := (bI_e _).mp c_17
          rw [rOf_step (by omega), if_neg (by rw [c_17]; decide)] at hres
          rw [show cntB (isR np sb rp rl) k = cntB (isR np sb rp rl) (k + 1) from (by rw [cntB, if_neg (by rw [c_17]; decide)])] at hl hres
          refine lv_iinc (v := nI (k + 1)) (lv' := [(3, .int (nI (k + 1))), (2, .int (nI (cntB (isR np sb rp rl) (k + 1)))), (0, .ref h), (1, .int i)]) hx hb dX0_recordOfRead_30 hl (k := 0) rfl (ki_inc _) (by decide) rfl (fun ls hl => ?_)
          refine lv_goto (tgt := 4) hx hb dX0_recordOfRead_33 (by decide) ?_
          have hP : va_P (dC, dI) vwCl (wB h a1 a2 a3 a4 a5 a6 cb ci tp tl vo np rp rl rc sb sa) H := hP
          have hD : va_D A (wB h a1 a2 a3 a4 a5 a6 cb ci tp tl vo np rp rl rc sb sa) := hD
          exact ih (k + 1) (by omega) (by omega) (hres) _ _ _ hP hD hS (lv_sub hl [0, 1, 2, 3] rfl)
        · have c_17 := kmt (bI_e _).mpr c_17
          have c_17 := bT c_17
          rw [rOf_step (by omega), if_pos c_17] at hres
          have hcb := cntB_le (isR np sb rp rl) k
          refine lv_iload_n hx hb dX0_recordOfRead_20 rfl (lv_at hl 1 rfl) ?_
          refine lv_iload_n hx hb dX0_recordOfRead_21 rfl (lv_at hl 3 rfl) ?_
          refine lv_icmp_ne (tgt := 27) hx hb dX0_recordOfRead_22 (by decide) (fun c_22 => ?_) (fun c_22 => ?_)
          · have c_22 := kmt (kx_eqr (by omega)).mpr c_22
            rw [if_neg (fun h9 => c_22 ((kx_eqr (by omega)).mp h9))] at hres
            refine lv_iinc (v := nI ((cntB (isR np sb rp rl) k) + 1)) (lv' := [(2, .int (nI ((cntB (isR np sb rp rl) k) + 1))), (3, .int (nI k)), (0, .ref h), (1, .int i)]) hx hb dX0_recordOfRead_27 hl (k := 1) rfl (ki_inc _) (by decide) rfl (fun ls hl => ?_)
            rw [show (cntB (isR np sb rp rl) k) + 1 = cntB (isR np sb rp rl) (k + 1) from (by rw [cntB, if_pos c_17])] at hl hres
            refine lv_iinc (v := nI (k + 1)) (lv' := [(3, .int (nI (k + 1))), (2, .int (nI (cntB (isR np sb rp rl) (k + 1)))), (0, .ref h), (1, .int i)]) hx hb dX0_recordOfRead_30 hl (k := 1) rfl (ki_inc _) (by decide) rfl (fun ls hl => ?_)
            refine lv_goto (tgt := 4) hx hb dX0_recordOfRead_33 (by decide) ?_
            have hP : va_P (dC, dI) vwCl (wB h a1 a2 a3 a4 a5 a6 cb ci tp tl vo np rp rl rc sb sa) H := hP
            have hD : va_D A (wB h a1 a2 a3 a4 a5 a6 cb ci tp tl vo np rp rl rc sb sa) := hD
            exact ih (k + 1) (by omega) (by omega) (hres) _ _ _ hP hD hS (lv_sub hl [0, 1, 2, 3] rfl)
          · have c_22 := (kx_eqr (by omega)).mp c_22
            rw [if_pos ((kx_eqr (by omega)).mpr c_22)] at hres
            refine lv_iload_n hx hb dX0_recordOfRead_25 rfl (lv_at hl 0 rfl) ?_
            refine kv_top (show _ = rOf (isR np sb rp rl) i rc 0 0 from hres) ?_
            exact hret _ _ _ _ hP hD hS dX0_recordOfRead_26
  have hP : va_P (dC, dI) vwCl (wB h a1 a2 a3 a4 a5 a6 cb ci tp tl vo np rp rl rc sb sa) H := hP
  have hD : va_D A (wB h a1 a2 a3 a4 a5 a6 cb ci tp tl vo np rp rl rc sb sa) := hD
  exact hloopk (rc + 1) 0 (by omega) (by omega) (rfl) _ _ _ hP hD hS (lv_sub hl [0, 1, 2, 3] rfl)
set_option maxHeartbeats 4000000 in
set_option maxRecDepth 100000 in
theorem c_recordsRead (l : Launch) (dC : Nat → ClassId) (dI : Nat → Nat → Nat) (h a1 a2 a3 a4 a5 a6 : Nat) (cb ci : ClassId) (tp : Nat → Int32) (tl : Nat) (vo : Nat → Int32) (np : Nat) (rp rl : Nat → Nat) (rc : Nat) (sb sa : Nat → Nat) (sz : Nat) (hnp : np ≤ 4480) (hsb : ∀ b, b < 80 → sb b < 256) (hrc : rc ≤ 200) (hrow : ∀ k, k < rc → rp k + rl k ≤ 4480 ∧ 6 ≤ rl k) : Met l yX0_recordsRead wsX0_recordsRead ({ frames := 4, cells := 0, slots := 0, locals := 85 }) (kPre (dC, dI) vwCl (wB h a1 a2 a3 a4 a5 a6 cb ci tp tl vo np rp rl rc sb sa) (tB cb ci) sz [.ref h]) (kQi (dC, dI) vwCl (wB h a1 a2 a3 a4 a5 a6 cb ci tp tl vo np rp rl rc sb sa) (tB cb ci) sz (nI (cntB (isR np sb rp rl) rc)) (wB h a1 a2 a3 a4 a5 a6 cb ci tp tl vo np rp rl rc sb sa)) 0 0 (va_A (wB h a1 a2 a3 a4 a5 a6 cb ci tp tl vo np rp rl rc sb sa) sz) := by
  refine kM_i (cc := cX0_recordsRead) (maxL := 3) (by decide) rfl (Nat.le_of_ble_eq_true rfl) ?_
  intro p e s m below meth c A Q ls H locs S hP hK hD hS hA hl hret
  obtain ⟨hx, hb, hml, hown, hts⟩ := id S
  have hin0 : ∀ w ∈ u_ws RX0 TX0 9, w ∈ wsX0_recordsRead := fun _ h => List.mem_cons_of_mem _ (List.mem_append_right _ h)
  have lkf34 := hts (.fieldLink RX0 34 "BlockTape" "records" "I") (by decide +kernel)
  have hl : lv_has ls 3 [(0, .ref h)] := hl
  refine lv_iconst (v := nI 0) hx hb dX0_recordsRead_0 (by decide) ?_
  refine lv_istore_n (lv' := [(1, .int (nI 0)), (0, .ref h)]) hx hb dX0_recordsRead_1 rfl hl (by decide) rfl (fun ls hl => ?_)
  refine lv_iconst (v := nI 0) hx hb dX0_recordsRead_2 (by decide) ?_
  refine lv_istore_n (lv' := [(2, .int (nI 0)), (1, .int (nI 0)), (0, .ref h)]) hx hb dX0_recordsRead_3 rfl hl (by decide) rfl (fun ls hl => ?_)
  have hloopk : ∀ (n k : Nat), k ≤ rc → rc + 1 ≤ k + n → ∀ (H : Heap) (locs : List Loc) (ls : Array Slot), va_P (dC, dI) vwCl (wB h a1 a2 a3 a4 a5 a6 cb ci tp tl vo np rp rl rc sb sa) H → va_D A (wB h a1 a2 a3 a4 a5 a6 cb ci tp tl vo np rp rl rc sb sa) → va_S A s.heap H locs → lv_has ls 3 [(2, .int (nI k)), (1, .int (nI (cntB (isR np sb rp rl) k))), (0, .ref h)] → W p l e ({ frames := 4, cells := 0, slots := 0, locals := 85 }) s m ([.ref h] : List Value).toArray below meth c H locs 0 0 Q (F0 m 4 ls []) := by
    intro n
    induction n with
    | zero => intro k h1 h2; exact absurd h2 (by omega)
    | succ n ih =>
      intro k hkA hkB H locs ls hP hD hS hl
      refine lv_iload_n hx hb dX0_recordsRead_4 rfl (lv_at hl 0 rfl) ?_
      refine lv_aload_n hx hb dX0_recordsRead_5 rfl (lv_at hl 2 rfl) ?_
      refine va_get (D := (dC, dI)) (ci := 0) (v := .int (nI rc)) (C := RX0) (T := TX0) (N := 9) hx hb hts hin0 hown hK hP 0 rfl rfl 6 (by decide) lkf34 (fun _ h9 => h9) rfl dX0_recordsRead_6 ?_
      refine lv_icmp_ge (tgt := 29) hx hb dX0_recordsRead_9 (by decide) (fun c_9 => ?_) (fun c_9 => ?_)
      · have c_9 := (nI_leI (by omega) (by omega)).mp c_9
        refine lv_iload_n hx hb dX0_recordsRead_29 rfl (lv_at hl 1 rfl) ?_
        refine kv_top (show _ = nI (cntB (isR np sb rp rl) rc) from (by rw [show k = rc by omega])) ?_
        exact hret _ _ _ _ hP hD hS dX0_recordsRead_30
      · have c_9 := kmt (nI_leI (by omega) (by omega)).mpr c_9
        refine lv_aload_n hx hb dX0_recordsRead_12 rfl (lv_at hl 2 rfl) ?_
        refine lv_iload_n hx hb dX0_recordsRead_13 rfl (lv_at hl 0 rfl) ?_
        refine kc_vi (WR := []) (As := [.int (nI k)]) (rest := []) ⟨hx, hb, hml, hown, hts⟩ (c_isRead l dC dI h a1 a2 a3 a4 a5 a6 cb ci tp tl vo np rp rl rc sb sa H.size k (by omega) hsb (by omega) (hrow _ (by omega))) (cwV 1 hts gX0_recordsRead_X0_isRead rfl rfl rfl (by decide +kernel) ⟨Nat.le_of_ble_eq_true rfl, Nat.le_of_ble_eq_true rfl⟩) hK hP hD hS hA [0, 1, 2, 3, 4, 5, 6] [] [0, 1] rfl rfl (by decide) (by decide) (by decide) rfl 0 0 rfl rfl rfl rfl hl.1 rfl (Nat.le_of_ble_eq_true rfl) dX0_recordsRead_14 ⟨Nat.zero_le _, Nat.zero_le _⟩ (fun H locs hP hD hS => ?_)
        have hP : va_P (dC, dI) vwCl (wB h a1 a2 a3 a4 a5 a6 cb ci tp tl vo np rp rl rc sb sa) H := hP
        have hD : va_D A (wB h a1 a2 a3 a4 a5 a6 cb ci tp tl vo np rp rl rc sb sa) := hD
        refine lv_if_eq (tgt := 23) hx hb dX0_recordsRead_17 (by decide) (fun c_17 => ?_) (fun c_17 => ?_)
        · have c_17 := (bI_e _).mp c_17
          rw [show cntB (isR np sb rp rl) k = cntB (isR np sb rp rl) (k + 1) from (by rw [cntB, if_neg (by rw [c_17]; decide)])] at hl
          refine lv_iinc (v := nI (k + 1)) (lv' := [(2, .int (nI (k + 1))), (1, .int (nI (cntB (isR np sb rp rl) (k + 1)))), (0, .ref h)]) hx hb dX0_recordsRead_23 hl (k := 0) rfl (ki_inc _) (by decide) rfl (fun ls hl => ?_)
          refine lv_goto (tgt := 4) hx hb dX0_recordsRead_26 (by decide) ?_
          have hP : va_P (dC, dI) vwCl (wB h a1 a2 a3 a4 a5 a6 cb ci tp tl vo np rp rl rc sb sa) H := hP
          have hD : va_D A (wB h a1 a2 a3 a4 a5 a6 cb ci tp tl vo np rp rl rc sb sa) := hD
          exact ih (k + 1) (by omega) (by omega) _ _ _ hP hD hS (lv_sub hl [0, 1, 2] rfl)
        · have c_17 := kmt (bI_e _).mpr c_17
          have c_17 := bT c_17
          refine lv_iinc (v := nI ((cntB (isR np sb rp rl) k) + 1)) (lv' := [(1, .int (nI ((cntB (isR np sb rp rl) k) + 1))), (2, .int (nI k)), (0, .ref h)]) hx hb dX0_recordsRead_20 hl (k := 1) rfl (ki_inc _) (by decide) rfl (fun ls hl => ?_)
          rw [show (cntB (isR np sb rp rl) k) + 1 = cntB (isR np sb rp rl) (k + 1) from (by rw [cntB, if_pos (c_17)])] at hl
          refine lv_iinc (v := nI (k + 1)) (lv' := [(2, .int (nI (k + 1))), (1, .int (nI (cntB (isR np sb rp rl) (k + 1)))), (0, .ref h)]) hx hb dX0_recordsRead_23 hl (k := 1) rfl (ki_inc _) (by decide) rfl (fun ls hl => ?_)
          refine lv_goto (tgt := 4) hx hb dX0_recordsRead_26 (by decide) ?_
          have hP : va_P (dC, dI) vwCl (wB h a1 a2 a3 a4 a5 a6 cb ci tp tl vo np rp rl rc sb sa) H := hP
          have hD : va_D A (wB h a1 a2 a3 a4 a5 a6 cb ci tp tl vo np rp rl rc sb sa) := hD
          exact ih (k + 1) (by omega) (by omega) _ _ _ hP hD hS (lv_sub hl [0, 1, 2] rfl)
  have hP : va_P (dC, dI) vwCl (wB h a1 a2 a3 a4 a5 a6 cb ci tp tl vo np rp rl rc sb sa) H := hP
  have hD : va_D A (wB h a1 a2 a3 a4 a5 a6 cb ci tp tl vo np rp rl rc sb sa) := hD
  exact hloopk (rc + 1) 0 (by omega) (by omega) _ _ _ hP hD hS (lv_sub hl [0, 1, 2] rfl)
set_option maxHeartbeats 4000000 in
set_option maxRecDepth 100000 in
theorem c_blocksNotGood (l : Launch) (dC : Nat → ClassId) (dI : Nat → Nat → Nat) (h a1 a2 a3 a4 a5 a6 : Nat) (cb ci : ClassId) (tp : Nat → Int32) (tl : Nat) (vo : Nat → Int32) (np : Nat) (rp rl : Nat → Nat) (rc : Nat) (sb sa : Nat → Nat) (sz : Nat) (hnp : np ≤ 4480) (hsb : ∀ b, b < 80 → sb b < 256) : Met l yX0_blocksNotGood wsX0_blocksNotGood ({ frames := 3, cells := 0, slots := 0, locals := 62 }) (kPre (dC, dI) vwCl (wB h a1 a2 a3 a4 a5 a6 cb ci tp tl vo np rp rl rc sb sa) (tB cb ci) sz [.ref h]) (kQi (dC, dI) vwCl (wB h a1 a2 a3 a4 a5 a6 cb ci tp tl vo np rp rl rc sb sa) (tB cb ci) sz (nI (cntB (nG np sb) (np / 56))) (wB h a1 a2 a3 a4 a5 a6 cb ci tp tl vo np rp rl rc sb sa)) 0 0 (va_A (wB h a1 a2 a3 a4 a5 a6 cb ci tp tl vo np rp rl rc sb sa) sz) := by
  refine kM_i (cc := cX0_blocksNotGood) (maxL := 3) (by decide) rfl (Nat.le_of_ble_eq_true rfl) ?_
  intro p e s m below meth c A Q ls H locs S hP hK hD hS hA hl hret
  obtain ⟨hx, hb, hml, hown, hts⟩ := id S
  have hl : lv_has ls 3 [(0, .ref h)] := hl
  refine lv_iconst (v := nI 0) hx hb dX0_blocksNotGood_0 (by decide) ?_
  refine lv_istore_n (lv' := [(1, .int (nI 0)), (0, .ref h)]) hx hb dX0_blocksNotGood_1 rfl hl (by decide) rfl (fun ls hl => ?_)
  refine lv_iconst (v := nI 0) hx hb dX0_blocksNotGood_2 (by decide) ?_
  refine lv_istore_n (lv' := [(2, .int (nI 0)), (1, .int (nI 0)), (0, .ref h)]) hx hb dX0_blocksNotGood_3 rfl hl (by decide) rfl (fun ls hl => ?_)
  have hloopk : ∀ (n k : Nat), k ≤ np / 56 → np / 56 + 1 ≤ k + n → ∀ (H : Heap) (locs : List Loc) (ls : Array Slot), va_P (dC, dI) vwCl (wB h a1 a2 a3 a4 a5 a6 cb ci tp tl vo np rp rl rc sb sa) H → va_D A (wB h a1 a2 a3 a4 a5 a6 cb ci tp tl vo np rp rl rc sb sa) → va_S A s.heap H locs → lv_has ls 3 [(2, .int (nI k)), (1, .int (nI (cntB (nG np sb) k))), (0, .ref h)] → W p l e ({ frames := 3, cells := 0, slots := 0, locals := 62 }) s m ([.ref h] : List Value).toArray below meth c H locs 0 0 Q (F0 m 4 ls []) := by
    intro n
    induction n with
    | zero => intro k h1 h2; exact absurd h2 (by omega)
    | succ n ih =>
      intro k hkA hkB H locs ls hP hD hS hl
      refine lv_iload_n hx hb dX0_blocksNotGood_4 rfl (lv_at hl 0 rfl) ?_
      refine lv_aload_n hx hb dX0_blocksNotGood_5 rfl (lv_at hl 2 rfl) ?_
      refine kc_vi (WR := []) (As := []) (rest := [.int (nI k)]) ⟨hx, hb, hml, hown, hts⟩ (c_blocksWritten l dC dI h a1 a2 a3 a4 a5 a6 cb ci tp tl vo np rp rl rc sb sa H.size (by omega)) (cwV 0 hts gX0_blocksNotGood_X0_blocksWritten rfl rfl rfl (by decide +kernel) ⟨Nat.le_of_ble_eq_true rfl, Nat.le_of_ble_eq_true rfl⟩) hK hP hD hS hA [0, 1, 2, 3, 4, 5, 6] [] [0, 1] rfl rfl (by decide) (by decide) (by decide) rfl 0 0 rfl rfl rfl rfl hl.1 rfl (Nat.le_of_ble_eq_true rfl) dX0_blocksNotGood_6 ⟨Nat.zero_le _, Nat.zero_le _⟩ (fun H locs hP hD hS => ?_)
      have hP : va_P (dC, dI) vwCl (wB h a1 a2 a3 a4 a5 a6 cb ci tp tl vo np rp rl rc sb sa) H := hP
      have hD : va_D A (wB h a1 a2 a3 a4 a5 a6 cb ci tp tl vo np rp rl rc sb sa) := hD
      refine lv_icmp_ge (tgt := 29) hx hb dX0_blocksNotGood_9 (by decide) (fun c_9 => ?_) (fun c_9 => ?_)
      · have c_9 := (nI_leI (by omega) (by omega)).mp c_9
        refine lv_iload_n hx hb dX0_blocksNotGood_29 rfl (lv_at hl 1 rfl) ?_
        refine kv_top (show _ = nI (cntB (nG np sb) (np / 56)) from (by rw [show k = np / 56 by omega])) ?_
        exact hret _ _ _ _ hP hD hS dX0_blocksNotGood_30
      · have c_9 := kmt (nI_leI (by omega) (by omega)).mpr c_9
        refine lv_aload_n hx hb dX0_blocksNotGood_12 rfl (lv_at hl 2 rfl) ?_
        refine lv_iload_n hx hb dX0_blocksNotGood_13 rfl (lv_at hl 0 rfl) ?_
        refine kc_vi (WR := []) (As := [.int (nI k)]) (rest := []) ⟨hx, hb, hml, hown, hts⟩ (c_good l dC dI h a1 a2 a3 a4 a5 a6 cb ci tp tl vo np rp rl rc sb sa H.size (nI k) (by omega) hsb) (cwV 1 hts gX0_blocksNotGood_X0_good rfl rfl rfl (by decide +kernel) ⟨Nat.le_of_ble_eq_true rfl, Nat.le_of_ble_eq_true rfl⟩) hK hP hD hS hA [0, 1, 2, 3, 4, 5, 6] [] [0, 1] rfl rfl (by decide) (by decide) (by decide) rfl 0 0 rfl rfl rfl rfl hl.1 rfl (Nat.le_of_ble_eq_true rfl) dX0_blocksNotGood_14 ⟨Nat.zero_le _, Nat.zero_le _⟩ (fun H locs hP hD hS => ?_)
        have hP : va_P (dC, dI) vwCl (wB h a1 a2 a3 a4 a5 a6 cb ci tp tl vo np rp rl rc sb sa) H := hP
        have hD : va_D A (wB h a1 a2 a3 a4 a5 a6 cb ci tp tl vo np rp rl rc sb sa) := hD
        refine kv_top (show _ = bI (gd np sb k) from by rw [goodX_n (by omega)]) ?_
        refine lv_if_ne (tgt := 23) hx hb dX0_blocksNotGood_17 (by decide) (fun c_17 => ?_) (fun c_17 => ?_)
        · have c_17 := kmt (bI_e _).mpr c_17
          have c_17 := bT c_17
          rw [show cntB (nG np sb) k = cntB (nG np sb) (k + 1) from (by rw [cntB, if_neg (by simp [nG, c_17])])] at hl
          refine lv_iinc (v := nI (k + 1)) (lv' := [(2, .int (nI (k + 1))), (1, .int (nI (cntB (nG np sb) (k + 1)))), (0, .ref h)]) hx hb dX0_blocksNotGood_23 hl (k := 0) rfl (ki_inc _) (by decide) rfl (fun ls hl => ?_)
          refine lv_goto (tgt := 4) hx hb dX0_blocksNotGood_26 (by decide) ?_
          have hP : va_P (dC, dI) vwCl (wB h a1 a2 a3 a4 a5 a6 cb ci tp tl vo np rp rl rc sb sa) H := hP
          have hD : va_D A (wB h a1 a2 a3 a4 a5 a6 cb ci tp tl vo np rp rl rc sb sa) := hD
          exact ih (k + 1) (by omega) (by omega) _ _ _ hP hD hS (lv_sub hl [0, 1, 2] rfl)
        · have c_17 := (bI_e _).mp c_17
          refine lv_iinc (v := nI ((cntB (nG np sb) k) + 1)) (lv' := [(1, .int (nI ((cntB (nG np sb) k) + 1))), (2, .int (nI k)), (0, .ref h)]) hx hb dX0_blocksNotGood_20 hl (k := 1) rfl (ki_inc _) (by decide) rfl (fun ls hl => ?_)
          rw [show (cntB (nG np sb) k) + 1 = cntB (nG np sb) (k + 1) from (by rw [cntB, if_pos (by simp [nG, c_17])])] at hl
          refine lv_iinc (v := nI (k + 1)) (lv' := [(2, .int (nI (k + 1))), (1, .int (nI (cntB (nG np sb) (k + 1)))), (0, .ref h)]) hx hb dX0_blocksNotGood_23 hl (k := 1) rfl (ki_inc _) (by decide) rfl (fun ls hl => ?_)
          refine lv_goto (tgt := 4) hx hb dX0_blocksNotGood_26 (by decide) ?_
          have hP : va_P (dC, dI) vwCl (wB h a1 a2 a3 a4 a5 a6 cb ci tp tl vo np rp rl rc sb sa) H := hP
          have hD : va_D A (wB h a1 a2 a3 a4 a5 a6 cb ci tp tl vo np rp rl rc sb sa) := hD
          exact ih (k + 1) (by omega) (by omega) _ _ _ hP hD hS (lv_sub hl [0, 1, 2] rfl)
  have hP : va_P (dC, dI) vwCl (wB h a1 a2 a3 a4 a5 a6 cb ci tp tl vo np rp rl rc sb sa) H := hP
  have hD : va_D A (wB h a1 a2 a3 a4 a5 a6 cb ci tp tl vo np rp rl rc sb sa) := hD
  exact hloopk ((np / 56) + 1) 0 (by omega) (by omega) _ _ _ hP hD hS (lv_sub hl [0, 1, 2] rfl)
set_option maxHeartbeats 4000000 in
set_option maxRecDepth 100000 in
theorem c_rowByte (l : Launch) (dC : Nat → ClassId) (dI : Nat → Nat → Nat) (h a1 a2 a3 a4 a5 a6 : Nat) (cb ci : ClassId) (tp : Nat → Int32) (tl : Nat) (vo : Nat → Int32) (np : Nat) (rp rl : Nat → Nat) (rc : Nat) (sb sa : Nat → Nat) (sz : Nat) (r : Nat) (j : Nat) (hr : r < 200) (hj : rp r + j < 4480) : Met l yX0_rowByte wsX0_rowByte ({ frames := 1, cells := 0, slots := 0, locals := 20 }) (kPre (dC, dI) vwCl (wB h a1 a2 a3 a4 a5 a6 cb ci tp tl vo np rp rl rc sb sa) (tB cb ci) sz [.ref h, .int (nI r), .int (nI j)]) (kQi (dC, dI) vwCl (wB h a1 a2 a3 a4 a5 a6 cb ci tp tl vo np rp rl rc sb sa) (tB cb ci) sz (vo (ix (rp r + j)) &&& nI 255) (wB h a1 a2 a3 a4 a5 a6 cb ci tp tl vo np rp rl rc sb sa)) 0 0 (va_A (wB h a1 a2 a3 a4 a5 a6 cb ci tp tl vo np rp rl rc sb sa) sz) := by
  refine kM_i (cc := cX0_rowByte) (maxL := 3) (by decide) rfl (Nat.le_of_ble_eq_true rfl) ?_
  intro p e s m below meth c A Q ls H locs S hP hK hD hS hA hl hret
  obtain ⟨hx, hb, hml, hown, hts⟩ := id S
  have hin0 : ∀ w ∈ u_ws RX0 TX0 9, w ∈ wsX0_rowByte := fun _ h => List.mem_cons_of_mem _ (List.mem_append_right _ h)
  have lkf13 := hts (.fieldLink RX0 13 "BlockTape" "volume" "[B") (by decide +kernel)
  have lkf16 := hts (.fieldLink RX0 16 "BlockTape" "rowPlace" "[I") (by decide +kernel)
  have hl : lv_has ls 3 [(0, .ref h), (1, .int (nI r)), (2, .int (nI j))] := hl
  refine lv_aload_n hx hb dX0_rowByte_0 rfl (lv_at hl 0 rfl) ?_
  refine va_get (D := (dC, dI)) (ci := 0) (v := .ref a2) (C := RX0) (T := TX0) (N := 9) hx hb hts hin0 hown hK hP 0 rfl rfl 2 (by decide) lkf13 (fun _ h9 => h9) rfl dX0_rowByte_1 ?_
  refine lv_aload_n hx hb dX0_rowByte_4 rfl (lv_at hl 0 rfl) ?_
  refine va_get (D := (dC, dI)) (ci := 0) (v := .ref a3) (C := RX0) (T := TX0) (N := 9) hx hb hts hin0 hown hK hP 0 rfl rfl 4 (by decide) lkf16 (fun _ h9 => h9) rfl dX0_rowByte_5 ?_
  refine lv_iload_n hx hb dX0_rowByte_8 rfl (lv_at hl 1 rfl) ?_
  refine ka_ialdN hx hb hK hP 3 1 rfl rfl (k := r) (by omega) (by decide) dX0_rowByte_9 ?_
  refine lv_iload_n hx hb dX0_rowByte_10 rfl (lv_at hl 2 rfl) ?_
  refine lv_iadd hx hb dX0_rowByte_11 ?_
  refine kv_top (show _ = nI ((rp r) + j) from nI_add _ _) ?_
  refine kc_si (WR := wB h a1 a2 a3 a4 a5 a6 cb ci tp tl vo np rp rl rc sb sa) (As := [.int (nI ((rp r) + j))]) (rest := [.ref a2]) ⟨hx, hb, hml, hown, hts⟩ (c_indexOfPlace l dC dI H.size ((rp r) + j) (by omega)) (va_cwS 1 hts gX0_rowByte_X0_indexOfPlace rfl rfl rfl (by decide +kernel) ⟨Nat.le_of_ble_eq_true rfl, Nat.le_of_ble_eq_true rfl⟩) hK hP hD hS hA [] [0, 1, 2, 3, 4, 5, 6] [] rfl rfl (by decide) (by decide) (by decide) rfl rfl hl.1 rfl (Nat.le_of_ble_eq_true rfl) dX0_rowByte_12 ⟨Nat.zero_le _, Nat.zero_le _⟩ (fun H locs hP hD hS => ?_)
  have hP : va_P (dC, dI) vwCl (wB h a1 a2 a3 a4 a5 a6 cb ci tp tl vo np rp rl rc sb sa) H := hP
  have hD : va_D A (wB h a1 a2 a3 a4 a5 a6 cb ci tp tl vo np rp rl rc sb sa) := hD
  refine ka_bald hx hb hK hP 2 0 rfl rfl (k := ix ((rp r) + j)) (ix_lt (by omega)) (by decide) dX0_rowByte_15 ?_
  refine lv_sipush (v := nI 255) hx hb dX0_rowByte_16 (by decide) ?_
  refine lv_iand hx hb dX0_rowByte_19 ?_
  refine kv_top (show _ = vo (ix (rp r + j)) &&& nI 255 from rfl) ?_
  exact hret _ _ _ _ hP hD hS dX0_rowByte_20
set_option maxHeartbeats 4000000 in
set_option maxRecDepth 100000 in
theorem c_recordByte (l : Launch) (dC : Nat → ClassId) (dI : Nat → Nat → Nat) (h a1 a2 a3 a4 a5 a6 : Nat) (cb ci : ClassId) (tp : Nat → Int32) (tl : Nat) (vo : Nat → Int32) (np : Nat) (rp rl : Nat → Nat) (rc : Nat) (sb sa : Nat → Nat) (sz : Nat) (r : Nat) (x : Int32) (hr : r < 200) (hrow : rp r + rl r ≤ 4480 ∧ 6 ≤ rl r) : Met l yX0_recordByte wsX0_recordByte ({ frames := 2, cells := 0, slots := 0, locals := 42 }) (kPre (dC, dI) vwCl (wB h a1 a2 a3 a4 a5 a6 cb ci tp tl vo np rp rl rc sb sa) (tB cb ci) sz [.ref h, .int (nI r), .int x]) (kQi (dC, dI) vwCl (wB h a1 a2 a3 a4 a5 a6 cb ci tp tl vo np rp rl rc sb sa) (tB cb ci) sz (recB vo rp rl r x) (wB h a1 a2 a3 a4 a5 a6 cb ci tp tl vo np rp rl rc sb sa)) 0 0 (va_A (wB h a1 a2 a3 a4 a5 a6 cb ci tp tl vo np rp rl rc sb sa) sz) := by
  refine kM_i (cc := cX0_recordByte) (maxL := 3) (by decide) rfl (Nat.le_of_ble_eq_true rfl) ?_
  intro p e s m below meth c A Q ls H locs S hP hK hD hS hA hl hret
  obtain ⟨hx, hb, hml, hown, hts⟩ := id S
  have hin0 : ∀ w ∈ u_ws RX0 TX0 9, w ∈ wsX0_recordByte := fun _ h => List.mem_cons_of_mem _ (List.mem_append_right _ h)
  have lkf20 := hts (.fieldLink RX0 20 "BlockTape" "rowLength" "[I") (by decide +kernel)
  have hl : lv_has ls 3 [(0, .ref h), (1, .int (nI r)), (2, .int x)] := hl
  refine lv_iload_n hx hb dX0_recordByte_0 rfl (lv_at hl 2 rfl) ?_
  refine lv_if_lt (tgt := 17) hx hb dX0_recordByte_1 (by decide) (fun c_1 => ?_) (fun c_1 => ?_)
  · have c_1 := (kx_lt0).mp c_1
    refine lv_iconst (v := (-1)) hx hb dX0_recordByte_17 (by decide) ?_
    refine kv_top (show _ = recB vo rp rl r x from (by rw [recB, if_neg (by omega)])) ?_
    exact hret _ _ _ _ hP hD hS dX0_recordByte_18
  · have c_1 := kmt (kx_lt0).mpr c_1
    refine lv_iload_n hx hb dX0_recordByte_4 rfl (lv_at hl 2 rfl) ?_
    refine lv_aload_n hx hb dX0_recordByte_5 rfl (lv_at hl 0 rfl) ?_
    refine va_get (D := (dC, dI)) (ci := 0) (v := .ref a4) (C := RX0) (T := TX0) (N := 9) hx hb hts hin0 hown hK hP 0 rfl rfl 5 (by decide) lkf20 (fun _ h9 => h9) rfl dX0_recordByte_6 ?_
    refine lv_iload_n hx hb dX0_recordByte_9 rfl (lv_at hl 1 rfl) ?_
    refine ka_ialdN hx hb hK hP 4 1 rfl rfl (k := r) (by omega) (by decide) dX0_recordByte_10 ?_
    refine lv_bipush (v := nI 6) hx hb dX0_recordByte_11 (by decide) ?_
    refine lv_isub hx hb dX0_recordByte_13 ?_
    refine kv_top (show _ = nI ((rl r) - 6) from pk_sub (by omega)) ?_
    refine lv_icmp_lt (tgt := 19) hx hb dX0_recordByte_14 (by decide) (fun c_14 => ?_) (fun c_14 => ?_)
    · have c_14 := (kx_lt (by omega)).mp c_14
      obtain ⟨j, hj, rfl⟩ := kx_of (x := x) (by omega)
      rw [nI_toInt hj] at c_1 c_14
      refine lv_aload_n hx hb dX0_recordByte_19 rfl (lv_at hl 0 rfl) ?_
      refine lv_iload_n hx hb dX0_recordByte_20 rfl (lv_at hl 1 rfl) ?_
      refine lv_bipush (v := nI 6) hx hb dX0_recordByte_21 (by decide) ?_
      refine lv_iload_n hx hb dX0_recordByte_23 rfl (lv_at hl 2 rfl) ?_
      refine lv_iadd hx hb dX0_recordByte_24 ?_
      refine kv_top (show _ = nI (6 + j) from nI_add _ _) ?_
      refine kc_vi (WR := []) (As := [.int (nI r), .int (nI (6 + j))]) (rest := []) ⟨hx, hb, hml, hown, hts⟩ (c_rowByte l dC dI h a1 a2 a3 a4 a5 a6 cb ci tp tl vo np rp rl rc sb sa H.size r (6 + j) (by omega) (by omega)) (cwV 2 hts gX0_recordByte_X0_rowByte rfl rfl rfl (by decide +kernel) ⟨Nat.le_of_ble_eq_true rfl, Nat.le_of_ble_eq_true rfl⟩) hK hP hD hS hA [0, 1, 2, 3, 4, 5, 6] [] [0, 1] rfl rfl (by decide) (by decide) (by decide) rfl 0 0 rfl rfl rfl rfl hl.1 rfl (Nat.le_of_ble_eq_true rfl) dX0_recordByte_25 ⟨Nat.zero_le _, Nat.zero_le _⟩ (fun H locs hP hD hS => ?_)
      have hP : va_P (dC, dI) vwCl (wB h a1 a2 a3 a4 a5 a6 cb ci tp tl vo np rp rl rc sb sa) H := hP
      have hD : va_D A (wB h a1 a2 a3 a4 a5 a6 cb ci tp tl vo np rp rl rc sb sa) := hD
      refine kv_top (show _ = recB vo rp rl r (nI j) from (by rw [recB_n (by omega) (by omega)])) ?_
      exact hret _ _ _ _ hP hD hS dX0_recordByte_28
    · have c_14 := kmt (kx_lt (by omega)).mpr c_14
      refine lv_iconst (v := (-1)) hx hb dX0_recordByte_17 (by decide) ?_
      refine kv_top (show _ = recB vo rp rl r x from (by rw [recB, if_neg (by omega)])) ?_
      exact hret _ _ _ _ hP hD hS dX0_recordByte_18
set_option maxHeartbeats 4000000 in
set_option maxRecDepth 100000 in
theorem c_feed (l : Launch) (dC : Nat → ClassId) (dI : Nat → Nat → Nat) (h a1 a2 a3 a4 a5 a6 : Nat) (cb ci : ClassId) (tp : Nat → Int32) (tl : Nat) (vo : Nat → Int32) (np : Nat) (rp rl : Nat → Nat) (rc : Nat) (sb sa : Nat → Nat) (sz : Nat) (v : Int32) (j : Nat) (hj : 1 ≤ j ∧ j ≤ 4) (htl : tl + j ≤ 300) : Met l yX0_feed wsX0_feed ({ frames := 0, cells := 0, slots := 0, locals := 0 }) (kPre (dC, dI) vwCl (wB h a1 a2 a3 a4 a5 a6 cb ci tp tl vo np rp rl rc sb sa) (tB cb ci) sz [.ref h, .int v, .int (nI j)]) (kQi (dC, dI) vwCl (wB h a1 a2 a3 a4 a5 a6 cb ci tp tl vo np rp rl rc sb sa) (tB cb ci) sz (nI (tl + j)) (wB h a1 a2 a3 a4 a5 a6 cb ci (fdT tp tl v j) (tl + j) vo np rp rl rc sb sa)) 0 0 (va_A (wB h a1 a2 a3 a4 a5 a6 cb ci tp tl vo np rp rl rc sb sa) sz) := by
  refine kM_i (cc := cX0_feed) (maxL := 4) (by decide) rfl (Nat.le_of_ble_eq_true rfl) ?_
  intro p e s m below meth c A Q ls H locs S hP hK hD hS hA hl hret
  obtain ⟨hx, hb, hml, hown, hts⟩ := id S
  have hin0 : ∀ w ∈ u_ws RX0 TX0 9, w ∈ wsX0_feed := fun _ h => List.mem_cons_of_mem _ (List.mem_append_right _ h)
  have lkf29 := hts (.fieldLink RX0 29 "BlockTape" "tapeLength" "I") (by decide +kernel)
  have lkf9 := hts (.fieldLink RX0 9 "BlockTape" "tape" "[B") (by decide +kernel)
  have hl : lv_has ls 4 [(0, .ref h), (1, .int v), (2, .int (nI j))] := hl
  refine lv_iload_n hx hb dX0_feed_0 rfl (lv_at hl 2 rfl) ?_
  refine lv_iconst (v := nI 1) hx hb dX0_feed_1 (by decide) ?_
  refine lv_icmp_lt (tgt := 22) hx hb dX0_feed_2 (by decide) (fun c_2 => ?_) (fun c_2 => ?_)
  · have c_2 := (nI_ltI (by omega) (by omega)).mp c_2
    exfalso; omega
  · have c_2 := kmt (nI_ltI (by omega) (by omega)).mpr c_2
    refine lv_iload_n hx hb dX0_feed_5 rfl (lv_at hl 2 rfl) ?_
    refine lv_iconst (v := nI 4) hx hb dX0_feed_6 (by decide) ?_
    refine lv_icmp_gt (tgt := 22) hx hb dX0_feed_7 (by decide) (fun c_7 => ?_) (fun c_7 => ?_)
    · have c_7 := (nI_ltI (by omega) (by omega)).mp c_7
      exfalso; omega
    · have c_7 := kmt (nI_ltI (by omega) (by omega)).mpr c_7
      refine lv_iload_n hx hb dX0_feed_10 rfl (lv_at hl 2 rfl) ?_
      refine lv_sipush (v := nI 300) hx hb dX0_feed_11 (by decide) ?_
      refine lv_aload_n hx hb dX0_feed_14 rfl (lv_at hl 0 rfl) ?_
      refine va_get (D := (dC, dI)) (ci := 0) (v := .int (nI tl)) (C := RX0) (T := TX0) (N := 9) hx hb hts hin0 hown hK hP 0 rfl rfl 1 (by decide) lkf29 (fun _ h9 => h9) rfl dX0_feed_15 ?_
      refine lv_isub hx hb dX0_feed_18 ?_
      refine kv_top (show _ = nI (300 - tl) from pk_sub (by omega)) ?_
      refine lv_icmp_le (tgt := 24) hx hb dX0_feed_19 (by decide) (fun c_19 => ?_) (fun c_19 => ?_)
      · have c_19 := (nI_leI (by omega) (by omega)).mp c_19
        refine lv_iconst (v := nI 0) hx hb dX0_feed_24 (by decide) ?_
        refine lv_istore_n (lv' := [(3, .int (nI 0)), (0, .ref h), (1, .int v), (2, .int (nI j))]) hx hb dX0_feed_25 rfl hl (by decide) rfl (fun ls hl => ?_)
        have hloopk : ∀ (n k : Nat), k ≤ j → j + 1 ≤ k + n → ∀ (H : Heap) (locs : List Loc) (ls : Array Slot), va_P (dC, dI) vwCl (wB h a1 a2 a3 a4 a5 a6 cb ci (fdT tp tl v k) (tl + k) vo np rp rl rc sb sa) H → va_D A (wB h a1 a2 a3 a4 a5 a6 cb ci (fdT tp tl v k) (tl + k) vo np rp rl rc sb sa) → va_S A s.heap H locs → lv_has ls 4 [(3, .int (nI k)), (0, .ref h), (1, .int v), (2, .int (nI j))] → W p l e ({ frames := 0, cells := 0, slots := 0, locals := 0 }) s m ([.ref h, .int v, .int (nI j)] : List Value).toArray below meth c H locs 0 0 Q (F0 m 26 ls []) := by
          intro n
          induction n with
          | zero => intro k h1 h2; exact absurd h2 (by omega)
          | succ n ih =>
            intro k hkA hkB H locs ls hP hD hS hl
            refine lv_iload_n hx hb dX0_feed_26 rfl (lv_at hl 0 rfl) ?_
            refine lv_iload_n hx hb dX0_feed_27 rfl (lv_at hl 3 rfl) ?_
            refine lv_icmp_ge (tgt := 66) hx hb dX0_feed_28 (by decide) (fun c_28 => ?_) (fun c_28 => ?_)
            · have c_28 := (nI_leI (by omega) (by omega)).mp c_28
              have hkE : k = j := by omega
              subst hkE
              refine lv_aload_n hx hb dX0_feed_66 rfl (lv_at hl 1 rfl) ?_
              refine va_get (D := (dC, dI)) (ci := 0) (v := .int (nI (tl + k))) (C := RX0) (T := TX0) (N := 9) hx hb hts hin0 hown hK hP 0 rfl rfl 1 (by decide) lkf29 (fun _ h9 => h9) rfl dX0_feed_67 ?_
              exact hret _ _ _ _ hP hD hS dX0_feed_70
            · have c_28 := kmt (nI_leI (by omega) (by omega)).mpr c_28
              refine lv_aload_n hx hb dX0_feed_31 rfl (lv_at hl 1 rfl) ?_
              refine va_get (D := (dC, dI)) (ci := 0) (v := .ref a1) (C := RX0) (T := TX0) (N := 9) hx hb hts hin0 hown hK hP 0 rfl rfl 0 (by decide) lkf9 (fun _ h9 => h9) rfl dX0_feed_32 ?_
              refine lv_aload_n hx hb dX0_feed_35 rfl (lv_at hl 1 rfl) ?_
              refine va_get (D := (dC, dI)) (ci := 0) (v := .int (nI (tl + k))) (C := RX0) (T := TX0) (N := 9) hx hb hts hin0 hown hK hP 0 rfl rfl 1 (by decide) lkf29 (fun _ h9 => h9) rfl dX0_feed_36 ?_
              refine lv_iload_n hx hb dX0_feed_39 rfl (lv_at hl 2 rfl) ?_
              refine lv_bipush (v := nI 24) hx hb dX0_feed_40 (by decide) ?_
              refine lv_bipush (v := nI 8) hx hb dX0_feed_42 (by decide) ?_
              refine lv_iload_n hx hb dX0_feed_44 rfl (lv_at hl 0 rfl) ?_
              refine lv_imul hx hb dX0_feed_45 ?_
              refine kv_top (show _ = nI (8 * k) from pk_mul _ _) ?_
              refine lv_isub hx hb dX0_feed_46 ?_
              refine kv_top (show _ = nI (24 - (8 * k)) from pk_sub (by omega)) ?_
              refine lv_iushr (v := ush v (24 - (8 * k))) hx hb dX0_feed_47 rfl ?_
              refine lv_i2b (v := bn (ush v (24 - (8 * k)))) hx hb dX0_feed_48 rfl ?_
              refine ka_bast hx hb hK hP hD hS 1 0 rfl rfl (k := tl + k) (x := bn (ush v (24 - (8 * k)))) (by omega) (by decide) (pk_vb _) dX0_feed_49 (fun H locs hP hD hS => ?_)
              have hP : va_P (dC, dI) vwCl (wB h a1 a2 a3 a4 a5 a6 cb ci (upd (fdT tp tl v k) (tl + k) (bn (ush v (24 - (8 * k))))) (tl + k) vo np rp rl rc sb sa) H := hP
              have hD : va_D A (wB h a1 a2 a3 a4 a5 a6 cb ci (upd (fdT tp tl v k) (tl + k) (bn (ush v (24 - (8 * k))))) (tl + k) vo np rp rl rc sb sa) := hD
              refine lv_aload_n hx hb dX0_feed_50 rfl (lv_at hl 1 rfl) ?_
              refine lv_dup hx hb dX0_feed_51 rfl ?_
              refine va_get (D := (dC, dI)) (ci := 0) (v := .int (nI (tl + k))) (C := RX0) (T := TX0) (N := 9) hx hb hts hin0 hown hK hP 0 rfl rfl 1 (by decide) lkf29 (fun _ h9 => h9) rfl dX0_feed_52 ?_
              refine lv_iconst (v := nI 1) hx hb dX0_feed_55 (by decide) ?_
              refine lv_iadd hx hb dX0_feed_56 ?_
              refine kv_top (show _ = nI ((tl + k) + 1) from nI_add _ _) ?_
              refine va_put (D := (dC, dI)) (ci := 0) (v := .int (nI ((tl + k) + 1))) (ty := .int) (C := RX0) (T := TX0) (N := 9) hx hb hts hin0 tyX0 tyX0_ok nmX0 hown hK hP hD hS 0 rfl rfl 1 (by decide) lkf29 (fun _ h9 => h9) rfl (by decide +kernel) rfl rfl (Nat.le_of_ble_eq_true rfl) dX0_feed_57 (fun H locs hP hD hS => ?_)
              have hP : va_P (dC, dI) vwCl (wB h a1 a2 a3 a4 a5 a6 cb ci (upd (fdT tp tl v k) (tl + k) (bn (ush v (24 - (8 * k))))) ((tl + k) + 1) vo np rp rl rc sb sa) H := hP
              have hD : va_D A (wB h a1 a2 a3 a4 a5 a6 cb ci (upd (fdT tp tl v k) (tl + k) (bn (ush v (24 - (8 * k))))) ((tl + k) + 1) vo np rp rl rc sb sa) := hD
              refine lv_iinc (v := nI (k + 1)) (lv' := [(3, .int (nI (k + 1))), (0, .ref h), (1, .int v), (2, .int (nI j))]) hx hb dX0_feed_60 hl (k := 0) rfl (ki_inc _) (by decide) rfl (fun ls hl => ?_)
              refine lv_goto (tgt := 26) hx hb dX0_feed_63 (by decide) ?_
              have hP : va_P (dC, dI) vwCl (wB h a1 a2 a3 a4 a5 a6 cb ci (fdT tp tl v (k + 1)) (tl + (k + 1)) vo np rp rl rc sb sa) H := hP
              have hD : va_D A (wB h a1 a2 a3 a4 a5 a6 cb ci (fdT tp tl v (k + 1)) (tl + (k + 1)) vo np rp rl rc sb sa) := hD
              exact ih (k + 1) (by omega) (by omega) _ _ _ hP hD hS (lv_sub hl [0, 1, 2, 3] rfl)
        have hP : va_P (dC, dI) vwCl (wB h a1 a2 a3 a4 a5 a6 cb ci (fdT tp tl v (0)) (tl + (0)) vo np rp rl rc sb sa) H := hP
        have hD : va_D A (wB h a1 a2 a3 a4 a5 a6 cb ci (fdT tp tl v (0)) (tl + (0)) vo np rp rl rc sb sa) := hD
        exact hloopk (j + 1) 0 (by omega) (by omega) _ _ _ hP hD hS (lv_sub hl [0, 1, 2, 3] rfl)
      · have c_19 := kmt (nI_leI (by omega) (by omega)).mpr c_19
        exfalso; omega
set_option maxHeartbeats 4000000 in
set_option maxRecDepth 100000 in
theorem c_feedN (l : Launch) (dC : Nat → ClassId) (dI : Nat → Nat → Nat) (h a1 a2 a3 a4 a5 a6 : Nat) (cb ci : ClassId) (tp : Nat → Int32) (tl : Nat) (vo : Nat → Int32) (np : Nat) (rp rl : Nat → Nat) (rc : Nat) (sb sa : Nat → Nat) (sz : Nat) (v : Int32) (x : Int32) (htl : tl ≤ 300) (hno : ¬ (1 ≤ x.toInt ∧ x.toInt ≤ 4 ∧ tl + x.toInt ≤ 300)) : Met l yX0_feed wsX0_feed ({ frames := 0, cells := 0, slots := 0, locals := 0 }) (kPre (dC, dI) vwCl (wB h a1 a2 a3 a4 a5 a6 cb ci tp tl vo np rp rl rc sb sa) (tB cb ci) sz [.ref h, .int v, .int x]) (kQi (dC, dI) vwCl (wB h a1 a2 a3 a4 a5 a6 cb ci tp tl vo np rp rl rc sb sa) (tB cb ci) sz ((-1)) (wB h a1 a2 a3 a4 a5 a6 cb ci tp tl vo np rp rl rc sb sa)) 0 0 (va_A (wB h a1 a2 a3 a4 a5 a6 cb ci tp tl vo np rp rl rc sb sa) sz) := by
  refine kM_i (cc := cX0_feed) (maxL := 4) (by decide) rfl (Nat.le_of_ble_eq_true rfl) ?_
  intro p e s m below meth c A Q ls H locs S hP hK hD hS hA hl hret
  obtain ⟨hx, hb, hml, hown, hts⟩ := id S
  have hin0 : ∀ w ∈ u_ws RX0 TX0 9, w ∈ wsX0_feed := fun _ h => List.mem_cons_of_mem _ (List.mem_append_right _ h)
  have lkf29 := hts (.fieldLink RX0 29 "BlockTape" "tapeLength" "I") (by decide +kernel)
  have hl : lv_has ls 4 [(0, .ref h), (1, .int v), (2, .int x)] := hl
  refine lv_iload_n hx hb dX0_feed_0 rfl (lv_at hl 2 rfl) ?_
  refine lv_iconst (v := nI 1) hx hb dX0_feed_1 (by decide) ?_
  refine lv_icmp_lt (tgt := 22) hx hb dX0_feed_2 (by decide) (fun c_2 => ?_) (fun c_2 => ?_)
  · have c_2 := (kx_lt (by omega)).mp c_2
    refine lv_iconst (v := (-1)) hx hb dX0_feed_22 (by decide) ?_
    exact hret _ _ _ _ hP hD hS dX0_feed_23
  · have c_2 := kmt (kx_lt (by omega)).mpr c_2
    refine lv_iload_n hx hb dX0_feed_5 rfl (lv_at hl 2 rfl) ?_
    refine lv_iconst (v := nI 4) hx hb dX0_feed_6 (by decide) ?_
    refine lv_icmp_gt (tgt := 22) hx hb dX0_feed_7 (by decide) (fun c_7 => ?_) (fun c_7 => ?_)
    · have c_7 := (kx_gt (by omega)).mp c_7
      refine lv_iconst (v := (-1)) hx hb dX0_feed_22 (by decide) ?_
      exact hret _ _ _ _ hP hD hS dX0_feed_23
    · have c_7 := kmt (kx_gt (by omega)).mpr c_7
      refine lv_iload_n hx hb dX0_feed_10 rfl (lv_at hl 2 rfl) ?_
      refine lv_sipush (v := nI 300) hx hb dX0_feed_11 (by decide) ?_
      refine lv_aload_n hx hb dX0_feed_14 rfl (lv_at hl 0 rfl) ?_
      refine va_get (D := (dC, dI)) (ci := 0) (v := .int (nI tl)) (C := RX0) (T := TX0) (N := 9) hx hb hts hin0 hown hK hP 0 rfl rfl 1 (by decide) lkf29 (fun _ h9 => h9) rfl dX0_feed_15 ?_
      refine lv_isub hx hb dX0_feed_18 ?_
      refine kv_top (show _ = nI (300 - tl) from pk_sub (by omega)) ?_
      refine lv_icmp_le (tgt := 24) hx hb dX0_feed_19 (by decide) (fun c_19 => ?_) (fun c_19 => ?_)
      · have c_19 := (kx_le (by omega)).mp c_19
        exfalso; omega
      · have c_19 := kmt (kx_le (by omega)).mpr c_19
        refine lv_iconst (v := (-1)) hx hb dX0_feed_22 (by decide) ?_
        exact hret _ _ _ _ hP hD hS dX0_feed_23
set_option maxHeartbeats 4000000 in
set_option maxRecDepth 100000 in
theorem c_put (l : Launch) (dC : Nat → ClassId) (dI : Nat → Nat → Nat) (h a1 a2 a3 a4 a5 a6 : Nat) (cb ci : ClassId) (tp : Nat → Int32) (tl : Nat) (vo : Nat → Int32) (np : Nat) (rp rl : Nat → Nat) (rc : Nat) (sb sa : Nat → Nat) (sz : Nat) (sv : Int32) (iv : Int32) (htl : tl ≤ 300) (hnp : np ≤ 4480) (hrc : rc ≤ 200) (hs : 0 ≤ sv.toInt ∧ sv.toInt ≤ 255) (hi : 0 ≤ iv.toInt ∧ iv.toInt ≤ 65535) (hroom : rc < 200 ∧ np + 6 + tl ≤ 4480) : Met l yX0_put wsX0_put ({ frames := 5, cells := 0, slots := 0, locals := 117 }) (kPre (dC, dI) vwCl (wB h a1 a2 a3 a4 a5 a6 cb ci tp tl vo np rp rl rc sb sa) (tB cb ci) sz [.ref h, .int sv, .int iv]) (kQi (dC, dI) vwCl (wB h a1 a2 a3 a4 a5 a6 cb ci tp tl vo np rp rl rc sb sa) (tB cb ci) sz (nI rc) (wB h a1 a2 a3 a4 a5 a6 cb ci tp 0 (apR (ntB vo np) np sv iv tp tl) (np + 6 + tl) (updN rp rc np) (updN rl rc (6 + tl)) (rc + 1) sb sa)) 0 0 (va_A (wB h a1 a2 a3 a4 a5 a6 cb ci tp tl vo np rp rl rc sb sa) sz) := by
  refine kM_i (cc := cX0_put) (maxL := 4) (by decide) rfl (Nat.le_of_ble_eq_true rfl) ?_
  intro p e s m below meth c A Q ls H locs S hP hK hD hS hA hl hret
  obtain ⟨hx, hb, hml, hown, hts⟩ := id S
  have hin0 : ∀ w ∈ u_ws RX0 TX0 9, w ∈ wsX0_put := fun _ h => List.mem_cons_of_mem _ (List.mem_append_right _ h)
  have lkc33 := hts (.constant RX0 33 (65535)) (by decide +kernel)
  have lkf29 := hts (.fieldLink RX0 29 "BlockTape" "tapeLength" "I") (by decide +kernel)
  have lkf34 := hts (.fieldLink RX0 34 "BlockTape" "records" "I") (by decide +kernel)
  have lkf16 := hts (.fieldLink RX0 16 "BlockTape" "rowPlace" "[I") (by decide +kernel)
  have lkf44 := hts (.fieldLink RX0 44 "BlockTape" "nextPlace" "I") (by decide +kernel)
  have lkf20 := hts (.fieldLink RX0 20 "BlockTape" "rowLength" "[I") (by decide +kernel)
  have hl : lv_has ls 4 [(0, .ref h), (1, .int sv), (2, .int iv)] := hl
  refine lv_iload_n hx hb dX0_put_0 rfl (lv_at hl 1 rfl) ?_
  refine lv_if_lt (tgt := 21) hx hb dX0_put_1 (by decide) (fun c_1 => ?_) (fun c_1 => ?_)
  · have c_1 := (kx_lt0).mp c_1
    exfalso; omega
  · have c_1 := kmt (kx_lt0).mpr c_1
    refine lv_iload_n hx hb dX0_put_4 rfl (lv_at hl 1 rfl) ?_
    refine lv_sipush (v := nI 255) hx hb dX0_put_5 (by decide) ?_
    refine lv_icmp_gt (tgt := 21) hx hb dX0_put_8 (by decide) (fun c_8 => ?_) (fun c_8 => ?_)
    · have c_8 := (kx_gt (by omega)).mp c_8
      exfalso; omega
    · have c_8 := kmt (kx_gt (by omega)).mpr c_8
      refine lv_iload_n hx hb dX0_put_11 rfl (lv_at hl 2 rfl) ?_
      refine lv_if_lt (tgt := 21) hx hb dX0_put_12 (by decide) (fun c_12 => ?_) (fun c_12 => ?_)
      · have c_12 := (kx_lt0).mp c_12
        exfalso; omega
      · have c_12 := kmt (kx_lt0).mpr c_12
        refine lv_iload_n hx hb dX0_put_15 rfl (lv_at hl 2 rfl) ?_
        refine lv_ldc (v := nI 65535) hx hb hown lkc33 dX0_put_16 ?_
        refine lv_icmp_le (tgt := 23) hx hb dX0_put_18 (by decide) (fun c_18 => ?_) (fun c_18 => ?_)
        · have c_18 := (kx_le (by omega)).mp c_18
          refine lv_bipush (v := nI 6) hx hb dX0_put_23 (by decide) ?_
          refine lv_aload_n hx hb dX0_put_25 rfl (lv_at hl 0 rfl) ?_
          refine va_get (D := (dC, dI)) (ci := 0) (v := .int (nI tl)) (C := RX0) (T := TX0) (N := 9) hx hb hts hin0 hown hK hP 0 rfl rfl 1 (by decide) lkf29 (fun _ h9 => h9) rfl dX0_put_26 ?_
          refine lv_iadd hx hb dX0_put_29 ?_
          refine kv_top (show _ = nI (6 + tl) from nI_add _ _) ?_
          refine lv_istore_n (lv' := [(3, .int (nI (6 + tl))), (0, .ref h), (1, .int sv), (2, .int iv)]) hx hb dX0_put_30 rfl hl (by decide) rfl (fun ls hl => ?_)
          refine lv_aload_n hx hb dX0_put_31 rfl (lv_at hl 1 rfl) ?_
          refine va_get (D := (dC, dI)) (ci := 0) (v := .int (nI rc)) (C := RX0) (T := TX0) (N := 9) hx hb hts hin0 hown hK hP 0 rfl rfl 6 (by decide) lkf34 (fun _ h9 => h9) rfl dX0_put_32 ?_
          refine lv_sipush (v := nI 200) hx hb dX0_put_35 (by decide) ?_
          refine lv_icmp_ge (tgt := 49) hx hb dX0_put_38 (by decide) (fun c_38 => ?_) (fun c_38 => ?_)
          · have c_38 := (nI_leI (by omega) (by omega)).mp c_38
            exfalso; omega
          · have c_38 := kmt (nI_leI (by omega) (by omega)).mpr c_38
            refine lv_iload_n hx hb dX0_put_41 rfl (lv_at hl 0 rfl) ?_
            refine lv_aload_n hx hb dX0_put_42 rfl (lv_at hl 1 rfl) ?_
            refine kc_vi (WR := []) (As := []) (rest := [.int (nI (6 + tl))]) ⟨hx, hb, hml, hown, hts⟩ (c_placesLeft l dC dI h a1 a2 a3 a4 a5 a6 cb ci tp tl vo np rp rl rc sb sa H.size (by omega)) (cwV 0 hts gX0_put_X0_placesLeft rfl rfl rfl (by decide +kernel) ⟨Nat.le_of_ble_eq_true rfl, Nat.le_of_ble_eq_true rfl⟩) hK hP hD hS hA [0, 1, 2, 3, 4, 5, 6] [] [0, 1] rfl rfl (by decide) (by decide) (by decide) rfl 0 0 rfl rfl rfl rfl hl.1 rfl (Nat.le_of_ble_eq_true rfl) dX0_put_43 ⟨Nat.zero_le _, Nat.zero_le _⟩ (fun H locs hP hD hS => ?_)
            have hP : va_P (dC, dI) vwCl (wB h a1 a2 a3 a4 a5 a6 cb ci tp tl vo np rp rl rc sb sa) H := hP
            have hD : va_D A (wB h a1 a2 a3 a4 a5 a6 cb ci tp tl vo np rp rl rc sb sa) := hD
            refine lv_icmp_le (tgt := 51) hx hb dX0_put_46 (by decide) (fun c_46 => ?_) (fun c_46 => ?_)
            · have c_46 := (nI_leI (by omega) (by omega)).mp c_46
              refine lv_aload_n hx hb dX0_put_51 rfl (lv_at hl 1 rfl) ?_
              refine kc_vv (WR := []) (As := []) (rest := []) ⟨hx, hb, hml, hown, hts⟩ (c_noteBeginning l dC dI h a1 a2 a3 a4 a5 a6 cb ci tp tl vo np rp rl rc sb sa H.size (by omega)) (cwV 0 hts gX0_put_X0_noteBeginning rfl rfl rfl (by decide +kernel) ⟨Nat.le_of_ble_eq_true rfl, Nat.le_of_ble_eq_true rfl⟩) hK hP hD hS hA [0, 1, 2, 3, 4, 5, 6] [] [0, 1] rfl rfl (by decide) (by decide) (by decide) rfl 0 0 rfl rfl rfl rfl hl.1 rfl (Nat.le_of_ble_eq_true rfl) dX0_put_52 ⟨Nat.zero_le _, Nat.zero_le _⟩ (fun H locs hP hD hS => ?_)
              have hP : va_P (dC, dI) vwCl (wB h a1 a2 a3 a4 a5 a6 cb ci tp tl (ntB vo np) np rp rl rc sb sa) H := hP
              have hD : va_D A (wB h a1 a2 a3 a4 a5 a6 cb ci tp tl (ntB vo np) np rp rl rc sb sa) := hD
              refine lv_aload_n hx hb dX0_put_55 rfl (lv_at hl 1 rfl) ?_
              refine va_get (D := (dC, dI)) (ci := 0) (v := .ref a3) (C := RX0) (T := TX0) (N := 9) hx hb hts hin0 hown hK hP 0 rfl rfl 4 (by decide) lkf16 (fun _ h9 => h9) rfl dX0_put_56 ?_
              refine lv_aload_n hx hb dX0_put_59 rfl (lv_at hl 1 rfl) ?_
              refine va_get (D := (dC, dI)) (ci := 0) (v := .int (nI rc)) (C := RX0) (T := TX0) (N := 9) hx hb hts hin0 hown hK hP 0 rfl rfl 6 (by decide) lkf34 (fun _ h9 => h9) rfl dX0_put_60 ?_
              refine lv_aload_n hx hb dX0_put_63 rfl (lv_at hl 1 rfl) ?_
              refine va_get (D := (dC, dI)) (ci := 0) (v := .int (nI np)) (C := RX0) (T := TX0) (N := 9) hx hb hts hin0 hown hK hP 0 rfl rfl 3 (by decide) lkf44 (fun _ h9 => h9) rfl dX0_put_64 ?_
              refine ka_iastN hx hb hK hP hD hS 3 1 rfl rfl (k := rc) (x := np) (by omega) (by decide) dX0_put_67 (fun H locs hP hD hS => ?_)
              have hP : va_P (dC, dI) vwCl (wB h a1 a2 a3 a4 a5 a6 cb ci tp tl (ntB vo np) np (updN rp rc np) rl rc sb sa) H := hP
              have hD : va_D A (wB h a1 a2 a3 a4 a5 a6 cb ci tp tl (ntB vo np) np (updN rp rc np) rl rc sb sa) := hD
              refine lv_aload_n hx hb dX0_put_68 rfl (lv_at hl 1 rfl) ?_
              refine va_get (D := (dC, dI)) (ci := 0) (v := .ref a4) (C := RX0) (T := TX0) (N := 9) hx hb hts hin0 hown hK hP 0 rfl rfl 5 (by decide) lkf20 (fun _ h9 => h9) rfl dX0_put_69 ?_
              refine lv_aload_n hx hb dX0_put_72 rfl (lv_at hl 1 rfl) ?_
              refine va_get (D := (dC, dI)) (ci := 0) (v := .int (nI rc)) (C := RX0) (T := TX0) (N := 9) hx hb hts hin0 hown hK hP 0 rfl rfl 6 (by decide) lkf34 (fun _ h9 => h9) rfl dX0_put_73 ?_
              refine lv_iload_n hx hb dX0_put_76 rfl (lv_at hl 0 rfl) ?_
              refine ka_iastN hx hb hK hP hD hS 4 1 rfl rfl (k := rc) (x := 6 + tl) (by omega) (by decide) dX0_put_77 (fun H locs hP hD hS => ?_)
              have hP : va_P (dC, dI) vwCl (wB h a1 a2 a3 a4 a5 a6 cb ci tp tl (ntB vo np) np (updN rp rc np) (updN rl rc (6 + tl)) rc sb sa) H := hP
              have hD : va_D A (wB h a1 a2 a3 a4 a5 a6 cb ci tp tl (ntB vo np) np (updN rp rc np) (updN rl rc (6 + tl)) rc sb sa) := hD
              refine lv_aload_n hx hb dX0_put_78 rfl (lv_at hl 1 rfl) ?_
              refine lv_iload_n hx hb dX0_put_79 rfl (lv_at hl 2 rfl) ?_
              refine lv_iload_n hx hb dX0_put_80 rfl (lv_at hl 3 rfl) ?_
              refine kc_vv (WR := []) (As := [.int sv, .int iv]) (rest := []) ⟨hx, hb, hml, hown, hts⟩ (c_appendRow l dC dI h a1 a2 a3 a4 a5 a6 cb ci tp tl (ntB vo np) np (updN rp rc np) (updN rl rc (6 + tl)) rc sb sa H.size sv iv (by omega) (by omega)) (cwV 2 hts gX0_put_X0_appendRow rfl rfl rfl (by decide +kernel) ⟨Nat.le_of_ble_eq_true rfl, Nat.le_of_ble_eq_true rfl⟩) hK hP hD hS hA [0, 1, 2, 3, 4, 5, 6] [] [0, 1] rfl rfl (by decide) (by decide) (by decide) rfl 0 0 rfl rfl rfl rfl hl.1 rfl (Nat.le_of_ble_eq_true rfl) dX0_put_81 ⟨Nat.zero_le _, Nat.zero_le _⟩ (fun H locs hP hD hS => ?_)
              have hP : va_P (dC, dI) vwCl (wB h a1 a2 a3 a4 a5 a6 cb ci tp tl (apR (ntB vo np) np sv iv tp tl) (np + 6 + tl) (updN rp rc np) (updN rl rc (6 + tl)) rc sb sa) H := hP
              have hD : va_D A (wB h a1 a2 a3 a4 a5 a6 cb ci tp tl (apR (ntB vo np) np sv iv tp tl) (np + 6 + tl) (updN rp rc np) (updN rl rc (6 + tl)) rc sb sa) := hD
              refine lv_aload_n hx hb dX0_put_84 rfl (lv_at hl 1 rfl) ?_
              refine lv_iconst (v := nI 0) hx hb dX0_put_85 (by decide) ?_
              refine va_put (D := (dC, dI)) (ci := 0) (v := .int (nI 0)) (ty := .int) (C := RX0) (T := TX0) (N := 9) hx hb hts hin0 tyX0 tyX0_ok nmX0 hown hK hP hD hS 0 rfl rfl 1 (by decide) lkf29 (fun _ h9 => h9) rfl (by decide +kernel) rfl rfl (Nat.le_of_ble_eq_true rfl) dX0_put_86 (fun H locs hP hD hS => ?_)
              have hP : va_P (dC, dI) vwCl (wB h a1 a2 a3 a4 a5 a6 cb ci tp 0 (apR (ntB vo np) np sv iv tp tl) (np + 6 + tl) (updN rp rc np) (updN rl rc (6 + tl)) rc sb sa) H := hP
              have hD : va_D A (wB h a1 a2 a3 a4 a5 a6 cb ci tp 0 (apR (ntB vo np) np sv iv tp tl) (np + 6 + tl) (updN rp rc np) (updN rl rc (6 + tl)) rc sb sa) := hD
              refine lv_aload_n hx hb dX0_put_89 rfl (lv_at hl 1 rfl) ?_
              refine lv_dup hx hb dX0_put_90 rfl ?_
              refine va_get (D := (dC, dI)) (ci := 0) (v := .int (nI rc)) (C := RX0) (T := TX0) (N := 9) hx hb hts hin0 hown hK hP 0 rfl rfl 6 (by decide) lkf34 (fun _ h9 => h9) rfl dX0_put_91 ?_
              refine lv_iconst (v := nI 1) hx hb dX0_put_94 (by decide) ?_
              refine lv_iadd hx hb dX0_put_95 ?_
              refine kv_top (show _ = nI (rc + 1) from nI_add _ _) ?_
              refine va_put (D := (dC, dI)) (ci := 0) (v := .int (nI (rc + 1))) (ty := .int) (C := RX0) (T := TX0) (N := 9) hx hb hts hin0 tyX0 tyX0_ok nmX0 hown hK hP hD hS 0 rfl rfl 6 (by decide) lkf34 (fun _ h9 => h9) rfl (by decide +kernel) rfl rfl (Nat.le_of_ble_eq_true rfl) dX0_put_96 (fun H locs hP hD hS => ?_)
              have hP : va_P (dC, dI) vwCl (wB h a1 a2 a3 a4 a5 a6 cb ci tp 0 (apR (ntB vo np) np sv iv tp tl) (np + 6 + tl) (updN rp rc np) (updN rl rc (6 + tl)) (rc + 1) sb sa) H := hP
              have hD : va_D A (wB h a1 a2 a3 a4 a5 a6 cb ci tp 0 (apR (ntB vo np) np sv iv tp tl) (np + 6 + tl) (updN rp rc np) (updN rl rc (6 + tl)) (rc + 1) sb sa) := hD
              refine lv_aload_n hx hb dX0_put_99 rfl (lv_at hl 1 rfl) ?_
              refine va_get (D := (dC, dI)) (ci := 0) (v := .int (nI (rc + 1))) (C := RX0) (T := TX0) (N := 9) hx hb hts hin0 hown hK hP 0 rfl rfl 6 (by decide) lkf34 (fun _ h9 => h9) rfl dX0_put_100 ?_
              refine lv_iconst (v := nI 1) hx hb dX0_put_103 (by decide) ?_
              refine lv_isub hx hb dX0_put_104 ?_
              refine kv_top (show _ = nI ((rc + 1) - 1) from pk_sub (by omega)) ?_
              refine kv_top (show _ = nI rc from rfl) ?_
              exact hret _ _ _ _ hP hD hS dX0_put_105
            · have c_46 := kmt (nI_leI (by omega) (by omega)).mpr c_46
              exfalso; omega
        · have c_18 := kmt (kx_le (by omega)).mpr c_18
          exfalso; omega
set_option maxHeartbeats 4000000 in
set_option maxRecDepth 100000 in
theorem c_putN (l : Launch) (dC : Nat → ClassId) (dI : Nat → Nat → Nat) (h a1 a2 a3 a4 a5 a6 : Nat) (cb ci : ClassId) (tp : Nat → Int32) (tl : Nat) (vo : Nat → Int32) (np : Nat) (rp rl : Nat → Nat) (rc : Nat) (sb sa : Nat → Nat) (sz : Nat) (sv : Int32) (iv : Int32) (htl : tl ≤ 300) (hnp : np ≤ 4480) (hrc : rc ≤ 200) (hno : ¬ (0 ≤ sv.toInt ∧ sv.toInt ≤ 255 ∧ 0 ≤ iv.toInt ∧ iv.toInt ≤ 65535 ∧ rc < 200 ∧ np + 6 + tl ≤ 4480)) : Met l yX0_put wsX0_put ({ frames := 5, cells := 0, slots := 0, locals := 117 }) (kPre (dC, dI) vwCl (wB h a1 a2 a3 a4 a5 a6 cb ci tp tl vo np rp rl rc sb sa) (tB cb ci) sz [.ref h, .int sv, .int iv]) (kQi (dC, dI) vwCl (wB h a1 a2 a3 a4 a5 a6 cb ci tp tl vo np rp rl rc sb sa) (tB cb ci) sz ((-1)) (wB h a1 a2 a3 a4 a5 a6 cb ci tp tl vo np rp rl rc sb sa)) 0 0 (va_A (wB h a1 a2 a3 a4 a5 a6 cb ci tp tl vo np rp rl rc sb sa) sz) := by
  refine kM_i (cc := cX0_put) (maxL := 4) (by decide) rfl (Nat.le_of_ble_eq_true rfl) ?_
  intro p e s m below meth c A Q ls H locs S hP hK hD hS hA hl hret
  obtain ⟨hx, hb, hml, hown, hts⟩ := id S
  have hin0 : ∀ w ∈ u_ws RX0 TX0 9, w ∈ wsX0_put := fun _ h => List.mem_cons_of_mem _ (List.mem_append_right _ h)
  have lkc33 := hts (.constant RX0 33 (65535)) (by decide +kernel)
  have lkf29 := hts (.fieldLink RX0 29 "BlockTape" "tapeLength" "I") (by decide +kernel)
  have lkf34 := hts (.fieldLink RX0 34 "BlockTape" "records" "I") (by decide +kernel)
  have hl : lv_has ls 4 [(0, .ref h), (1, .int sv), (2, .int iv)] := hl
  refine lv_iload_n hx hb dX0_put_0 rfl (lv_at hl 1 rfl) ?_
  refine lv_if_lt (tgt := 21) hx hb dX0_put_1 (by decide) (fun c_1 => ?_) (fun c_1 => ?_)
  · have c_1 := (kx_lt0).mp c_1
    refine lv_iconst (v := (-1)) hx hb dX0_put_21 (by decide) ?_
    exact hret _ _ _ _ hP hD hS dX0_put_22
  · have c_1 := kmt (kx_lt0).mpr c_1
    refine lv_iload_n hx hb dX0_put_4 rfl (lv_at hl 1 rfl) ?_
    refine lv_sipush (v := nI 255) hx hb dX0_put_5 (by decide) ?_
    refine lv_icmp_gt (tgt := 21) hx hb dX0_put_8 (by decide) (fun c_8 => ?_) (fun c_8 => ?_)
    · have c_8 := (kx_gt (by omega)).mp c_8
      refine lv_iconst (v := (-1)) hx hb dX0_put_21 (by decide) ?_
      exact hret _ _ _ _ hP hD hS dX0_put_22
    · have c_8 := kmt (kx_gt (by omega)).mpr c_8
      refine lv_iload_n hx hb dX0_put_11 rfl (lv_at hl 2 rfl) ?_
      refine lv_if_lt (tgt := 21) hx hb dX0_put_12 (by decide) (fun c_12 => ?_) (fun c_12 => ?_)
      · have c_12 := (kx_lt0).mp c_12
        refine lv_iconst (v := (-1)) hx hb dX0_put_21 (by decide) ?_
        exact hret _ _ _ _ hP hD hS dX0_put_22
      · have c_12 := kmt (kx_lt0).mpr c_12
        refine lv_iload_n hx hb dX0_put_15 rfl (lv_at hl 2 rfl) ?_
        refine lv_ldc (v := nI 65535) hx hb hown lkc33 dX0_put_16 ?_
        refine lv_icmp_le (tgt := 23) hx hb dX0_put_18 (by decide) (fun c_18 => ?_) (fun c_18 => ?_)
        · have c_18 := (kx_le (by omega)).mp c_18
          refine lv_bipush (v := nI 6) hx hb dX0_put_23 (by decide) ?_
          refine lv_aload_n hx hb dX0_put_25 rfl (lv_at hl 0 rfl) ?_
          refine va_get (D := (dC, dI)) (ci := 0) (v := .int (nI tl)) (C := RX0) (T := TX0) (N := 9) hx hb hts hin0 hown hK hP 0 rfl rfl 1 (by decide) lkf29 (fun _ h9 => h9) rfl dX0_put_26 ?_
          refine lv_iadd hx hb dX0_put_29 ?_
          refine kv_top (show _ = nI (6 + tl) from nI_add _ _) ?_
          refine lv_istore_n (lv' := [(3, .int (nI (6 + tl))), (0, .ref h), (1, .int sv), (2, .int iv)]) hx hb dX0_put_30 rfl hl (by decide) rfl (fun ls hl => ?_)
          refine lv_aload_n hx hb dX0_put_31 rfl (lv_at hl 1 rfl) ?_
          refine va_get (D := (dC, dI)) (ci := 0) (v := .int (nI rc)) (C := RX0) (T := TX0) (N := 9) hx hb hts hin0 hown hK hP 0 rfl rfl 6 (by decide) lkf34 (fun _ h9 => h9) rfl dX0_put_32 ?_
          refine lv_sipush (v := nI 200) hx hb dX0_put_35 (by decide) ?_
          refine lv_icmp_ge (tgt := 49) hx hb dX0_put_38 (by decide) (fun c_38 => ?_) (fun c_38 => ?_)
          · have c_38 := (nI_leI (by omega) (by omega)).mp c_38
            refine lv_iconst (v := (-1)) hx hb dX0_put_49 (by decide) ?_
            exact hret _ _ _ _ hP hD hS dX0_put_50
          · have c_38 := kmt (nI_leI (by omega) (by omega)).mpr c_38
            refine lv_iload_n hx hb dX0_put_41 rfl (lv_at hl 0 rfl) ?_
            refine lv_aload_n hx hb dX0_put_42 rfl (lv_at hl 1 rfl) ?_
            refine kc_vi (WR := []) (As := []) (rest := [.int (nI (6 + tl))]) ⟨hx, hb, hml, hown, hts⟩ (c_placesLeft l dC dI h a1 a2 a3 a4 a5 a6 cb ci tp tl vo np rp rl rc sb sa H.size (by omega)) (cwV 0 hts gX0_put_X0_placesLeft rfl rfl rfl (by decide +kernel) ⟨Nat.le_of_ble_eq_true rfl, Nat.le_of_ble_eq_true rfl⟩) hK hP hD hS hA [0, 1, 2, 3, 4, 5, 6] [] [0, 1] rfl rfl (by decide) (by decide) (by decide) rfl 0 0 rfl rfl rfl rfl hl.1 rfl (Nat.le_of_ble_eq_true rfl) dX0_put_43 ⟨Nat.zero_le _, Nat.zero_le _⟩ (fun H locs hP hD hS => ?_)
            have hP : va_P (dC, dI) vwCl (wB h a1 a2 a3 a4 a5 a6 cb ci tp tl vo np rp rl rc sb sa) H := hP
            have hD : va_D A (wB h a1 a2 a3 a4 a5 a6 cb ci tp tl vo np rp rl rc sb sa) := hD
            refine lv_icmp_le (tgt := 51) hx hb dX0_put_46 (by decide) (fun c_46 => ?_) (fun c_46 => ?_)
            · have c_46 := (nI_leI (by omega) (by omega)).mp c_46
              exfalso; omega
            · have c_46 := kmt (nI_leI (by omega) (by omega)).mpr c_46
              refine lv_iconst (v := (-1)) hx hb dX0_put_49 (by decide) ?_
              exact hret _ _ _ _ hP hD hS dX0_put_50
        · have c_18 := kmt (kx_le (by omega)).mpr c_18
          refine lv_iconst (v := (-1)) hx hb dX0_put_21 (by decide) ?_
          exact hret _ _ _ _ hP hD hS dX0_put_22
set_option maxHeartbeats 4000000 in
set_option maxRecDepth 100000 in
theorem c_close (l : Launch) (dC : Nat → ClassId) (dI : Nat → Nat → Nat) (h a1 a2 a3 a4 a5 a6 : Nat) (cb ci : ClassId) (tp : Nat → Int32) (tl : Nat) (vo : Nat → Int32) (np : Nat) (rp rl : Nat → Nat) (rc : Nat) (sb sa : Nat → Nat) (sz : Nat) (hnp : np ≤ 4480) (hu : np % 56 ≠ 0) : Met l yX0_close wsX0_close ({ frames := 3, cells := 0, slots := 0, locals := 73 }) (kPre (dC, dI) vwCl (wB h a1 a2 a3 a4 a5 a6 cb ci tp tl vo np rp rl rc sb sa) (tB cb ci) sz [.ref h]) (kQi (dC, dI) vwCl (wB h a1 a2 a3 a4 a5 a6 cb ci tp tl vo np rp rl rc sb sa) (tB cb ci) sz (nI 1) (wB h a1 a2 a3 a4 a5 a6 cb ci tp tl (wbV vo (np / 56) (np % 56)) (np + (56 - np % 56)) rp rl rc sb sa)) 0 0 (va_A (wB h a1 a2 a3 a4 a5 a6 cb ci tp tl vo np rp rl rc sb sa) sz) := by
  refine kM_z (cc := cX0_close) (maxL := 2) (by decide) rfl (Nat.le_of_ble_eq_true rfl) (rfl) ?_
  intro p e s m below meth c A Q ls H locs S hP hK hD hS hA hl hret
  obtain ⟨hx, hb, hml, hown, hts⟩ := id S
  have hin0 : ∀ w ∈ u_ws RX0 TX0 9, w ∈ wsX0_close := fun _ h => List.mem_cons_of_mem _ (List.mem_append_right _ h)
  have lkf44 := hts (.fieldLink RX0 44 "BlockTape" "nextPlace" "I") (by decide +kernel)
  have hl : lv_has ls 2 [(0, .ref h)] := hl
  refine lv_aload_n hx hb dX0_close_0 rfl (lv_at hl 0 rfl) ?_
  refine va_get (D := (dC, dI)) (ci := 0) (v := .int (nI np)) (C := RX0) (T := TX0) (N := 9) hx hb hts hin0 hown hK hP 0 rfl rfl 3 (by decide) lkf44 (fun _ h9 => h9) rfl dX0_close_1 ?_
  refine lv_bipush (v := nI 56) hx hb dX0_close_4 (by decide) ?_
  refine lv_irem hx hb dX0_close_6 (by decide) ?_
  refine kv_top (show _ = nI (np % 56) from pk_rem (by omega) (by omega) (by omega)) ?_
  refine lv_istore_n (lv' := [(1, .int (nI (np % 56))), (0, .ref h)]) hx hb dX0_close_7 rfl hl (by decide) rfl (fun ls hl => ?_)
  refine lv_iload_n hx hb dX0_close_8 rfl (lv_at hl 0 rfl) ?_
  refine lv_if_ne (tgt := 14) hx hb dX0_close_9 (by decide) (fun c_9 => ?_) (fun c_9 => ?_)
  · have c_9 := kmt (kn_eq0 (by omega)).mpr c_9
    refine lv_aload_n hx hb dX0_close_14 rfl (lv_at hl 1 rfl) ?_
    refine lv_aload_n hx hb dX0_close_15 rfl (lv_at hl 1 rfl) ?_
    refine va_get (D := (dC, dI)) (ci := 0) (v := .int (nI np)) (C := RX0) (T := TX0) (N := 9) hx hb hts hin0 hown hK hP 0 rfl rfl 3 (by decide) lkf44 (fun _ h9 => h9) rfl dX0_close_16 ?_
    refine lv_bipush (v := nI 56) hx hb dX0_close_19 (by decide) ?_
    refine lv_idiv hx hb dX0_close_21 (by decide) ?_
    refine kv_top (show _ = nI (np / 56) from pk_div (by omega) (by omega) (by omega)) ?_
    refine lv_iload_n hx hb dX0_close_22 rfl (lv_at hl 0 rfl) ?_
    refine kc_vv (WR := []) (As := [.int (nI (np / 56)), .int (nI (np % 56))]) (rest := []) ⟨hx, hb, hml, hown, hts⟩ (c_writeBlock l dC dI h a1 a2 a3 a4 a5 a6 cb ci tp tl vo np rp rl rc sb sa H.size (np / 56) (np % 56) (by omega) (by omega)) (cwV 2 hts gX0_close_X0_writeBlock rfl rfl rfl (by decide +kernel) ⟨Nat.le_of_ble_eq_true rfl, Nat.le_of_ble_eq_true rfl⟩) hK hP hD hS hA [0, 1, 2, 3, 4, 5, 6] [] [0, 1] rfl rfl (by decide) (by decide) (by decide) rfl 0 0 rfl rfl rfl rfl hl.1 rfl (Nat.le_of_ble_eq_true rfl) dX0_close_23 ⟨Nat.zero_le _, Nat.zero_le _⟩ (fun H locs hP hD hS => ?_)
    have hP : va_P (dC, dI) vwCl (wB h a1 a2 a3 a4 a5 a6 cb ci tp tl (wbV vo (np / 56) (np % 56)) np rp rl rc sb sa) H := hP
    have hD : va_D A (wB h a1 a2 a3 a4 a5 a6 cb ci tp tl (wbV vo (np / 56) (np % 56)) np rp rl rc sb sa) := hD
    refine lv_aload_n hx hb dX0_close_26 rfl (lv_at hl 1 rfl) ?_
    refine lv_dup hx hb dX0_close_27 rfl ?_
    refine va_get (D := (dC, dI)) (ci := 0) (v := .int (nI np)) (C := RX0) (T := TX0) (N := 9) hx hb hts hin0 hown hK hP 0 rfl rfl 3 (by decide) lkf44 (fun _ h9 => h9) rfl dX0_close_28 ?_
    refine lv_bipush (v := nI 56) hx hb dX0_close_31 (by decide) ?_
    refine lv_iload_n hx hb dX0_close_33 rfl (lv_at hl 0 rfl) ?_
    refine lv_isub hx hb dX0_close_34 ?_
    refine kv_top (show _ = nI (56 - (np % 56)) from pk_sub (by omega)) ?_
    refine lv_iadd hx hb dX0_close_35 ?_
    refine kv_top (show _ = nI (np + (56 - (np % 56))) from nI_add _ _) ?_
    refine va_put (D := (dC, dI)) (ci := 0) (v := .int (nI (np + (56 - (np % 56))))) (ty := .int) (C := RX0) (T := TX0) (N := 9) hx hb hts hin0 tyX0 tyX0_ok nmX0 hown hK hP hD hS 0 rfl rfl 3 (by decide) lkf44 (fun _ h9 => h9) rfl (by decide +kernel) rfl rfl (Nat.le_of_ble_eq_true rfl) dX0_close_36 (fun H locs hP hD hS => ?_)
    have hP : va_P (dC, dI) vwCl (wB h a1 a2 a3 a4 a5 a6 cb ci tp tl (wbV vo (np / 56) (np % 56)) (np + (56 - (np % 56))) rp rl rc sb sa) H := hP
    have hD : va_D A (wB h a1 a2 a3 a4 a5 a6 cb ci tp tl (wbV vo (np / 56) (np % 56)) (np + (56 - (np % 56))) rp rl rc sb sa) := hD
    refine lv_iconst (v := nI 1) hx hb dX0_close_39 (by decide) ?_
    have hP : va_P (dC, dI) vwCl (wB h a1 a2 a3 a4 a5 a6 cb ci tp tl (wbV vo (np / 56) (np % 56)) (np + (56 - np % 56)) rp rl rc sb sa) H := hP
    have hD : va_D A (wB h a1 a2 a3 a4 a5 a6 cb ci tp tl (wbV vo (np / 56) (np % 56)) (np + (56 - np % 56)) rp rl rc sb sa) := hD
    exact hret _ _ _ _ hP hD hS dX0_close_40
  · have c_9 := (kn_eq0 (by omega)).mp c_9
    exfalso; omega
