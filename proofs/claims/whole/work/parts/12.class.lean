set_option maxHeartbeats 4000000 in
set_option maxRecDepth 100000 in
theorem c_closeN (l : Launch) (dC : Nat → ClassId) (dI : Nat → Nat → Nat) (h a1 a2 a3 a4 a5 a6 : Nat) (cb ci : ClassId) (tp : Nat → Int32) (tl : Nat) (vo : Nat → Int32) (np : Nat) (rp rl : Nat → Nat) (rc : Nat) (sb sa : Nat → Nat) (sz : Nat) (hnp : np ≤ 4480) (hu : np % 56 = 0) : Met l yX0_close wsX0_close ({ frames := 3, cells := 0, slots := 0, locals := 73 }) (kPre (dC, dI) vwCl (wB h a1 a2 a3 a4 a5 a6 cb ci tp tl vo np rp rl rc sb sa) (tB cb ci) sz [.ref h]) (kQi (dC, dI) vwCl (wB h a1 a2 a3 a4 a5 a6 cb ci tp tl vo np rp rl rc sb sa) (tB cb ci) sz (nI 0) (wB h a1 a2 a3 a4 a5 a6 cb ci tp tl vo np rp rl rc sb sa)) 0 0 (va_A (wB h a1 a2 a3 a4 a5 a6 cb ci tp tl vo np rp rl rc sb sa) sz) := by
  refine kM_z (cc := cX0_close) (maxL := 2) (by decide) rfl (Nat.le_of_ble_eq_true rfl) (rfl) ?_
  intro p e s m below meth c A Q ls H locs S hP hK hD hS hA hl hret
  obtain ⟨hx, hb, hml, hown, hts⟩ := id S
  have hin0 : ∀ w ∈ u_ws RX0 TX0 9, w ∈ wsX0_close := fun _ h => List.mem_cons_of_mem _ (List.mem_append_right _ h)
  have lkf44 := hts (.fieldLink RX0 44 "BlockTape" "nextPlace" "I") (by decide +kernel)
  have hl : lv_has ls 2 [(0, .ref h)] := hl
  refine lv_aload_n hx hb dX0_close_0 rfl (lv_at hl 0 rfl) ?_
  refine va_get (D := (dC, dI)) (ci := 0) (v := .int (nI np)) (C := RX0) (T := TX0) (N := 9) hx hb hts hin0 hown hK hP 0 rfl rfl 3 (by decide) lkf44 (fun _ h9 => h9) rfl dX0_close_1 ?_
  refine lv_bipush (v := nI 56) hx hb dX0_close_4 (by decide) ?_
  refine lv_irem hx hb dX0_close_6 (by decide) ?_
  refine kv_top (show _ = nI (np % 56) from pk_rem (by omega) (by omega) (by omega)) ?_
  refine lv_istore_n (lv' := [(1, .int (nI (np % 56))), (0, .ref h)]) hx hb dX0_close_7 rfl hl (by decide) rfl (fun ls hl => ?_)
  refine lv_iload_n hx hb dX0_close_8 rfl (lv_at hl 0 rfl) ?_
  refine lv_if_ne (tgt := 14) hx hb dX0_close_9 (by decide) (fun c_9 => ?_) (fun c_9 => ?_)
  · have c_9 := kmt (kn_eq0 (by omega)).mpr c_9
    exfalso; omega
  · have c_9 := (kn_eq0 (by omega)).mp c_9
    refine lv_iconst (v := nI 0) hx hb dX0_close_12 (by decide) ?_
    exact hret _ _ _ _ hP hD hS dX0_close_13
set_option maxHeartbeats 4000000 in
set_option maxRecDepth 100000 in
theorem c_spoil (l : Launch) (dC : Nat → ClassId) (dI : Nat → Nat → Nat) (h a1 a2 a3 a4 a5 a6 : Nat) (cb ci : ClassId) (tp : Nat → Int32) (tl : Nat) (vo : Nat → Int32) (np : Nat) (rp rl : Nat → Nat) (rc : Nat) (sb sa : Nat → Nat) (sz : Nat) (b : Nat) (q : Nat) (v : Nat) (hnp : np ≤ 4480) (hb80 : b < np / 56) (hq : q < 64) (hv : 1 ≤ v ∧ v ≤ 255) (hs0 : sb b = 0) : Met l yX0_spoil wsX0_spoil ({ frames := 2, cells := 0, slots := 0, locals := 41 }) (kPre (dC, dI) vwCl (wB h a1 a2 a3 a4 a5 a6 cb ci tp tl vo np rp rl rc sb sa) (tB cb ci) sz [.ref h, .int (nI b), .int (nI q), .int (nI v)]) (kQi (dC, dI) vwCl (wB h a1 a2 a3 a4 a5 a6 cb ci tp tl vo np rp rl rc sb sa) (tB cb ci) sz (nI 1) (wB h a1 a2 a3 a4 a5 a6 cb ci tp tl (upd vo (b * 64 + q) (bn (vo (b * 64 + q) + nI v))) np rp rl rc (updN sb b v) (updN sa b q))) 0 0 (va_A (wB h a1 a2 a3 a4 a5 a6 cb ci tp tl vo np rp rl rc sb sa) sz) := by
  refine kM_z (cc := cX0_spoil) (maxL := 4) (by decide) rfl (Nat.le_of_ble_eq_true rfl) (rfl) ?_
  intro p e s m below meth c A Q ls H locs S hP hK hD hS hA hl hret
  obtain ⟨hx, hb, hml, hown, hts⟩ := id S
  have hin0 : ∀ w ∈ u_ws RX0 TX0 9, w ∈ wsX0_spoil := fun _ h => List.mem_cons_of_mem _ (List.mem_append_right _ h)
  have lkf23 := hts (.fieldLink RX0 23 "BlockTape" "spoiltBy" "[I") (by decide +kernel)
  have lkf26 := hts (.fieldLink RX0 26 "BlockTape" "spoiltAt" "[I") (by decide +kernel)
  have hl : lv_has ls 4 [(0, .ref h), (1, .int (nI b)), (2, .int (nI q)), (3, .int (nI v))] := hl
  refine lv_aload_n hx hb dX0_spoil_0 rfl (lv_at hl 0 rfl) ?_
  refine lv_iload_n hx hb dX0_spoil_1 rfl (lv_at hl 1 rfl) ?_
  refine kc_vi (WR := []) (As := [.int (nI b)]) (rest := []) ⟨hx, hb, hml, hown, hts⟩ (c_isWritten l dC dI h a1 a2 a3 a4 a5 a6 cb ci tp tl vo np rp rl rc sb sa H.size (nI b) (by omega)) (cwV 1 hts gX0_spoil_X0_isWritten rfl rfl rfl (by decide +kernel) ⟨Nat.le_of_ble_eq_true rfl, Nat.le_of_ble_eq_true rfl⟩) hK hP hD hS hA [0, 1, 2, 3, 4, 5, 6] [] [0, 1] rfl rfl (by decide) (by decide) (by decide) rfl 0 0 rfl rfl rfl rfl hl.1 rfl (Nat.le_of_ble_eq_true rfl) dX0_spoil_2 ⟨Nat.zero_le _, Nat.zero_le _⟩ (fun H locs hP hD hS => ?_)
  have hP : va_P (dC, dI) vwCl (wB h a1 a2 a3 a4 a5 a6 cb ci tp tl vo np rp rl rc sb sa) H := hP
  have hD : va_D A (wB h a1 a2 a3 a4 a5 a6 cb ci tp tl vo np rp rl rc sb sa) := hD
  refine lv_if_eq (tgt := 36) hx hb dX0_spoil_5 (by decide) (fun c_5 => ?_) (fun c_5 => ?_)
  · have c_5 := (bI_e _).mp c_5
    exact absurd c_5 (by rw [isW_n (by omega)]; simp; omega)
  · have c_5 := kmt (bI_e _).mpr c_5
    refine lv_iload_n hx hb dX0_spoil_8 rfl (lv_at hl 2 rfl) ?_
    refine kc_si (WR := wB h a1 a2 a3 a4 a5 a6 cb ci tp tl vo np rp rl rc sb sa) (As := [.int (nI q)]) (rest := []) ⟨hx, hb, hml, hown, hts⟩ (c_isInBlock l dC dI H.size (nI q)) (va_cwS 1 hts gX0_spoil_X0_isInBlock rfl rfl rfl (by decide +kernel) ⟨Nat.le_of_ble_eq_true rfl, Nat.le_of_ble_eq_true rfl⟩) hK hP hD hS hA [] [0, 1, 2, 3, 4, 5, 6] [] rfl rfl (by decide) (by decide) (by decide) rfl rfl hl.1 rfl (Nat.le_of_ble_eq_true rfl) dX0_spoil_9 ⟨Nat.zero_le _, Nat.zero_le _⟩ (fun H locs hP hD hS => ?_)
    have hP : va_P (dC, dI) vwCl (wB h a1 a2 a3 a4 a5 a6 cb ci tp tl vo np rp rl rc sb sa) H := hP
    have hD : va_D A (wB h a1 a2 a3 a4 a5 a6 cb ci tp tl vo np rp rl rc sb sa) := hD
    refine lv_if_eq (tgt := 36) hx hb dX0_spoil_12 (by decide) (fun c_12 => ?_) (fun c_12 => ?_)
    · have c_12 := (bI_e _).mp c_12
      exact absurd c_12 (by rw [inB_n (by omega)]; simp; omega)
    · have c_12 := kmt (bI_e _).mpr c_12
      refine lv_iload_n hx hb dX0_spoil_15 rfl (lv_at hl 3 rfl) ?_
      refine lv_iconst (v := nI 1) hx hb dX0_spoil_16 (by decide) ?_
      refine lv_icmp_lt (tgt := 36) hx hb dX0_spoil_17 (by decide) (fun c_17 => ?_) (fun c_17 => ?_)
      · have c_17 := (nI_ltI (by omega) (by omega)).mp c_17
        exfalso; omega
      · have c_17 := kmt (nI_ltI (by omega) (by omega)).mpr c_17
        refine lv_iload_n hx hb dX0_spoil_20 rfl (lv_at hl 3 rfl) ?_
        refine lv_sipush (v := nI 255) hx hb dX0_spoil_21 (by decide) ?_
        refine lv_icmp_gt (tgt := 36) hx hb dX0_spoil_24 (by decide) (fun c_24 => ?_) (fun c_24 => ?_)
        · have c_24 := (nI_ltI (by omega) (by omega)).mp c_24
          exfalso; omega
        · have c_24 := kmt (nI_ltI (by omega) (by omega)).mpr c_24
          refine lv_aload_n hx hb dX0_spoil_27 rfl (lv_at hl 0 rfl) ?_
          refine va_get (D := (dC, dI)) (ci := 0) (v := .ref a5) (C := RX0) (T := TX0) (N := 9) hx hb hts hin0 hown hK hP 0 rfl rfl 7 (by decide) lkf23 (fun _ h9 => h9) rfl dX0_spoil_28 ?_
          refine lv_iload_n hx hb dX0_spoil_31 rfl (lv_at hl 1 rfl) ?_
          refine ka_ialdN hx hb hK hP 5 1 rfl rfl (k := b) (by omega) (by decide) dX0_spoil_32 ?_
          refine lv_if_eq (tgt := 38) hx hb dX0_spoil_33 (by decide) (fun c_33 => ?_) (fun c_33 => ?_)
          · have c_33 := (kn_eq0 (by omega)).mp c_33
            refine lv_aload_n hx hb dX0_spoil_38 rfl (lv_at hl 0 rfl) ?_
            refine lv_iload_n hx hb dX0_spoil_39 rfl (lv_at hl 1 rfl) ?_
            refine lv_bipush (v := nI 64) hx hb dX0_spoil_40 (by decide) ?_
            refine lv_imul hx hb dX0_spoil_42 ?_
            refine kv_top (show _ = nI (b * 64) from pk_mul _ _) ?_
            refine lv_iload_n hx hb dX0_spoil_43 rfl (lv_at hl 2 rfl) ?_
            refine lv_iadd hx hb dX0_spoil_44 ?_
            refine kv_top (show _ = nI ((b * 64) + q) from nI_add _ _) ?_
            refine lv_iload_n hx hb dX0_spoil_45 rfl (lv_at hl 3 rfl) ?_
            refine kc_vv (WR := []) (As := [.int (nI ((b * 64) + q)), .int (nI v)]) (rest := []) ⟨hx, hb, hml, hown, hts⟩ (c_addToByte l dC dI h a1 a2 a3 a4 a5 a6 cb ci tp tl vo np rp rl rc sb sa H.size ((b * 64) + q) (nI v) (by omega)) (cwV 2 hts gX0_spoil_X0_addToByte rfl rfl rfl (by decide +kernel) ⟨Nat.le_of_ble_eq_true rfl, Nat.le_of_ble_eq_true rfl⟩) hK hP hD hS hA [0, 1, 2, 3, 4, 5, 6] [] [0, 1] rfl rfl (by decide) (by decide) (by decide) rfl 0 0 rfl rfl rfl rfl hl.1 rfl (Nat.le_of_ble_eq_true rfl) dX0_spoil_46 ⟨Nat.zero_le _, Nat.zero_le _⟩ (fun H locs hP hD hS => ?_)
            have hP : va_P (dC, dI) vwCl (wB h a1 a2 a3 a4 a5 a6 cb ci tp tl (upd vo ((b * 64) + q) (bn (vo ((b * 64) + q) + (nI v)))) np rp rl rc sb sa) H := hP
            have hD : va_D A (wB h a1 a2 a3 a4 a5 a6 cb ci tp tl (upd vo ((b * 64) + q) (bn (vo ((b * 64) + q) + (nI v)))) np rp rl rc sb sa) := hD
            refine lv_aload_n hx hb dX0_spoil_49 rfl (lv_at hl 0 rfl) ?_
            refine va_get (D := (dC, dI)) (ci := 0) (v := .ref a5) (C := RX0) (T := TX0) (N := 9) hx hb hts hin0 hown hK hP 0 rfl rfl 7 (by decide) lkf23 (fun _ h9 => h9) rfl dX0_spoil_50 ?_
            refine lv_iload_n hx hb dX0_spoil_53 rfl (lv_at hl 1 rfl) ?_
            refine lv_iload_n hx hb dX0_spoil_54 rfl (lv_at hl 3 rfl) ?_
            refine ka_iastN hx hb hK hP hD hS 5 1 rfl rfl (k := b) (x := v) (by omega) (by decide) dX0_spoil_55 (fun H locs hP hD hS => ?_)
            have hP : va_P (dC, dI) vwCl (wB h a1 a2 a3 a4 a5 a6 cb ci tp tl (upd vo ((b * 64) + q) (bn (vo ((b * 64) + q) + (nI v)))) np rp rl rc (updN sb b v) sa) H := hP
            have hD : va_D A (wB h a1 a2 a3 a4 a5 a6 cb ci tp tl (upd vo ((b * 64) + q) (bn (vo ((b * 64) + q) + (nI v)))) np rp rl rc (updN sb b v) sa) := hD
            refine lv_aload_n hx hb dX0_spoil_56 rfl (lv_at hl 0 rfl) ?_
            refine va_get (D := (dC, dI)) (ci := 0) (v := .ref a6) (C := RX0) (T := TX0) (N := 9) hx hb hts hin0 hown hK hP 0 rfl rfl 8 (by decide) lkf26 (fun _ h9 => h9) rfl dX0_spoil_57 ?_
            refine lv_iload_n hx hb dX0_spoil_60 rfl (lv_at hl 1 rfl) ?_
            refine lv_iload_n hx hb dX0_spoil_61 rfl (lv_at hl 2 rfl) ?_
            refine ka_iastN hx hb hK hP hD hS 6 1 rfl rfl (k := b) (x := q) (by omega) (by decide) dX0_spoil_62 (fun H locs hP hD hS => ?_)
            have hP : va_P (dC, dI) vwCl (wB h a1 a2 a3 a4 a5 a6 cb ci tp tl (upd vo ((b * 64) + q) (bn (vo ((b * 64) + q) + (nI v)))) np rp rl rc (updN sb b v) (updN sa b q)) H := hP
            have hD : va_D A (wB h a1 a2 a3 a4 a5 a6 cb ci tp tl (upd vo ((b * 64) + q) (bn (vo ((b * 64) + q) + (nI v)))) np rp rl rc (updN sb b v) (updN sa b q)) := hD
            refine lv_iconst (v := nI 1) hx hb dX0_spoil_63 (by decide) ?_
            have hP : va_P (dC, dI) vwCl (wB h a1 a2 a3 a4 a5 a6 cb ci tp tl (upd vo (b * 64 + q) (bn (vo (b * 64 + q) + nI v))) np rp rl rc (updN sb b v) (updN sa b q)) H := hP
            have hD : va_D A (wB h a1 a2 a3 a4 a5 a6 cb ci tp tl (upd vo (b * 64 + q) (bn (vo (b * 64 + q) + nI v))) np rp rl rc (updN sb b v) (updN sa b q)) := hD
            exact hret _ _ _ _ hP hD hS dX0_spoil_64
          · have c_33 := kmt (kn_eq0 (by omega)).mpr c_33
            exfalso; omega
set_option maxHeartbeats 4000000 in
set_option maxRecDepth 100000 in
theorem c_spoilN (l : Launch) (dC : Nat → ClassId) (dI : Nat → Nat → Nat) (h a1 a2 a3 a4 a5 a6 : Nat) (cb ci : ClassId) (tp : Nat → Int32) (tl : Nat) (vo : Nat → Int32) (np : Nat) (rp rl : Nat → Nat) (rc : Nat) (sb sa : Nat → Nat) (sz : Nat) (x : Int32) (q : Int32) (v : Int32) (hnp : np ≤ 4480) (hsb : ∀ b, b < 80 → sb b < 256) (hno : isW np x = true → inB q = true → 1 ≤ v.toInt → v.toInt ≤ 255 → sb x.toInt.toNat ≠ 0) : Met l yX0_spoil wsX0_spoil ({ frames := 2, cells := 0, slots := 0, locals := 41 }) (kPre (dC, dI) vwCl (wB h a1 a2 a3 a4 a5 a6 cb ci tp tl vo np rp rl rc sb sa) (tB cb ci) sz [.ref h, .int x, .int q, .int v]) (kQi (dC, dI) vwCl (wB h a1 a2 a3 a4 a5 a6 cb ci tp tl vo np rp rl rc sb sa) (tB cb ci) sz (nI 0) (wB h a1 a2 a3 a4 a5 a6 cb ci tp tl vo np rp rl rc sb sa)) 0 0 (va_A (wB h a1 a2 a3 a4 a5 a6 cb ci tp tl vo np rp rl rc sb sa) sz) := by
  refine kM_z (cc := cX0_spoil) (maxL := 4) (by decide) rfl (Nat.le_of_ble_eq_true rfl) (rfl) ?_
  intro p e s m below meth c A Q ls H locs S hP hK hD hS hA hl hret
  obtain ⟨hx, hb, hml, hown, hts⟩ := id S
  have hin0 : ∀ w ∈ u_ws RX0 TX0 9, w ∈ wsX0_spoil := fun _ h => List.mem_cons_of_mem _ (List.mem_append_right _ h)
  have lkf23 := hts (.fieldLink RX0 23 "BlockTape" "spoiltBy" "[I") (by decide +kernel)
  have hl : lv_has ls 4 [(0, .ref h), (1, .int x), (2, .int q), (3, .int v)] := hl
  refine lv_aload_n hx hb dX0_spoil_0 rfl (lv_at hl 0 rfl) ?_
  refine lv_iload_n hx hb dX0_spoil_1 rfl (lv_at hl 1 rfl) ?_
  refine kc_vi (WR := []) (As := [.int x]) (rest := []) ⟨hx, hb, hml, hown, hts⟩ (c_isWritten l dC dI h a1 a2 a3 a4 a5 a6 cb ci tp tl vo np rp rl rc sb sa H.size x (by omega)) (cwV 1 hts gX0_spoil_X0_isWritten rfl rfl rfl (by decide +kernel) ⟨Nat.le_of_ble_eq_true rfl, Nat.le_of_ble_eq_true rfl⟩) hK hP hD hS hA [0, 1, 2, 3, 4, 5, 6] [] [0, 1] rfl rfl (by decide) (by decide) (by decide) rfl 0 0 rfl rfl rfl rfl hl.1 rfl (Nat.le_of_ble_eq_true rfl) dX0_spoil_2 ⟨Nat.zero_le _, Nat.zero_le _⟩ (fun H locs hP hD hS => ?_)
  have hP : va_P (dC, dI) vwCl (wB h a1 a2 a3 a4 a5 a6 cb ci tp tl vo np rp rl rc sb sa) H := hP
  have hD : va_D A (wB h a1 a2 a3 a4 a5 a6 cb ci tp tl vo np rp rl rc sb sa) := hD
  refine lv_if_eq (tgt := 36) hx hb dX0_spoil_5 (by decide) (fun c_5 => ?_) (fun c_5 => ?_)
  · have c_5 := (bI_e _).mp c_5
    refine lv_iconst (v := nI 0) hx hb dX0_spoil_36 (by decide) ?_
    exact hret _ _ _ _ hP hD hS dX0_spoil_37
  · have c_5 := kmt (bI_e _).mpr c_5
    have c_5 := bT c_5
    obtain ⟨j, hj, rfl⟩ := isW_of c_5
    refine lv_iload_n hx hb dX0_spoil_8 rfl (lv_at hl 2 rfl) ?_
    refine kc_si (WR := wB h a1 a2 a3 a4 a5 a6 cb ci tp tl vo np rp rl rc sb sa) (As := [.int q]) (rest := []) ⟨hx, hb, hml, hown, hts⟩ (c_isInBlock l dC dI H.size q) (va_cwS 1 hts gX0_spoil_X0_isInBlock rfl rfl rfl (by decide +kernel) ⟨Nat.le_of_ble_eq_true rfl, Nat.le_of_ble_eq_true rfl⟩) hK hP hD hS hA [] [0, 1, 2, 3, 4, 5, 6] [] rfl rfl (by decide) (by decide) (by decide) rfl rfl hl.1 rfl (Nat.le_of_ble_eq_true rfl) dX0_spoil_9 ⟨Nat.zero_le _, Nat.zero_le _⟩ (fun H locs hP hD hS => ?_)
    have hP : va_P (dC, dI) vwCl (wB h a1 a2 a3 a4 a5 a6 cb ci tp tl vo np rp rl rc sb sa) H := hP
    have hD : va_D A (wB h a1 a2 a3 a4 a5 a6 cb ci tp tl vo np rp rl rc sb sa) := hD
    refine lv_if_eq (tgt := 36) hx hb dX0_spoil_12 (by decide) (fun c_12 => ?_) (fun c_12 => ?_)
    · have c_12 := (bI_e _).mp c_12
      refine lv_iconst (v := nI 0) hx hb dX0_spoil_36 (by decide) ?_
      exact hret _ _ _ _ hP hD hS dX0_spoil_37
    · have c_12 := kmt (bI_e _).mpr c_12
      have c_12 := bT c_12
      have hsj := hsb j (by omega)
      refine lv_iload_n hx hb dX0_spoil_15 rfl (lv_at hl 3 rfl) ?_
      refine lv_iconst (v := nI 1) hx hb dX0_spoil_16 (by decide) ?_
      refine lv_icmp_lt (tgt := 36) hx hb dX0_spoil_17 (by decide) (fun c_17 => ?_) (fun c_17 => ?_)
      · have c_17 := (kx_lt (by omega)).mp c_17
        refine lv_iconst (v := nI 0) hx hb dX0_spoil_36 (by decide) ?_
        exact hret _ _ _ _ hP hD hS dX0_spoil_37
      · have c_17 := kmt (kx_lt (by omega)).mpr c_17
        refine lv_iload_n hx hb dX0_spoil_20 rfl (lv_at hl 3 rfl) ?_
        refine lv_sipush (v := nI 255) hx hb dX0_spoil_21 (by decide) ?_
        refine lv_icmp_gt (tgt := 36) hx hb dX0_spoil_24 (by decide) (fun c_24 => ?_) (fun c_24 => ?_)
        · have c_24 := (kx_gt (by omega)).mp c_24
          refine lv_iconst (v := nI 0) hx hb dX0_spoil_36 (by decide) ?_
          exact hret _ _ _ _ hP hD hS dX0_spoil_37
        · have c_24 := kmt (kx_gt (by omega)).mpr c_24
          refine lv_aload_n hx hb dX0_spoil_27 rfl (lv_at hl 0 rfl) ?_
          refine va_get (D := (dC, dI)) (ci := 0) (v := .ref a5) (C := RX0) (T := TX0) (N := 9) hx hb hts hin0 hown hK hP 0 rfl rfl 7 (by decide) lkf23 (fun _ h9 => h9) rfl dX0_spoil_28 ?_
          refine lv_iload_n hx hb dX0_spoil_31 rfl (lv_at hl 1 rfl) ?_
          refine ka_ialdN hx hb hK hP 5 1 rfl rfl (k := j) (by omega) (by decide) dX0_spoil_32 ?_
          refine lv_if_eq (tgt := 38) hx hb dX0_spoil_33 (by decide) (fun c_33 => ?_) (fun c_33 => ?_)
          · have c_33 := (kn_eq0 (by omega)).mp c_33
            exact absurd (by rw [nI_tn (by omega)]; exact c_33) (hno c_5 c_12 (by omega) (by omega))
          · have c_33 := kmt (kn_eq0 (by omega)).mpr c_33
            refine lv_iconst (v := nI 0) hx hb dX0_spoil_36 (by decide) ?_
            exact hret _ _ _ _ hP hD hS dX0_spoil_37
set_option maxHeartbeats 4000000 in
set_option maxRecDepth 100000 in
theorem c_heal (l : Launch) (dC : Nat → ClassId) (dI : Nat → Nat → Nat) (h a1 a2 a3 a4 a5 a6 : Nat) (cb ci : ClassId) (tp : Nat → Int32) (tl : Nat) (vo : Nat → Int32) (np : Nat) (rp rl : Nat → Nat) (rc : Nat) (sb sa : Nat → Nat) (sz : Nat) (b : Nat) (hnp : np ≤ 4480) (hb80 : b < np / 56) (hs0 : sb b ≠ 0 ∧ sb b < 256) (hsa : sa b < 64) : Met l yX0_heal wsX0_heal ({ frames := 2, cells := 0, slots := 0, locals := 41 }) (kPre (dC, dI) vwCl (wB h a1 a2 a3 a4 a5 a6 cb ci tp tl vo np rp rl rc sb sa) (tB cb ci) sz [.ref h, .int (nI b)]) (kQi (dC, dI) vwCl (wB h a1 a2 a3 a4 a5 a6 cb ci tp tl vo np rp rl rc sb sa) (tB cb ci) sz (nI 1) (wB h a1 a2 a3 a4 a5 a6 cb ci tp tl (upd vo (b * 64 + sa b) (bn (vo (b * 64 + sa b) + -(nI (sb b))))) np rp rl rc (updN sb b 0) sa)) 0 0 (va_A (wB h a1 a2 a3 a4 a5 a6 cb ci tp tl vo np rp rl rc sb sa) sz) := by
  refine kM_z (cc := cX0_heal) (maxL := 2) (by decide) rfl (Nat.le_of_ble_eq_true rfl) (rfl) ?_
  intro p e s m below meth c A Q ls H locs S hP hK hD hS hA hl hret
  obtain ⟨hx, hb, hml, hown, hts⟩ := id S
  have hin0 : ∀ w ∈ u_ws RX0 TX0 9, w ∈ wsX0_heal := fun _ h => List.mem_cons_of_mem _ (List.mem_append_right _ h)
  have lkf23 := hts (.fieldLink RX0 23 "BlockTape" "spoiltBy" "[I") (by decide +kernel)
  have lkf26 := hts (.fieldLink RX0 26 "BlockTape" "spoiltAt" "[I") (by decide +kernel)
  have hl : lv_has ls 2 [(0, .ref h), (1, .int (nI b))] := hl
  refine lv_aload_n hx hb dX0_heal_0 rfl (lv_at hl 0 rfl) ?_
  refine lv_iload_n hx hb dX0_heal_1 rfl (lv_at hl 1 rfl) ?_
  refine kc_vi (WR := []) (As := [.int (nI b)]) (rest := []) ⟨hx, hb, hml, hown, hts⟩ (c_isWritten l dC dI h a1 a2 a3 a4 a5 a6 cb ci tp tl vo np rp rl rc sb sa H.size (nI b) (by omega)) (cwV 1 hts gX0_heal_X0_isWritten rfl rfl rfl (by decide +kernel) ⟨Nat.le_of_ble_eq_true rfl, Nat.le_of_ble_eq_true rfl⟩) hK hP hD hS hA [0, 1, 2, 3, 4, 5, 6] [] [0, 1] rfl rfl (by decide) (by decide) (by decide) rfl 0 0 rfl rfl rfl rfl hl.1 rfl (Nat.le_of_ble_eq_true rfl) dX0_heal_2 ⟨Nat.zero_le _, Nat.zero_le _⟩ (fun H locs hP hD hS => ?_)
  have hP : va_P (dC, dI) vwCl (wB h a1 a2 a3 a4 a5 a6 cb ci tp tl vo np rp rl rc sb sa) H := hP
  have hD : va_D A (wB h a1 a2 a3 a4 a5 a6 cb ci tp tl vo np rp rl rc sb sa) := hD
  refine lv_if_eq (tgt := 17) hx hb dX0_heal_5 (by decide) (fun c_5 => ?_) (fun c_5 => ?_)
  · have c_5 := (bI_e _).mp c_5
    exact absurd c_5 (by rw [isW_n (by omega)]; simp; omega)
  · have c_5 := kmt (bI_e _).mpr c_5
    refine lv_aload_n hx hb dX0_heal_8 rfl (lv_at hl 0 rfl) ?_
    refine va_get (D := (dC, dI)) (ci := 0) (v := .ref a5) (C := RX0) (T := TX0) (N := 9) hx hb hts hin0 hown hK hP 0 rfl rfl 7 (by decide) lkf23 (fun _ h9 => h9) rfl dX0_heal_9 ?_
    refine lv_iload_n hx hb dX0_heal_12 rfl (lv_at hl 1 rfl) ?_
    refine ka_ialdN hx hb hK hP 5 1 rfl rfl (k := b) (by omega) (by decide) dX0_heal_13 ?_
    refine lv_if_ne (tgt := 19) hx hb dX0_heal_14 (by decide) (fun c_14 => ?_) (fun c_14 => ?_)
    · have c_14 := kmt (kn_eq0 (by omega)).mpr c_14
      refine lv_aload_n hx hb dX0_heal_19 rfl (lv_at hl 0 rfl) ?_
      refine lv_iload_n hx hb dX0_heal_20 rfl (lv_at hl 1 rfl) ?_
      refine lv_bipush (v := nI 64) hx hb dX0_heal_21 (by decide) ?_
      refine lv_imul hx hb dX0_heal_23 ?_
      refine kv_top (show _ = nI (b * 64) from pk_mul _ _) ?_
      refine lv_aload_n hx hb dX0_heal_24 rfl (lv_at hl 0 rfl) ?_
      refine va_get (D := (dC, dI)) (ci := 0) (v := .ref a6) (C := RX0) (T := TX0) (N := 9) hx hb hts hin0 hown hK hP 0 rfl rfl 8 (by decide) lkf26 (fun _ h9 => h9) rfl dX0_heal_25 ?_
      refine lv_iload_n hx hb dX0_heal_28 rfl (lv_at hl 1 rfl) ?_
      refine ka_ialdN hx hb hK hP 6 1 rfl rfl (k := b) (by omega) (by decide) dX0_heal_29 ?_
      refine lv_iadd hx hb dX0_heal_30 ?_
      refine kv_top (show _ = nI ((b * 64) + (sa b)) from nI_add _ _) ?_
      refine lv_aload_n hx hb dX0_heal_31 rfl (lv_at hl 0 rfl) ?_
      refine va_get (D := (dC, dI)) (ci := 0) (v := .ref a5) (C := RX0) (T := TX0) (N := 9) hx hb hts hin0 hown hK hP 0 rfl rfl 7 (by decide) lkf23 (fun _ h9 => h9) rfl dX0_heal_32 ?_
      refine lv_iload_n hx hb dX0_heal_35 rfl (lv_at hl 1 rfl) ?_
      refine ka_ialdN hx hb hK hP 5 1 rfl rfl (k := b) (by omega) (by decide) dX0_heal_36 ?_
      refine lv_ineg hx hb dX0_heal_37 ?_
      refine kc_vv (WR := []) (As := [.int (nI ((b * 64) + (sa b))), .int (-(nI (sb b)))]) (rest := []) ⟨hx, hb, hml, hown, hts⟩ (c_addToByte l dC dI h a1 a2 a3 a4 a5 a6 cb ci tp tl vo np rp rl rc sb sa H.size ((b * 64) + (sa b)) (-(nI (sb b))) (by omega)) (cwV 2 hts gX0_heal_X0_addToByte rfl rfl rfl (by decide +kernel) ⟨Nat.le_of_ble_eq_true rfl, Nat.le_of_ble_eq_true rfl⟩) hK hP hD hS hA [0, 1, 2, 3, 4, 5, 6] [] [0, 1] rfl rfl (by decide) (by decide) (by decide) rfl 0 0 rfl rfl rfl rfl hl.1 rfl (Nat.le_of_ble_eq_true rfl) dX0_heal_38 ⟨Nat.zero_le _, Nat.zero_le _⟩ (fun H locs hP hD hS => ?_)
      have hP : va_P (dC, dI) vwCl (wB h a1 a2 a3 a4 a5 a6 cb ci tp tl (upd vo ((b * 64) + (sa b)) (bn (vo ((b * 64) + (sa b)) + (-(nI (sb b)))))) np rp rl rc sb sa) H := hP
      have hD : va_D A (wB h a1 a2 a3 a4 a5 a6 cb ci tp tl (upd vo ((b * 64) + (sa b)) (bn (vo ((b * 64) + (sa b)) + (-(nI (sb b)))))) np rp rl rc sb sa) := hD
      refine lv_aload_n hx hb dX0_heal_41 rfl (lv_at hl 0 rfl) ?_
      refine va_get (D := (dC, dI)) (ci := 0) (v := .ref a5) (C := RX0) (T := TX0) (N := 9) hx hb hts hin0 hown hK hP 0 rfl rfl 7 (by decide) lkf23 (fun _ h9 => h9) rfl dX0_heal_42 ?_
      refine lv_iload_n hx hb dX0_heal_45 rfl (lv_at hl 1 rfl) ?_
      refine lv_iconst (v := nI 0) hx hb dX0_heal_46 (by decide) ?_
      refine ka_iastN hx hb hK hP hD hS 5 1 rfl rfl (k := b) (x := 0) (by omega) (by decide) dX0_heal_47 (fun H locs hP hD hS => ?_)
      have hP : va_P (dC, dI) vwCl (wB h a1 a2 a3 a4 a5 a6 cb ci tp tl (upd vo ((b * 64) + (sa b)) (bn (vo ((b * 64) + (sa b)) + (-(nI (sb b)))))) np rp rl rc (updN sb b 0) sa) H := hP
      have hD : va_D A (wB h a1 a2 a3 a4 a5 a6 cb ci tp tl (upd vo ((b * 64) + (sa b)) (bn (vo ((b * 64) + (sa b)) + (-(nI (sb b)))))) np rp rl rc (updN sb b 0) sa) := hD
      refine lv_iconst (v := nI 1) hx hb dX0_heal_48 (by decide) ?_
      have hP : va_P (dC, dI) vwCl (wB h a1 a2 a3 a4 a5 a6 cb ci tp tl (upd vo (b * 64 + sa b) (bn (vo (b * 64 + sa b) + -(nI (sb b))))) np rp rl rc (updN sb b 0) sa) H := hP
      have hD : va_D A (wB h a1 a2 a3 a4 a5 a6 cb ci tp tl (upd vo (b * 64 + sa b) (bn (vo (b * 64 + sa b) + -(nI (sb b))))) np rp rl rc (updN sb b 0) sa) := hD
      exact hret _ _ _ _ hP hD hS dX0_heal_49
    · have c_14 := (kn_eq0 (by omega)).mp c_14
      exfalso; omega
set_option maxHeartbeats 4000000 in
set_option maxRecDepth 100000 in
theorem c_healN (l : Launch) (dC : Nat → ClassId) (dI : Nat → Nat → Nat) (h a1 a2 a3 a4 a5 a6 : Nat) (cb ci : ClassId) (tp : Nat → Int32) (tl : Nat) (vo : Nat → Int32) (np : Nat) (rp rl : Nat → Nat) (rc : Nat) (sb sa : Nat → Nat) (sz : Nat) (x : Int32) (hnp : np ≤ 4480) (hsb : ∀ b, b < 80 → sb b < 256) (hno : isW np x = true → sb x.toInt.toNat = 0) : Met l yX0_heal wsX0_heal ({ frames := 2, cells := 0, slots := 0, locals := 41 }) (kPre (dC, dI) vwCl (wB h a1 a2 a3 a4 a5 a6 cb ci tp tl vo np rp rl rc sb sa) (tB cb ci) sz [.ref h, .int x]) (kQi (dC, dI) vwCl (wB h a1 a2 a3 a4 a5 a6 cb ci tp tl vo np rp rl rc sb sa) (tB cb ci) sz (nI 0) (wB h a1 a2 a3 a4 a5 a6 cb ci tp tl vo np rp rl rc sb sa)) 0 0 (va_A (wB h a1 a2 a3 a4 a5 a6 cb ci tp tl vo np rp rl rc sb sa) sz) := by
  refine kM_z (cc := cX0_heal) (maxL := 2) (by decide) rfl (Nat.le_of_ble_eq_true rfl) (rfl) ?_
  intro p e s m below meth c A Q ls H locs S hP hK hD hS hA hl hret
  obtain ⟨hx, hb, hml, hown, hts⟩ := id S
  have hin0 : ∀ w ∈ u_ws RX0 TX0 9, w ∈ wsX0_heal := fun _ h => List.mem_cons_of_mem _ (List.mem_append_right _ h)
  have lkf23 := hts (.fieldLink RX0 23 "BlockTape" "spoiltBy" "[I") (by decide +kernel)
  have hl : lv_has ls 2 [(0, .ref h), (1, .int x)] := hl
  refine lv_aload_n hx hb dX0_heal_0 rfl (lv_at hl 0 rfl) ?_
  refine lv_iload_n hx hb dX0_heal_1 rfl (lv_at hl 1 rfl) ?_
  refine kc_vi (WR := []) (As := [.int x]) (rest := []) ⟨hx, hb, hml, hown, hts⟩ (c_isWritten l dC dI h a1 a2 a3 a4 a5 a6 cb ci tp tl vo np rp rl rc sb sa H.size x (by omega)) (cwV 1 hts gX0_heal_X0_isWritten rfl rfl rfl (by decide +kernel) ⟨Nat.le_of_ble_eq_true rfl, Nat.le_of_ble_eq_true rfl⟩) hK hP hD hS hA [0, 1, 2, 3, 4, 5, 6] [] [0, 1] rfl rfl (by decide) (by decide) (by decide) rfl 0 0 rfl rfl rfl rfl hl.1 rfl (Nat.le_of_ble_eq_true rfl) dX0_heal_2 ⟨Nat.zero_le _, Nat.zero_le _⟩ (fun H locs hP hD hS => ?_)
  have hP : va_P (dC, dI) vwCl (wB h a1 a2 a3 a4 a5 a6 cb ci tp tl vo np rp rl rc sb sa) H := hP
  have hD : va_D A (wB h a1 a2 a3 a4 a5 a6 cb ci tp tl vo np rp rl rc sb sa) := hD
  refine lv_if_eq (tgt := 17) hx hb dX0_heal_5 (by decide) (fun c_5 => ?_) (fun c_5 => ?_)
  · have c_5 := (bI_e _).mp c_5
    refine lv_iconst (v := nI 0) hx hb dX0_heal_17 (by decide) ?_
    exact hret _ _ _ _ hP hD hS dX0_heal_18
  · have c_5 := kmt (bI_e _).mpr c_5
    have c_5 := bT c_5
    obtain ⟨j, hj, rfl⟩ := isW_of c_5
    have hsj := hsb j (by omega)
    refine lv_aload_n hx hb dX0_heal_8 rfl (lv_at hl 0 rfl) ?_
    refine va_get (D := (dC, dI)) (ci := 0) (v := .ref a5) (C := RX0) (T := TX0) (N := 9) hx hb hts hin0 hown hK hP 0 rfl rfl 7 (by decide) lkf23 (fun _ h9 => h9) rfl dX0_heal_9 ?_
    refine lv_iload_n hx hb dX0_heal_12 rfl (lv_at hl 1 rfl) ?_
    refine ka_ialdN hx hb hK hP 5 1 rfl rfl (k := j) (by omega) (by decide) dX0_heal_13 ?_
    refine lv_if_ne (tgt := 19) hx hb dX0_heal_14 (by decide) (fun c_14 => ?_) (fun c_14 => ?_)
    · have c_14 := kmt (kn_eq0 (by omega)).mpr c_14
      exact absurd (by have h9 := hno c_5; rw [nI_tn (by omega)] at h9; exact h9) c_14
    · have c_14 := (kn_eq0 (by omega)).mp c_14
      refine lv_iconst (v := nI 0) hx hb dX0_heal_17 (by decide) ?_
      exact hret _ _ _ _ hP hD hS dX0_heal_18
set_option maxHeartbeats 4000000 in
set_option maxRecDepth 100000 in
theorem c_byteOf (l : Launch) (dC : Nat → ClassId) (dI : Nat → Nat → Nat) (h a1 a2 a3 a4 a5 a6 : Nat) (cb ci : ClassId) (tp : Nat → Int32) (tl : Nat) (vo : Nat → Int32) (np : Nat) (rp rl : Nat → Nat) (rc : Nat) (sb sa : Nat → Nat) (sz : Nat) (x : Int32) (i : Int32) (hnp : np ≤ 4480) : Met l yX0_byteOf wsX0_byteOf ({ frames := 2, cells := 0, slots := 0, locals := 41 }) (kPre (dC, dI) vwCl (wB h a1 a2 a3 a4 a5 a6 cb ci tp tl vo np rp rl rc sb sa) (tB cb ci) sz [.ref h, .int x, .int i]) (kQi (dC, dI) vwCl (wB h a1 a2 a3 a4 a5 a6 cb ci tp tl vo np rp rl rc sb sa) (tB cb ci) sz (bof np vo x i) (wB h a1 a2 a3 a4 a5 a6 cb ci tp tl vo np rp rl rc sb sa)) 0 0 (va_A (wB h a1 a2 a3 a4 a5 a6 cb ci tp tl vo np rp rl rc sb sa) sz) := by
  refine kM_i (cc := cX0_byteOf) (maxL := 3) (by decide) rfl (Nat.le_of_ble_eq_true rfl) ?_
  intro p e s m below meth c A Q ls H locs S hP hK hD hS hA hl hret
  obtain ⟨hx, hb, hml, hown, hts⟩ := id S
  have hin0 : ∀ w ∈ u_ws RX0 TX0 9, w ∈ wsX0_byteOf := fun _ h => List.mem_cons_of_mem _ (List.mem_append_right _ h)
  have lkf13 := hts (.fieldLink RX0 13 "BlockTape" "volume" "[B") (by decide +kernel)
  have hl : lv_has ls 3 [(0, .ref h), (1, .int x), (2, .int i)] := hl
  refine lv_aload_n hx hb dX0_byteOf_0 rfl (lv_at hl 0 rfl) ?_
  refine lv_iload_n hx hb dX0_byteOf_1 rfl (lv_at hl 1 rfl) ?_
  refine kc_vi (WR := []) (As := [.int x]) (rest := []) ⟨hx, hb, hml, hown, hts⟩ (c_isWritten l dC dI h a1 a2 a3 a4 a5 a6 cb ci tp tl vo np rp rl rc sb sa H.size x (by omega)) (cwV 1 hts gX0_byteOf_X0_isWritten rfl rfl rfl (by decide +kernel) ⟨Nat.le_of_ble_eq_true rfl, Nat.le_of_ble_eq_true rfl⟩) hK hP hD hS hA [0, 1, 2, 3, 4, 5, 6] [] [0, 1] rfl rfl (by decide) (by decide) (by decide) rfl 0 0 rfl rfl rfl rfl hl.1 rfl (Nat.le_of_ble_eq_true rfl) dX0_byteOf_2 ⟨Nat.zero_le _, Nat.zero_le _⟩ (fun H locs hP hD hS => ?_)
  have hP : va_P (dC, dI) vwCl (wB h a1 a2 a3 a4 a5 a6 cb ci tp tl vo np rp rl rc sb sa) H := hP
  have hD : va_D A (wB h a1 a2 a3 a4 a5 a6 cb ci tp tl vo np rp rl rc sb sa) := hD
  refine lv_if_eq (tgt := 15) hx hb dX0_byteOf_5 (by decide) (fun c_5 => ?_) (fun c_5 => ?_)
  · have c_5 := (bI_e _).mp c_5
    refine lv_iconst (v := (-1)) hx hb dX0_byteOf_15 (by decide) ?_
    refine kv_top (show _ = bof np vo x i from (bof_f (Or.inl c_5)).symm) ?_
    exact hret _ _ _ _ hP hD hS dX0_byteOf_16
  · have c_5 := kmt (bI_e _).mpr c_5
    have c_5 := bT c_5
    refine lv_iload_n hx hb dX0_byteOf_8 rfl (lv_at hl 2 rfl) ?_
    refine kc_si (WR := wB h a1 a2 a3 a4 a5 a6 cb ci tp tl vo np rp rl rc sb sa) (As := [.int i]) (rest := []) ⟨hx, hb, hml, hown, hts⟩ (c_isInBlock l dC dI H.size i) (va_cwS 1 hts gX0_byteOf_X0_isInBlock rfl rfl rfl (by decide +kernel) ⟨Nat.le_of_ble_eq_true rfl, Nat.le_of_ble_eq_true rfl⟩) hK hP hD hS hA [] [0, 1, 2, 3, 4, 5, 6] [] rfl rfl (by decide) (by decide) (by decide) rfl rfl hl.1 rfl (Nat.le_of_ble_eq_true rfl) dX0_byteOf_9 ⟨Nat.zero_le _, Nat.zero_le _⟩ (fun H locs hP hD hS => ?_)
    have hP : va_P (dC, dI) vwCl (wB h a1 a2 a3 a4 a5 a6 cb ci tp tl vo np rp rl rc sb sa) H := hP
    have hD : va_D A (wB h a1 a2 a3 a4 a5 a6 cb ci tp tl vo np rp rl rc sb sa) := hD
    refine lv_if_ne (tgt := 17) hx hb dX0_byteOf_12 (by decide) (fun c_12 => ?_) (fun c_12 => ?_)
    · have c_12 := kmt (bI_e _).mpr c_12
      have c_12 := bT c_12
      have hbE := bof_t (vo := vo) c_5 c_12
      obtain ⟨j, hj, rfl⟩ := isW_of c_5
      obtain ⟨q, hq, rfl⟩ := inB_of c_12
      rw [nI_tn (by omega), nI_tn (by omega)] at hbE
      refine lv_aload_n hx hb dX0_byteOf_17 rfl (lv_at hl 0 rfl) ?_
      refine va_get (D := (dC, dI)) (ci := 0) (v := .ref a2) (C := RX0) (T := TX0) (N := 9) hx hb hts hin0 hown hK hP 0 rfl rfl 2 (by decide) lkf13 (fun _ h9 => h9) rfl dX0_byteOf_18 ?_
      refine lv_iload_n hx hb dX0_byteOf_21 rfl (lv_at hl 1 rfl) ?_
      refine lv_bipush (v := nI 64) hx hb dX0_byteOf_22 (by decide) ?_
      refine lv_imul hx hb dX0_byteOf_24 ?_
      refine kv_top (show _ = nI (j * 64) from pk_mul _ _) ?_
      refine lv_iload_n hx hb dX0_byteOf_25 rfl (lv_at hl 2 rfl) ?_
      refine lv_iadd hx hb dX0_byteOf_26 ?_
      refine kv_top (show _ = nI ((j * 64) + q) from nI_add _ _) ?_
      refine ka_bald hx hb hK hP 2 0 rfl rfl (k := (j * 64) + q) (by omega) (by decide) dX0_byteOf_27 ?_
      refine lv_sipush (v := nI 255) hx hb dX0_byteOf_28 (by decide) ?_
      refine lv_iand hx hb dX0_byteOf_31 ?_
      refine kv_top (show _ = bof np vo (nI j) (nI q) from hbE.symm) ?_
      exact hret _ _ _ _ hP hD hS dX0_byteOf_32
    · have c_12 := (bI_e _).mp c_12
      refine lv_iconst (v := (-1)) hx hb dX0_byteOf_15 (by decide) ?_
      refine kv_top (show _ = bof np vo x i from (bof_f (Or.inr c_12)).symm) ?_
      exact hret _ _ _ _ hP hD hS dX0_byteOf_16
set_option maxHeartbeats 4000000 in
set_option maxRecDepth 100000 in
theorem c_verify (l : Launch) (dC : Nat → ClassId) (dI : Nat → Nat → Nat) (h a1 a2 a3 a4 a5 a6 : Nat) (cb ci : ClassId) (tp : Nat → Int32) (tl : Nat) (vo : Nat → Int32) (np : Nat) (rp rl : Nat → Nat) (rc : Nat) (sb sa : Nat → Nat) (sz : Nat) (x : Int32) (hnp : np ≤ 4480) (hsb : ∀ b, b < 80 → sb b < 256) : Met l yX0_verify wsX0_verify ({ frames := 3, cells := 0, slots := 0, locals := 62 }) (kPre (dC, dI) vwCl (wB h a1 a2 a3 a4 a5 a6 cb ci tp tl vo np rp rl rc sb sa) (tB cb ci) sz [.ref h, .int x]) (kQi (dC, dI) vwCl (wB h a1 a2 a3 a4 a5 a6 cb ci tp tl vo np rp rl rc sb sa) (tB cb ci) sz (vfX np sb x) (wB h a1 a2 a3 a4 a5 a6 cb ci tp tl vo np rp rl rc sb sa)) 0 0 (va_A (wB h a1 a2 a3 a4 a5 a6 cb ci tp tl vo np rp rl rc sb sa) sz) := by
  refine kM_i (cc := cX0_verify) (maxL := 3) (by decide) rfl (Nat.le_of_ble_eq_true rfl) ?_
  intro p e s m below meth c A Q ls H locs S hP hK hD hS hA hl hret
  obtain ⟨hx, hb, hml, hown, hts⟩ := id S
  have hl : lv_has ls 3 [(0, .ref h), (1, .int x)] := hl
  have hxm := kx_max x
  refine lv_iload_n hx hb dX0_verify_0 rfl (lv_at hl 1 rfl) ?_
  refine lv_iconst (v := nI 0) hx hb dX0_verify_1 (by decide) ?_
  refine va_mmax hx hb (by rw [hml]; exact hl.1.symm) hown (hts (.methodLink RX0 75 Lib.Math.max.name) (by decide +kernel)) (hts (.static Lib.Math.max.name) (by decide +kernel)) (hts (.initialized "java/lang/Math") (by decide +kernel)) (hts (.code Lib.Math.max.name Lib.Math.max.code 2 (some .int)) (by decide +kernel)) (Nat.le_of_ble_eq_true rfl) (Nat.le_of_ble_eq_true rfl) (Nat.zero_le _) (Nat.zero_le _) dX0_verify_2 ?_
  refine kv_top (show _ = nI x.toInt.toNat from vmax x) ?_
  refine lv_istore_n (lv' := [(2, .int (nI x.toInt.toNat)), (0, .ref h), (1, .int x)]) hx hb dX0_verify_5 rfl hl (by decide) rfl (fun ls hl => ?_)
  have hloopk : ∀ (n k : Nat), k ≤ 2147483647 → 2147483647 + 1 ≤ k + n → (vfR np sb (np / 56 - k) k = vfX np sb x) → ∀ (H : Heap) (locs : List Loc) (ls : Array Slot), va_P (dC, dI) vwCl (wB h a1 a2 a3 a4 a5 a6 cb ci tp tl vo np rp rl rc sb sa) H → va_D A (wB h a1 a2 a3 a4 a5 a6 cb ci tp tl vo np rp rl rc sb sa) → va_S A s.heap H locs → lv_has ls 3 [(2, .int (nI k)), (0, .ref h)] → W p l e ({ frames := 3, cells := 0, slots := 0, locals := 62 }) s m ([.ref h, .int x] : List Value).toArray below meth c H locs 0 0 Q (F0 m 6 ls []) := by
    intro n
    induction n with
    | zero => intro k h1 h2; exact absurd h2 (by omega)
    | succ n ih =>
      intro k hkA hkB hres H locs ls hP hD hS hl
      refine lv_iload_n hx hb dX0_verify_6 rfl (lv_at hl 0 rfl) ?_
      refine lv_aload_n hx hb dX0_verify_7 rfl (lv_at hl 1 rfl) ?_
      refine kc_vi (WR := []) (As := []) (rest := [.int (nI k)]) ⟨hx, hb, hml, hown, hts⟩ (c_blocksWritten l dC dI h a1 a2 a3 a4 a5 a6 cb ci tp tl vo np rp rl rc sb sa H.size (by omega)) (cwV 0 hts gX0_verify_X0_blocksWritten rfl rfl rfl (by decide +kernel) ⟨Nat.le_of_ble_eq_true rfl, Nat.le_of_ble_eq_true rfl⟩) hK hP hD hS hA [0, 1, 2, 3, 4, 5, 6] [] [0, 1] rfl rfl (by decide) (by decide) (by decide) rfl 0 0 rfl rfl rfl rfl hl.1 rfl (Nat.le_of_ble_eq_true rfl) dX0_verify_8 ⟨Nat.zero_le _, Nat.zero_le _⟩ (fun H locs hP hD hS => ?_)
      have hP : va_P (dC, dI) vwCl (wB h a1 a2 a3 a4 a5 a6 cb ci tp tl vo np rp rl rc sb sa) H := hP
      have hD : va_D A (wB h a1 a2 a3 a4 a5 a6 cb ci tp tl vo np rp rl rc sb sa) := hD
      refine lv_icmp_ge (tgt := 30) hx hb dX0_verify_11 (by decide) (fun c_11 => ?_) (fun c_11 => ?_)
      · have c_11 := (nI_leI (by omega) (by omega)).mp c_11
        refine lv_iconst (v := (-1)) hx hb dX0_verify_30 (by decide) ?_
        refine kv_top (show _ = vfX np sb x from (by rw [← hres, show np / 56 - k = 0 by omega]; rfl)) ?_
        exact hret _ _ _ _ hP hD hS dX0_verify_31
      · have c_11 := kmt (nI_leI (by omega) (by omega)).mpr c_11
        refine lv_aload_n hx hb dX0_verify_14 rfl (lv_at hl 1 rfl) ?_
        refine lv_iload_n hx hb dX0_verify_15 rfl (lv_at hl 0 rfl) ?_
        refine kc_vi (WR := []) (As := [.int (nI k)]) (rest := []) ⟨hx, hb, hml, hown, hts⟩ (c_good l dC dI h a1 a2 a3 a4 a5 a6 cb ci tp tl vo np rp rl rc sb sa H.size (nI k) (by omega) hsb) (cwV 1 hts gX0_verify_X0_good rfl rfl rfl (by decide +kernel) ⟨Nat.le_of_ble_eq_true rfl, Nat.le_of_ble_eq_true rfl⟩) hK hP hD hS hA [0, 1, 2, 3, 4, 5, 6] [] [0, 1] rfl rfl (by decide) (by decide) (by decide) rfl 0 0 rfl rfl rfl rfl hl.1 rfl (Nat.le_of_ble_eq_true rfl) dX0_verify_16 ⟨Nat.zero_le _, Nat.zero_le _⟩ (fun H locs hP hD hS => ?_)
        have hP : va_P (dC, dI) vwCl (wB h a1 a2 a3 a4 a5 a6 cb ci tp tl vo np rp rl rc sb sa) H := hP
        have hD : va_D A (wB h a1 a2 a3 a4 a5 a6 cb ci tp tl vo np rp rl rc sb sa) := hD
        refine kv_top (show _ = bI (gd np sb k) from by rw [goodX_n (by omega)]) ?_
        refine lv_if_ne (tgt := 24) hx hb dX0_verify_19 (by decide) (fun c_19 => ?_) (fun c_19 => ?_)
        · have c_19 := kmt (bI_e _).mpr c_19
          have c_19 := bT c_19
          refine lv_iinc (v := nI (k + 1)) (lv' := [(2, .int (nI (k + 1))), (0, .ref h)]) hx hb dX0_verify_24 hl (k := 0) rfl (ki_inc _) (by decide) rfl (fun ls hl => ?_)
          refine lv_goto (tgt := 6) hx hb dX0_verify_27 (by decide) ?_
          have hP : va_P (dC, dI) vwCl (wB h a1 a2 a3 a4 a5 a6 cb ci tp tl vo np rp rl rc sb sa) H := hP
          have hD : va_D A (wB h a1 a2 a3 a4 a5 a6 cb ci tp tl vo np rp rl rc sb sa) := hD
          exact ih (k + 1) (by omega) (by omega) (by rw [← hres, vfR_step (T := np / 56) (k := k) (by omega), if_pos c_19]) _ _ _ hP hD hS (lv_sub hl [0, 1] rfl)
        · have c_19 := (bI_e _).mp c_19
          refine lv_iload_n hx hb dX0_verify_22 rfl (lv_at hl 0 rfl) ?_
          refine kv_top (show _ = vfX np sb x from (by rw [← hres, vfR_step (T := np / 56) (k := k) (by omega), if_neg (by rw [c_19]; decide)])) ?_
          exact hret _ _ _ _ hP hD hS dX0_verify_23
  have hP : va_P (dC, dI) vwCl (wB h a1 a2 a3 a4 a5 a6 cb ci tp tl vo np rp rl rc sb sa) H := hP
  have hD : va_D A (wB h a1 a2 a3 a4 a5 a6 cb ci tp tl vo np rp rl rc sb sa) := hD
  exact hloopk (2147483647 + 1) x.toInt.toNat (by omega) (by omega) (rfl) _ _ _ hP hD hS (lv_sub hl [0, 1] rfl)
set_option maxHeartbeats 4000000 in
set_option maxRecDepth 100000 in
theorem c_count (l : Launch) (dC : Nat → ClassId) (dI : Nat → Nat → Nat) (h a1 a2 a3 a4 a5 a6 : Nat) (cb ci : ClassId) (tp : Nat → Int32) (tl : Nat) (vo : Nat → Int32) (np : Nat) (rp rl : Nat → Nat) (rc : Nat) (sb sa : Nat → Nat) (sz : Nat) (x : Int32) (hnp : np ≤ 4480) (hsb : ∀ b, b < 80 → sb b < 256) (hrc : rc ≤ 200) (hrow : ∀ k, k < rc → rp k + rl k ≤ 4480 ∧ 6 ≤ rl k) (htl : tl ≤ 300) : Met l yX0_count wsX0_count ({ frames := 5, cells := 0, slots := 0, locals := 107 }) (kPre (dC, dI) vwCl (wB h a1 a2 a3 a4 a5 a6 cb ci tp tl vo np rp rl rc sb sa) (tB cb ci) sz [.ref h, .int x]) (kQi (dC, dI) vwCl (wB h a1 a2 a3 a4 a5 a6 cb ci tp tl vo np rp rl rc sb sa) (tB cb ci) sz (cntX tl np rc rp rl sb x) (wB h a1 a2 a3 a4 a5 a6 cb ci tp tl vo np rp rl rc sb sa)) 0 0 (va_A (wB h a1 a2 a3 a4 a5 a6 cb ci tp tl vo np rp rl rc sb sa) sz) := by
  refine kM_i (cc := cX0_count) (maxL := 2) (by decide) rfl (Nat.le_of_ble_eq_true rfl) ?_
  intro p e s m below meth c A Q ls H locs S hP hK hD hS hA hl hret
  obtain ⟨hx, hb, hml, hown, hts⟩ := id S
  have hin0 : ∀ w ∈ u_ws RX0 TX0 9, w ∈ wsX0_count := fun _ h => List.mem_cons_of_mem _ (List.mem_append_right _ h)
  have lkf29 := hts (.fieldLink RX0 29 "BlockTape" "tapeLength" "I") (by decide +kernel)
  have lkf34 := hts (.fieldLink RX0 34 "BlockTape" "records" "I") (by decide +kernel)
  have lkf44 := hts (.fieldLink RX0 44 "BlockTape" "nextPlace" "I") (by decide +kernel)
  have hl : lv_has ls 2 [(0, .ref h), (1, .int x)] := hl
  refine lv_iload_n hx hb dX0_count_0 rfl (lv_at hl 1 rfl) ?_
  rcases kx_sw x 7 with hsw | ⟨j, hj, rfl⟩
  · refine lv_tableOut (tgt := 82) hx hb dX0_count_1 (by omega) (by decide) ?_
    refine lv_iconst (v := (-1)) hx hb dX0_count_82 (by decide) ?_
    refine kv_top (show _ = cntX tl np rc rp rl sb x from (cntX_out hsw).symm) ?_
    exact hret _ _ _ _ hP hD hS dX0_count_83
  · have hj7 : j = 0 ∨ j = 1 ∨ j = 2 ∨ j = 3 ∨ j = 4 ∨ j = 5 ∨ j = 6 := by omega
    rcases hj7 with rfl | rfl | rfl | rfl | rfl | rfl | rfl
    · refine lv_tableIn (tgt := 44) (off := 43) hx hb dX0_count_1 (by decide) (by decide) (by decide) (by decide) ?_
      refine lv_aload_n hx hb dX0_count_44 rfl (lv_at hl 0 rfl) ?_
      refine va_get (D := (dC, dI)) (ci := 0) (v := .int (nI tl)) (C := RX0) (T := TX0) (N := 9) hx hb hts hin0 hown hK hP 0 rfl rfl 1 (by decide) lkf29 (fun _ h9 => h9) rfl dX0_count_45 ?_
      refine kv_top (show _ = cntX tl np rc rp rl sb (nI 0) from rfl) ?_
      exact hret _ _ _ _ hP hD hS dX0_count_48
    · refine lv_tableIn (tgt := 49) (off := 48) hx hb dX0_count_1 (by decide) (by decide) (by decide) (by decide) ?_
      refine lv_aload_n hx hb dX0_count_49 rfl (lv_at hl 0 rfl) ?_
      refine va_get (D := (dC, dI)) (ci := 0) (v := .int (nI rc)) (C := RX0) (T := TX0) (N := 9) hx hb hts hin0 hown hK hP 0 rfl rfl 6 (by decide) lkf34 (fun _ h9 => h9) rfl dX0_count_50 ?_
      refine kv_top (show _ = cntX tl np rc rp rl sb (nI 1) from rfl) ?_
      exact hret _ _ _ _ hP hD hS dX0_count_53
    · refine lv_tableIn (tgt := 54) (off := 53) hx hb dX0_count_1 (by decide) (by decide) (by decide) (by decide) ?_
      refine lv_aload_n hx hb dX0_count_54 rfl (lv_at hl 0 rfl) ?_
      refine kc_vi (WR := []) (As := []) (rest := []) ⟨hx, hb, hml, hown, hts⟩ (c_blocksWritten l dC dI h a1 a2 a3 a4 a5 a6 cb ci tp tl vo np rp rl rc sb sa H.size (by omega)) (cwV 0 hts gX0_count_X0_blocksWritten rfl rfl rfl (by decide +kernel) ⟨Nat.le_of_ble_eq_true rfl, Nat.le_of_ble_eq_true rfl⟩) hK hP hD hS hA [0, 1, 2, 3, 4, 5, 6] [] [0, 1] rfl rfl (by decide) (by decide) (by decide) rfl 0 0 rfl rfl rfl rfl hl.1 rfl (Nat.le_of_ble_eq_true rfl) dX0_count_55 ⟨Nat.zero_le _, Nat.zero_le _⟩ (fun H locs hP hD hS => ?_)
      have hP : va_P (dC, dI) vwCl (wB h a1 a2 a3 a4 a5 a6 cb ci tp tl vo np rp rl rc sb sa) H := hP
      have hD : va_D A (wB h a1 a2 a3 a4 a5 a6 cb ci tp tl vo np rp rl rc sb sa) := hD
      refine kv_top (show _ = cntX tl np rc rp rl sb (nI 2) from rfl) ?_
      exact hret _ _ _ _ hP hD hS dX0_count_58
    · refine lv_tableIn (tgt := 59) (off := 58) hx hb dX0_count_1 (by decide) (by decide) (by decide) (by decide) ?_
      refine lv_aload_n hx hb dX0_count_59 rfl (lv_at hl 0 rfl) ?_
      refine va_get (D := (dC, dI)) (ci := 0) (v := .int (nI np)) (C := RX0) (T := TX0) (N := 9) hx hb hts hin0 hown hK hP 0 rfl rfl 3 (by decide) lkf44 (fun _ h9 => h9) rfl dX0_count_60 ?_
      refine lv_bipush (v := nI 56) hx hb dX0_count_63 (by decide) ?_
      refine lv_irem hx hb dX0_count_65 (by decide) ?_
      refine kv_top (show _ = nI (np % 56) from pk_rem (by omega) (by omega) (by omega)) ?_
      refine kv_top (show _ = cntX tl np rc rp rl sb (nI 3) from rfl) ?_
      exact hret _ _ _ _ hP hD hS dX0_count_66
    · refine lv_tableIn (tgt := 67) (off := 66) hx hb dX0_count_1 (by decide) (by decide) (by decide) (by decide) ?_
      refine lv_aload_n hx hb dX0_count_67 rfl (lv_at hl 0 rfl) ?_
      refine kc_vi (WR := []) (As := []) (rest := []) ⟨hx, hb, hml, hown, hts⟩ (c_recordsRead l dC dI h a1 a2 a3 a4 a5 a6 cb ci tp tl vo np rp rl rc sb sa H.size (by omega) hsb (by omega) hrow) (cwV 0 hts gX0_count_X0_recordsRead rfl rfl rfl (by decide +kernel) ⟨Nat.le_of_ble_eq_true rfl, Nat.le_of_ble_eq_true rfl⟩) hK hP hD hS hA [0, 1, 2, 3, 4, 5, 6] [] [0, 1] rfl rfl (by decide) (by decide) (by decide) rfl 0 0 rfl rfl rfl rfl hl.1 rfl (Nat.le_of_ble_eq_true rfl) dX0_count_68 ⟨Nat.zero_le _, Nat.zero_le _⟩ (fun H locs hP hD hS => ?_)
      have hP : va_P (dC, dI) vwCl (wB h a1 a2 a3 a4 a5 a6 cb ci tp tl vo np rp rl rc sb sa) H := hP
      have hD : va_D A (wB h a1 a2 a3 a4 a5 a6 cb ci tp tl vo np rp rl rc sb sa) := hD
      refine kv_top (show _ = cntX tl np rc rp rl sb (nI 4) from rfl) ?_
      exact hret _ _ _ _ hP hD hS dX0_count_71
    · refine lv_tableIn (tgt := 72) (off := 71) hx hb dX0_count_1 (by decide) (by decide) (by decide) (by decide) ?_
      refine lv_aload_n hx hb dX0_count_72 rfl (lv_at hl 0 rfl) ?_
      refine kc_vi (WR := []) (As := []) (rest := []) ⟨hx, hb, hml, hown, hts⟩ (c_blocksNotGood l dC dI h a1 a2 a3 a4 a5 a6 cb ci tp tl vo np rp rl rc sb sa H.size (by omega) hsb) (cwV 0 hts gX0_count_X0_blocksNotGood rfl rfl rfl (by decide +kernel) ⟨Nat.le_of_ble_eq_true rfl, Nat.le_of_ble_eq_true rfl⟩) hK hP hD hS hA [0, 1, 2, 3, 4, 5, 6] [] [0, 1] rfl rfl (by decide) (by decide) (by decide) rfl 0 0 rfl rfl rfl rfl hl.1 rfl (Nat.le_of_ble_eq_true rfl) dX0_count_73 ⟨Nat.zero_le _, Nat.zero_le _⟩ (fun H locs hP hD hS => ?_)
      have hP : va_P (dC, dI) vwCl (wB h a1 a2 a3 a4 a5 a6 cb ci tp tl vo np rp rl rc sb sa) H := hP
      have hD : va_D A (wB h a1 a2 a3 a4 a5 a6 cb ci tp tl vo np rp rl rc sb sa) := hD
      refine kv_top (show _ = cntX tl np rc rp rl sb (nI 5) from rfl) ?_
      exact hret _ _ _ _ hP hD hS dX0_count_76
    · refine lv_tableIn (tgt := 77) (off := 76) hx hb dX0_count_1 (by decide) (by decide) (by decide) (by decide) ?_
      refine lv_aload_n hx hb dX0_count_77 rfl (lv_at hl 0 rfl) ?_
      refine kc_vi (WR := []) (As := []) (rest := []) ⟨hx, hb, hml, hown, hts⟩ (c_placesLeft l dC dI h a1 a2 a3 a4 a5 a6 cb ci tp tl vo np rp rl rc sb sa H.size (by omega)) (cwV 0 hts gX0_count_X0_placesLeft rfl rfl rfl (by decide +kernel) ⟨Nat.le_of_ble_eq_true rfl, Nat.le_of_ble_eq_true rfl⟩) hK hP hD hS hA [0, 1, 2, 3, 4, 5, 6] [] [0, 1] rfl rfl (by decide) (by decide) (by decide) rfl 0 0 rfl rfl rfl rfl hl.1 rfl (Nat.le_of_ble_eq_true rfl) dX0_count_78 ⟨Nat.zero_le _, Nat.zero_le _⟩ (fun H locs hP hD hS => ?_)
      have hP : va_P (dC, dI) vwCl (wB h a1 a2 a3 a4 a5 a6 cb ci tp tl vo np rp rl rc sb sa) H := hP
      have hD : va_D A (wB h a1 a2 a3 a4 a5 a6 cb ci tp tl vo np rp rl rc sb sa) := hD
      refine kv_top (show _ = cntX tl np rc rp rl sb (nI 6) from rfl) ?_
      exact hret _ _ _ _ hP hD hS dX0_count_81
set_option maxHeartbeats 4000000 in
set_option maxRecDepth 100000 in
theorem c_readN (l : Launch) (dC : Nat → ClassId) (dI : Nat → Nat → Nat) (h a1 a2 a3 a4 a5 a6 : Nat) (cb ci : ClassId) (tp : Nat → Int32) (tl : Nat) (vo : Nat → Int32) (np : Nat) (rp rl : Nat → Nat) (rc : Nat) (sb sa : Nat → Nat) (sz : Nat) (i : Int32) (x : Int32) (hnp : np ≤ 4480) (hsb : ∀ b, b < 80 → sb b < 256) (hrc : rc ≤ 200) (hrow : ∀ k, k < rc → rp k + rl k ≤ 4480 ∧ 6 ≤ rl k) (hN : rOf (isR np sb rp rl) i rc 0 0 = -1) : Met l yX0_read wsX0_read ({ frames := 5, cells := 0, slots := 0, locals := 108 }) (kPre (dC, dI) vwCl (wB h a1 a2 a3 a4 a5 a6 cb ci tp tl vo np rp rl rc sb sa) (tB cb ci) sz [.ref h, .int i, .int x]) (kQi (dC, dI) vwCl (wB h a1 a2 a3 a4 a5 a6 cb ci tp tl vo np rp rl rc sb sa) (tB cb ci) sz ((-1)) (wB h a1 a2 a3 a4 a5 a6 cb ci tp tl vo np rp rl rc sb sa)) 0 0 (va_A (wB h a1 a2 a3 a4 a5 a6 cb ci tp tl vo np rp rl rc sb sa) sz) := by
  refine kM_i (cc := cX0_read) (maxL := 4) (by decide) rfl (Nat.le_of_ble_eq_true rfl) ?_
  intro p e s m below meth c A Q ls H locs S hP hK hD hS hA hl hret
  obtain ⟨hx, hb, hml, hown, hts⟩ := id S
  have hl : lv_has ls 4 [(0, .ref h), (1, .int i), (2, .int x)] := hl
  refine lv_aload_n hx hb dX0_read_0 rfl (lv_at hl 0 rfl) ?_
  refine lv_iload_n hx hb dX0_read_1 rfl (lv_at hl 1 rfl) ?_
  refine kc_vi (WR := []) (As := [.int i]) (rest := []) ⟨hx, hb, hml, hown, hts⟩ (c_recordOfRead l dC dI h a1 a2 a3 a4 a5 a6 cb ci tp tl vo np rp rl rc sb sa H.size i (by omega) hsb (by omega) hrow) (cwV 1 hts gX0_read_X0_recordOfRead rfl rfl rfl (by decide +kernel) ⟨Nat.le_of_ble_eq_true rfl, Nat.le_of_ble_eq_true rfl⟩) hK hP hD hS hA [0, 1, 2, 3, 4, 5, 6] [] [0, 1] rfl rfl (by decide) (by decide) (by decide) rfl 0 0 rfl rfl rfl rfl hl.1 rfl (Nat.le_of_ble_eq_true rfl) dX0_read_2 ⟨Nat.zero_le _, Nat.zero_le _⟩ (fun H locs hP hD hS => ?_)
  have hP : va_P (dC, dI) vwCl (wB h a1 a2 a3 a4 a5 a6 cb ci tp tl vo np rp rl rc sb sa) H := hP
  have hD : va_D A (wB h a1 a2 a3 a4 a5 a6 cb ci tp tl vo np rp rl rc sb sa) := hD
  refine kv_top (show _ = (-1) from hN) ?_
  refine lv_istore_n (lv' := [(3, .int ((-1))), (0, .ref h), (1, .int i), (2, .int x)]) hx hb dX0_read_5 rfl hl (by decide) rfl (fun ls hl => ?_)
  refine lv_iload_n hx hb dX0_read_6 rfl (lv_at hl 0 rfl) ?_
  refine lv_iconst (v := (-1)) hx hb dX0_read_7 (by decide) ?_
  refine lv_icmp_eq (tgt := 15) hx hb dX0_read_8 (by decide) (fun c_8 => ?_) (fun c_8 => ?_)
  · refine lv_iconst (v := (-1)) hx hb dX0_read_15 (by decide) ?_
    exact hret _ _ _ _ hP hD hS dX0_read_16
  · exact absurd rfl c_8
set_option maxHeartbeats 4000000 in
set_option maxRecDepth 100000 in
theorem c_read (l : Launch) (dC : Nat → ClassId) (dI : Nat → Nat → Nat) (h a1 a2 a3 a4 a5 a6 : Nat) (cb ci : ClassId) (tp : Nat → Int32) (tl : Nat) (vo : Nat → Int32) (np : Nat) (rp rl : Nat → Nat) (rc : Nat) (sb sa : Nat → Nat) (sz : Nat) (i : Int32) (x : Int32) (hnp : np ≤ 4480) (hsb : ∀ b, b < 80 → sb b < 256) (hrc : rc ≤ 200) (hrow : ∀ k, k < rc → rp k + rl k ≤ 4480 ∧ 6 ≤ rl k) (r : Nat) (hr : r < rc) (hN : rOf (isR np sb rp rl) i rc 0 0 = nI r) : Met l yX0_read wsX0_read ({ frames := 5, cells := 0, slots := 0, locals := 108 }) (kPre (dC, dI) vwCl (wB h a1 a2 a3 a4 a5 a6 cb ci tp tl vo np rp rl rc sb sa) (tB cb ci) sz [.ref h, .int i, .int x]) (kQi (dC, dI) vwCl (wB h a1 a2 a3 a4 a5 a6 cb ci tp tl vo np rp rl rc sb sa) (tB cb ci) sz (rdW vo rp rl r x) (wB h a1 a2 a3 a4 a5 a6 cb ci tp tl vo np rp rl rc sb sa)) 0 0 (va_A (wB h a1 a2 a3 a4 a5 a6 cb ci tp tl vo np rp rl rc sb sa) sz) := by
  refine kM_i (cc := cX0_read) (maxL := 4) (by decide) rfl (Nat.le_of_ble_eq_true rfl) ?_
  intro p e s m below meth c A Q ls H locs S hP hK hD hS hA hl hret
  obtain ⟨hx, hb, hml, hown, hts⟩ := id S
  have hin0 : ∀ w ∈ u_ws RX0 TX0 9, w ∈ wsX0_read := fun _ h => List.mem_cons_of_mem _ (List.mem_append_right _ h)
  have lkf20 := hts (.fieldLink RX0 20 "BlockTape" "rowLength" "[I") (by decide +kernel)
  have lkf16 := hts (.fieldLink RX0 16 "BlockTape" "rowPlace" "[I") (by decide +kernel)
  have hl : lv_has ls 4 [(0, .ref h), (1, .int i), (2, .int x)] := hl
  have hrw := hrow r hr
  refine lv_aload_n hx hb dX0_read_0 rfl (lv_at hl 0 rfl) ?_
  refine lv_iload_n hx hb dX0_read_1 rfl (lv_at hl 1 rfl) ?_
  refine kc_vi (WR := []) (As := [.int i]) (rest := []) ⟨hx, hb, hml, hown, hts⟩ (c_recordOfRead l dC dI h a1 a2 a3 a4 a5 a6 cb ci tp tl vo np rp rl rc sb sa H.size i (by omega) hsb (by omega) hrow) (cwV 1 hts gX0_read_X0_recordOfRead rfl rfl rfl (by decide +kernel) ⟨Nat.le_of_ble_eq_true rfl, Nat.le_of_ble_eq_true rfl⟩) hK hP hD hS hA [0, 1, 2, 3, 4, 5, 6] [] [0, 1] rfl rfl (by decide) (by decide) (by decide) rfl 0 0 rfl rfl rfl rfl hl.1 rfl (Nat.le_of_ble_eq_true rfl) dX0_read_2 ⟨Nat.zero_le _, Nat.zero_le _⟩ (fun H locs hP hD hS => ?_)
  have hP : va_P (dC, dI) vwCl (wB h a1 a2 a3 a4 a5 a6 cb ci tp tl vo np rp rl rc sb sa) H := hP
  have hD : va_D A (wB h a1 a2 a3 a4 a5 a6 cb ci tp tl vo np rp rl rc sb sa) := hD
  refine kv_top (show _ = nI r from hN) ?_
  refine lv_istore_n (lv' := [(3, .int (nI r)), (0, .ref h), (1, .int i), (2, .int x)]) hx hb dX0_read_5 rfl hl (by decide) rfl (fun ls hl => ?_)
  refine lv_iload_n hx hb dX0_read_6 rfl (lv_at hl 0 rfl) ?_
  refine lv_iconst (v := (-1)) hx hb dX0_read_7 (by decide) ?_
  refine lv_icmp_eq (tgt := 15) hx hb dX0_read_8 (by decide) (fun c_8 => ?_) (fun c_8 => ?_)
  · exact absurd c_8 (nI_nm1 (by omega))
  · refine lv_iload_n hx hb dX0_read_11 rfl (lv_at hl 3 rfl) ?_
    refine lv_if_ge (tgt := 17) hx hb dX0_read_12 (by decide) (fun c_12 => ?_) (fun c_12 => ?_)
    · have c_12 := (kx_ge0).mp c_12
      refine lv_iload_n hx hb dX0_read_17 rfl (lv_at hl 3 rfl) ?_
      rcases kx_sw x 4 with hsw | ⟨j, hj, rfl⟩
      · refine lv_tableOut (tgt := 92) hx hb dX0_read_18 (by omega) (by decide) ?_
        refine lv_aload_n hx hb dX0_read_92 rfl (lv_at hl 1 rfl) ?_
        refine lv_iload_n hx hb dX0_read_93 rfl (lv_at hl 0 rfl) ?_
        refine lv_iload_n hx hb dX0_read_94 rfl (lv_at hl 3 rfl) ?_
        refine lv_iconst (v := nI 4) hx hb dX0_read_95 (by decide) ?_
        refine lv_isub hx hb dX0_read_96 ?_
        refine kc_vi (WR := []) (As := [.int (nI r), .int (x - (nI 4))]) (rest := []) ⟨hx, hb, hml, hown, hts⟩ (c_recordByte l dC dI h a1 a2 a3 a4 a5 a6 cb ci tp tl vo np rp rl rc sb sa H.size r (x - (nI 4)) (by omega) (hrow _ (by omega))) (cwV 2 hts gX0_read_X0_recordByte rfl rfl rfl (by decide +kernel) ⟨Nat.le_of_ble_eq_true rfl, Nat.le_of_ble_eq_true rfl⟩) hK hP hD hS hA [0, 1, 2, 3, 4, 5, 6] [] [0, 1] rfl rfl (by decide) (by decide) (by decide) rfl 0 0 rfl rfl rfl rfl hl.1 rfl (Nat.le_of_ble_eq_true rfl) dX0_read_97 ⟨Nat.zero_le _, Nat.zero_le _⟩ (fun H locs hP hD hS => ?_)
        have hP : va_P (dC, dI) vwCl (wB h a1 a2 a3 a4 a5 a6 cb ci tp tl vo np rp rl rc sb sa) H := hP
        have hD : va_D A (wB h a1 a2 a3 a4 a5 a6 cb ci tp tl vo np rp rl rc sb sa) := hD
        refine kv_top (show _ = rdW vo rp rl r x from (rdW_hi (by omega)).symm) ?_
        exact hret _ _ _ _ hP hD hS dX0_read_100
      · have hj7 : j = 0 ∨ j = 1 ∨ j = 2 ∨ j = 3 := by omega
        rcases hj7 with rfl | rfl | rfl | rfl
        · refine lv_tableIn (tgt := 48) (off := 30) hx hb dX0_read_18 (by decide) (by decide) (by decide) (by decide) ?_
          refine lv_aload_n hx hb dX0_read_48 rfl (lv_at hl 1 rfl) ?_
          refine lv_iload_n hx hb dX0_read_49 rfl (lv_at hl 0 rfl) ?_
          refine lv_iconst (v := nI 0) hx hb dX0_read_50 (by decide) ?_
          refine kc_vi (WR := []) (As := [.int (nI r), .int (nI 0)]) (rest := []) ⟨hx, hb, hml, hown, hts⟩ (c_rowByte l dC dI h a1 a2 a3 a4 a5 a6 cb ci tp tl vo np rp rl rc sb sa H.size r 0 (by omega) (by omega)) (cwV 2 hts gX0_read_X0_rowByte rfl rfl rfl (by decide +kernel) ⟨Nat.le_of_ble_eq_true rfl, Nat.le_of_ble_eq_true rfl⟩) hK hP hD hS hA [0, 1, 2, 3, 4, 5, 6] [] [0, 1] rfl rfl (by decide) (by decide) (by decide) rfl 0 0 rfl rfl rfl rfl hl.1 rfl (Nat.le_of_ble_eq_true rfl) dX0_read_51 ⟨Nat.zero_le _, Nat.zero_le _⟩ (fun H locs hP hD hS => ?_)
          have hP : va_P (dC, dI) vwCl (wB h a1 a2 a3 a4 a5 a6 cb ci tp tl vo np rp rl rc sb sa) H := hP
          have hD : va_D A (wB h a1 a2 a3 a4 a5 a6 cb ci tp tl vo np rp rl rc sb sa) := hD
          refine kv_top (show _ = rdW vo rp rl r (nI 0) from rfl) ?_
          exact hret _ _ _ _ hP hD hS dX0_read_54
        · refine lv_tableIn (tgt := 55) (off := 37) hx hb dX0_read_18 (by decide) (by decide) (by decide) (by decide) ?_
          refine lv_aload_n hx hb dX0_read_55 rfl (lv_at hl 1 rfl) ?_
          refine lv_iload_n hx hb dX0_read_56 rfl (lv_at hl 0 rfl) ?_
          refine lv_iconst (v := nI 1) hx hb dX0_read_57 (by decide) ?_
          refine kc_vi (WR := []) (As := [.int (nI r), .int (nI 1)]) (rest := []) ⟨hx, hb, hml, hown, hts⟩ (c_rowByte l dC dI h a1 a2 a3 a4 a5 a6 cb ci tp tl vo np rp rl rc sb sa H.size r 1 (by omega) (by omega)) (cwV 2 hts gX0_read_X0_rowByte rfl rfl rfl (by decide +kernel) ⟨Nat.le_of_ble_eq_true rfl, Nat.le_of_ble_eq_true rfl⟩) hK hP hD hS hA [0, 1, 2, 3, 4, 5, 6] [] [0, 1] rfl rfl (by decide) (by decide) (by decide) rfl 0 0 rfl rfl rfl rfl hl.1 rfl (Nat.le_of_ble_eq_true rfl) dX0_read_58 ⟨Nat.zero_le _, Nat.zero_le _⟩ (fun H locs hP hD hS => ?_)
          have hP : va_P (dC, dI) vwCl (wB h a1 a2 a3 a4 a5 a6 cb ci tp tl vo np rp rl rc sb sa) H := hP
          have hD : va_D A (wB h a1 a2 a3 a4 a5 a6 cb ci tp tl vo np rp rl rc sb sa) := hD
          refine lv_bipush (v := nI 8) hx hb dX0_read_61 (by decide) ?_
          refine lv_ishl hx hb dX0_read_63 ?_
          refine lv_aload_n hx hb dX0_read_64 rfl (lv_at hl 1 rfl) ?_
          refine lv_iload_n hx hb dX0_read_65 rfl (lv_at hl 0 rfl) ?_
          refine lv_iconst (v := nI 2) hx hb dX0_read_66 (by decide) ?_
          refine kc_vi (WR := []) (As := [.int (nI r), .int (nI 2)]) (rest := [.int ((vo (ix (rp r + 1)) &&& nI 255) <<< ((nI 8) &&& 31))]) ⟨hx, hb, hml, hown, hts⟩ (c_rowByte l dC dI h a1 a2 a3 a4 a5 a6 cb ci tp tl vo np rp rl rc sb sa H.size r 2 (by omega) (by omega)) (cwV 2 hts gX0_read_X0_rowByte rfl rfl rfl (by decide +kernel) ⟨Nat.le_of_ble_eq_true rfl, Nat.le_of_ble_eq_true rfl⟩) hK hP hD hS hA [0, 1, 2, 3, 4, 5, 6] [] [0, 1] rfl rfl (by decide) (by decide) (by decide) rfl 0 0 rfl rfl rfl rfl hl.1 rfl (Nat.le_of_ble_eq_true rfl) dX0_read_67 ⟨Nat.zero_le _, Nat.zero_le _⟩ (fun H locs hP hD hS => ?_)
          have hP : va_P (dC, dI) vwCl (wB h a1 a2 a3 a4 a5 a6 cb ci tp tl vo np rp rl rc sb sa) H := hP
          have hD : va_D A (wB h a1 a2 a3 a4 a5 a6 cb ci tp tl vo np rp rl rc sb sa) := hD
          refine lv_ior hx hb dX0_read_70 ?_
          refine kv_top (show _ = rdW vo rp rl r (nI 1) from rfl) ?_
          exact hret _ _ _ _ hP hD hS dX0_read_71
        · refine lv_tableIn (tgt := 72) (off := 54) hx hb dX0_read_18 (by decide) (by decide) (by decide) (by decide) ?_
          refine lv_aload_n hx hb dX0_read_72 rfl (lv_at hl 1 rfl) ?_
          refine va_get (D := (dC, dI)) (ci := 0) (v := .ref a4) (C := RX0) (T := TX0) (N := 9) hx hb hts hin0 hown hK hP 0 rfl rfl 5 (by decide) lkf20 (fun _ h9 => h9) rfl dX0_read_73 ?_
          refine lv_iload_n hx hb dX0_read_76 rfl (lv_at hl 0 rfl) ?_
          refine ka_ialdN hx hb hK hP 4 1 rfl rfl (k := r) (by omega) (by decide) dX0_read_77 ?_
          refine lv_bipush (v := nI 6) hx hb dX0_read_78 (by decide) ?_
          refine lv_isub hx hb dX0_read_80 ?_
          refine kv_top (show _ = nI ((rl r) - 6) from pk_sub (by omega)) ?_
          refine kv_top (show _ = rdW vo rp rl r (nI 2) from rfl) ?_
          exact hret _ _ _ _ hP hD hS dX0_read_81
        · refine lv_tableIn (tgt := 82) (off := 64) hx hb dX0_read_18 (by decide) (by decide) (by decide) (by decide) ?_
          refine lv_aload_n hx hb dX0_read_82 rfl (lv_at hl 1 rfl) ?_
          refine va_get (D := (dC, dI)) (ci := 0) (v := .ref a3) (C := RX0) (T := TX0) (N := 9) hx hb hts hin0 hown hK hP 0 rfl rfl 4 (by decide) lkf16 (fun _ h9 => h9) rfl dX0_read_83 ?_
          refine lv_iload_n hx hb dX0_read_86 rfl (lv_at hl 0 rfl) ?_
          refine ka_ialdN hx hb hK hP 3 1 rfl rfl (k := r) (by omega) (by decide) dX0_read_87 ?_
          refine lv_bipush (v := nI 56) hx hb dX0_read_88 (by decide) ?_
          refine lv_idiv hx hb dX0_read_90 (by decide) ?_
          refine kv_top (show _ = nI ((rp r) / 56) from pk_div (by omega) (by omega) (by omega)) ?_
          refine kv_top (show _ = rdW vo rp rl r (nI 3) from rfl) ?_
          exact hret _ _ _ _ hP hD hS dX0_read_91
    · have c_12 := kmt (kx_ge0).mpr c_12
      refine lv_iconst (v := (-1)) hx hb dX0_read_15 (by decide) ?_
      refine kv_top (show _ = rdW vo rp rl r x from (rdW_lo (by omega)).symm) ?_
      exact hret _ _ _ _ hP hD hS dX0_read_16
