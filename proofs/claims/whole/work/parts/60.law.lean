section KL
variable {p : Program} {l : Launch} {e : Env} {R : Room} {s : State} {m : MethodId} {args : Array Value} {below : List Frame} {meth : Method} {c : Code} {H : Heap} {locs : List Loc} {cells slots : Nat} {Q : State → Prop}
variable {cc : ByteArray} {pc : Nat} {ls : Array Slot} {rest : List Value} {A : Nat → Prop} {H0 : Heap}
theorem ka_sld (hexec : p.tables.exec = Jvm.exec) (hb : c.code = cc) {b L : Nat} {xs : Nat → Int32} (hX : va_X b L xs s H0) (hbl : b < H0.size) (hbA : ¬ A b) (hS : va_S A H0 H locs) {k : Nat} (hk : k < L) (hn : L < 2 ^ 31) (hdg : decode cc pc = .ok (.iaload, 1))
    (kk : W p l e R s m args below meth c H locs cells slots Q (F0 m (pc + 1) ls (.int (xs k) :: rest))) : W p l e R s m args below meth c H locs cells slots Q (F0 m pc ls (.int (nI k) :: .ref b :: rest)) := by
  refine va_sld hexec hb hX hbl hbA hS (vp_in_nI hk hn) hdg ?_
  rw [nI_clamp (by omega)]; exact kk
end KL
set_option maxHeartbeats 4000000 in
set_option maxRecDepth 100000 in
theorem law_loop {p : Program} {l : Launch} {e : Env} {s : State} {m : MethodId} {below : List Frame} {meth : Method} {c : Code} {dC : Nat → ClassId} {dI : Nat → Nat → Nat} {bS L : Nat} {xs : Nat → Int32} (hL : L ≤ 2048) (C0 : lw_At p s m meth c bS L xs) (h a1 a2 a3 a4 a5 a6 : Nat) (cb ci : ClassId) (g m1 m2 m3 m4 m5 m6 m7 m8 m9 m10 m11 m12 m13 : Nat) (ck : ClassId) (hK : va_K (dC, dI) vwCl [(cb, .byte), (ci, .int), (ck, .int)] s) :
    ∀ (n i : Nat) (u : BSt) (q : MSt), i ≤ L → L + 4 ≤ i + n → Rel u q → ∀ (H : Heap) (locs : List Loc) (ls : Array Slot), va_P (dC, dI) vwCl (wBs h a1 a2 a3 a4 a5 a6 cb ci u ++ wMs g m1 m2 m3 m4 m5 m6 m7 m8 m9 m10 m11 m12 m13 ck u q) H → va_D (fun q : Nat => s.heap.size ≤ q) (wBs h a1 a2 a3 a4 a5 a6 cb ci u ++ wMs g m1 m2 m3 m4 m5 m6 m7 m8 m9 m10 m11 m12 m13 ck u q) → va_S (fun q : Nat => s.heap.size ≤ q) s.heap H locs → lv_has ls 4 [(3, .int (nI i)), (2, .ref g), (1, .ref h), (0, .ref bS)] → W p l e room_1 s m #[Value.ref bS] below meth c H locs 21 16788 (lw_Z below #[Value.ref bS] s) (F0 m 18 ls []) := by
  obtain ⟨hx, hb, hr, hml, hown, hts, hX, hbl, hlocks, hgv⟩ := C0
  have hown : s.vm.findClass RL = some m.cls := hown
  have hA : ∀ q : Nat, s.heap.size ≤ q → (fun q : Nat => s.heap.size ≤ q) q := fun _ h => h
  have hbA : ¬ (fun q : Nat => s.heap.size ≤ q) bS := Nat.not_le.mpr hbl
  have S : CallFix p m c code 4 s #[Value.ref bS] lw_tbl RL := ⟨hx, hb, hml, hown, hts⟩
  intro n
  induction n with
  | zero => intro i u q h1 h2; exact absurd h2 (by omega)
  | succ n ih =>
    intro i u q hi hin hR H locs ls hP hD hS hl
    refine lv_iload_n hx hb dL_law_18 rfl (lv_at hl 0 rfl) ?_
    refine lv_aload_n hx hb dL_law_19 rfl (lv_at hl 3 rfl) ?_
    refine va_slen hx hb hX hbl hbA hS dL_law_20 ?_
    refine kv_top (show Int32.ofNat L = nI L from rfl) ?_
    refine lv_iconst (v := nI 4) hx hb dL_law_21 (by decide) ?_
    refine lv_isub hx hb dL_law_22 ?_
    refine lv_icmp_gt (tgt := 374) hx hb dL_law_23 (by decide) (fun c_23 => ?_) (fun c_23 => ?_)
    · refine lv_iconst (v := 1) hx hb dL_law_374 (by decide) ?_
      refine va_forget (fun q hq => hS.2.2 q hq) ?_
      exact lw_ret hx hb hr hlocks dL_law_375
    have c_23 := kmt (kx_lt (by omega)).mpr c_23
    rw [pk_sub_toInt (by omega) (by omega)] at c_23
    refine lv_aload_n hx hb dL_law_26 rfl (lv_at hl 3 rfl) ?_
    refine lv_iload_n hx hb dL_law_27 rfl (lv_at hl 0 rfl) ?_
    refine ka_sld hx hb hX hbl hbA hS (k := i) (by omega) (by omega) dL_law_28 ?_
    refine lv_bipush (v := nI 15) hx hb dL_law_29 (by decide) ?_
    refine lv_iand hx hb dL_law_31 ?_
    obtain ⟨j, hj, ej⟩ := pk_andE (xs i) (m := nI 15) 4 (by decide)
    refine kv_top ej ?_
    have hj10 : j = 0 ∨ j = 1 ∨ j = 2 ∨ j = 3 ∨ j = 4 ∨ j = 5 ∨ j = 6 ∨ j = 7 ∨ j = 8 ∨ j = 9 ∨ 10 ≤ j := by omega
    rcases hj10 with rfl | rfl | rfl | rfl | rfl | rfl | rfl | rfl | rfl | rfl | hj10
    · refine lv_tableIn (tgt := 88) (off := 56) hx hb dL_law_32 (by decide) (by decide) (by decide) (by decide) ?_
      obtain ⟨r, u2, q2, hR2, hB, hM⟩ := op_feed hR (xs (i + 1)) (xs (i + 2))
      refine lv_aload_n hx hb dL_law_88 rfl (lv_at hl 2 rfl) ?_
      refine lv_aload_n hx hb dL_law_89 rfl (lv_at hl 3 rfl) ?_
      refine lv_iload_n hx hb dL_law_90 rfl (lv_at hl 0 rfl) ?_
      refine lv_iconst (v := nI 1) hx hb dL_law_91 (by decide) ?_
      refine lv_iadd hx hb dL_law_92 ?_
      refine kv_top (show _ = nI (i + 1) from nI_add _ _) ?_
      refine ka_sld hx hb hX hbl hbA hS (k := i + 1) (by omega) (by omega) dL_law_93 ?_
      refine lv_aload_n hx hb dL_law_94 rfl (lv_at hl 3 rfl) ?_
      refine lv_iload_n hx hb dL_law_95 rfl (lv_at hl 0 rfl) ?_
      refine lv_iconst (v := nI 2) hx hb dL_law_96 (by decide) ?_
      refine lv_iadd hx hb dL_law_97 ?_
      refine kv_top (show _ = nI (i + 2) from nI_add _ _) ?_
      refine ka_sld hx hb hX hbl hbA hS (k := i + 2) (by omega) (by omega) dL_law_98 ?_
      refine kc_vi (WR := wMs g m1 m2 m3 m4 m5 m6 m7 m8 m9 m10 m11 m12 m13 ck u q) (As := [.int (xs (i + 1)), .int (xs (i + 2))]) (rest := []) S (hB l dC dI h a1 a2 a3 a4 a5 a6 cb ci H.size) (cwV 2 hts gT_X0_feed rfl rfl rfl (by decide +kernel) ⟨Nat.le_of_ble_eq_true rfl, Nat.le_of_ble_eq_true rfl⟩) hK hP hD hS hA [0, 1, 2, 3, 4, 5, 6] [7, 8, 9, 10, 11, 12, 13, 14, 15, 16, 17, 18, 19, 20] [0, 1] rfl rfl (by decide) (by decide) (by decide) rfl 0 0 rfl rfl rfl rfl hl.1 rfl (Nat.le_of_ble_eq_true rfl) dL_law_99 ⟨Nat.le_of_ble_eq_true rfl, Nat.le_of_ble_eq_true rfl⟩ (fun H locs hP hD hS => ?_)
      refine lv_aload_n hx hb dL_law_102 rfl (lv_at hl 1 rfl) ?_
      refine lv_aload_n hx hb dL_law_103 rfl (lv_at hl 3 rfl) ?_
      refine lv_iload_n hx hb dL_law_104 rfl (lv_at hl 0 rfl) ?_
      refine lv_iconst (v := nI 1) hx hb dL_law_105 (by decide) ?_
      refine lv_iadd hx hb dL_law_106 ?_
      refine kv_top (show _ = nI (i + 1) from nI_add _ _) ?_
      refine ka_sld hx hb hX hbl hbA hS (k := i + 1) (by omega) (by omega) dL_law_107 ?_
      refine lv_aload_n hx hb dL_law_108 rfl (lv_at hl 3 rfl) ?_
      refine lv_iload_n hx hb dL_law_109 rfl (lv_at hl 0 rfl) ?_
      refine lv_iconst (v := nI 2) hx hb dL_law_110 (by decide) ?_
      refine lv_iadd hx hb dL_law_111 ?_
      refine kv_top (show _ = nI (i + 2) from nI_add _ _) ?_
      refine ka_sld hx hb hX hbl hbA hS (k := i + 2) (by omega) (by omega) dL_law_112 ?_
      refine kc_vi (WR := wBs h a1 a2 a3 a4 a5 a6 cb ci u2) (As := [.int (xs (i + 1)), .int (xs (i + 2))]) (rest := [.int r]) S (hM l dC dI g m1 m2 m3 m4 m5 m6 m7 m8 m9 m10 m11 m12 m13 ck H.size) (cwV 2 hts gT_M_feed rfl rfl rfl (by decide +kernel) ⟨Nat.le_of_ble_eq_true rfl, Nat.le_of_ble_eq_true rfl⟩) hK hP hD hS hA [0, 1, 2, 3, 4, 5, 6, 7, 8, 9, 10, 11, 12, 13] [14, 15, 16, 17, 18, 19, 20] [2] rfl rfl (by decide) (by decide) (by decide) rfl 0 1 rfl rfl rfl rfl hl.1 rfl (Nat.le_of_ble_eq_true rfl) dL_law_113 ⟨Nat.le_of_ble_eq_true rfl, Nat.le_of_ble_eq_true rfl⟩ (fun H locs hP hD hS => ?_)
      refine lv_icmp_eq (tgt := 368) hx hb dL_law_116 (by decide) (fun c_9 => ?_) (fun c_9 => absurd rfl c_9)
      refine lv_iinc (v := nI (i + 4)) (lv' := [(3, .int (nI (i + 4))), (2, .ref g), (1, .ref h), (0, .ref bS)]) hx hb dL_law_368 hl (k := 0) rfl (ki_inc4 i) (by decide) rfl (fun ls hl => ?_)
      refine lv_goto (tgt := 18) hx hb dL_law_371 (by decide) ?_
      exact ih (i + 4) u2 q2 (by omega) (by omega) hR2 _ _ _ hP hD hS hl
    · refine lv_tableIn (tgt := 121) (off := 89) hx hb dL_law_32 (by decide) (by decide) (by decide) (by decide) ?_
      obtain ⟨r, u2, q2, hR2, hB, hM⟩ := op_put hR (xs (i + 1)) (xs (i + 2))
      refine lv_aload_n hx hb dL_law_121 rfl (lv_at hl 2 rfl) ?_
      refine lv_aload_n hx hb dL_law_122 rfl (lv_at hl 3 rfl) ?_
      refine lv_iload_n hx hb dL_law_123 rfl (lv_at hl 0 rfl) ?_
      refine lv_iconst (v := nI 1) hx hb dL_law_124 (by decide) ?_
      refine lv_iadd hx hb dL_law_125 ?_
      refine kv_top (show _ = nI (i + 1) from nI_add _ _) ?_
      refine ka_sld hx hb hX hbl hbA hS (k := i + 1) (by omega) (by omega) dL_law_126 ?_
      refine lv_aload_n hx hb dL_law_127 rfl (lv_at hl 3 rfl) ?_
      refine lv_iload_n hx hb dL_law_128 rfl (lv_at hl 0 rfl) ?_
      refine lv_iconst (v := nI 2) hx hb dL_law_129 (by decide) ?_
      refine lv_iadd hx hb dL_law_130 ?_
      refine kv_top (show _ = nI (i + 2) from nI_add _ _) ?_
      refine ka_sld hx hb hX hbl hbA hS (k := i + 2) (by omega) (by omega) dL_law_131 ?_
      refine kc_vi (WR := wMs g m1 m2 m3 m4 m5 m6 m7 m8 m9 m10 m11 m12 m13 ck u q) (As := [.int (xs (i + 1)), .int (xs (i + 2))]) (rest := []) S (hB l dC dI h a1 a2 a3 a4 a5 a6 cb ci H.size) (cwV 2 hts gT_X0_put rfl rfl rfl (by decide +kernel) ⟨Nat.le_of_ble_eq_true rfl, Nat.le_of_ble_eq_true rfl⟩) hK hP hD hS hA [0, 1, 2, 3, 4, 5, 6] [7, 8, 9, 10, 11, 12, 13, 14, 15, 16, 17, 18, 19, 20] [0, 1] rfl rfl (by decide) (by decide) (by decide) rfl 0 0 rfl rfl rfl rfl hl.1 rfl (Nat.le_of_ble_eq_true rfl) dL_law_132 ⟨Nat.le_of_ble_eq_true rfl, Nat.le_of_ble_eq_true rfl⟩ (fun H locs hP hD hS => ?_)
      refine lv_aload_n hx hb dL_law_135 rfl (lv_at hl 1 rfl) ?_
      refine lv_aload_n hx hb dL_law_136 rfl (lv_at hl 3 rfl) ?_
      refine lv_iload_n hx hb dL_law_137 rfl (lv_at hl 0 rfl) ?_
      refine lv_iconst (v := nI 1) hx hb dL_law_138 (by decide) ?_
      refine lv_iadd hx hb dL_law_139 ?_
      refine kv_top (show _ = nI (i + 1) from nI_add _ _) ?_
      refine ka_sld hx hb hX hbl hbA hS (k := i + 1) (by omega) (by omega) dL_law_140 ?_
      refine lv_aload_n hx hb dL_law_141 rfl (lv_at hl 3 rfl) ?_
      refine lv_iload_n hx hb dL_law_142 rfl (lv_at hl 0 rfl) ?_
      refine lv_iconst (v := nI 2) hx hb dL_law_143 (by decide) ?_
      refine lv_iadd hx hb dL_law_144 ?_
      refine kv_top (show _ = nI (i + 2) from nI_add _ _) ?_
      refine ka_sld hx hb hX hbl hbA hS (k := i + 2) (by omega) (by omega) dL_law_145 ?_
      refine kc_vi (WR := wBs h a1 a2 a3 a4 a5 a6 cb ci u2) (As := [.int (xs (i + 1)), .int (xs (i + 2))]) (rest := [.int r]) S (hM l dC dI g m1 m2 m3 m4 m5 m6 m7 m8 m9 m10 m11 m12 m13 ck H.size) (cwV 2 hts gT_M_put rfl rfl rfl (by decide +kernel) ⟨Nat.le_of_ble_eq_true rfl, Nat.le_of_ble_eq_true rfl⟩) hK hP hD hS hA [0, 1, 2, 3, 4, 5, 6, 7, 8, 9, 10, 11, 12, 13] [14, 15, 16, 17, 18, 19, 20] [2] rfl rfl (by decide) (by decide) (by decide) rfl 0 1 rfl rfl rfl rfl hl.1 rfl (Nat.le_of_ble_eq_true rfl) dL_law_146 ⟨Nat.le_of_ble_eq_true rfl, Nat.le_of_ble_eq_true rfl⟩ (fun H locs hP hD hS => ?_)
      refine lv_icmp_eq (tgt := 368) hx hb dL_law_149 (by decide) (fun c_9 => ?_) (fun c_9 => absurd rfl c_9)
      refine lv_iinc (v := nI (i + 4)) (lv' := [(3, .int (nI (i + 4))), (2, .ref g), (1, .ref h), (0, .ref bS)]) hx hb dL_law_368 hl (k := 0) rfl (ki_inc4 i) (by decide) rfl (fun ls hl => ?_)
      refine lv_goto (tgt := 18) hx hb dL_law_371 (by decide) ?_
      exact ih (i + 4) u2 q2 (by omega) (by omega) hR2 _ _ _ hP hD hS hl
    · refine lv_tableIn (tgt := 154) (off := 122) hx hb dL_law_32 (by decide) (by decide) (by decide) (by decide) ?_
      obtain ⟨r, u2, q2, hR2, hB, hM⟩ := op_close hR
      refine lv_aload_n hx hb dL_law_154 rfl (lv_at hl 2 rfl) ?_
      refine kc_vi (WR := wMs g m1 m2 m3 m4 m5 m6 m7 m8 m9 m10 m11 m12 m13 ck u q) (As := []) (rest := []) S (hB l dC dI h a1 a2 a3 a4 a5 a6 cb ci H.size) (cwV 0 hts gT_X0_close rfl rfl rfl (by decide +kernel) ⟨Nat.le_of_ble_eq_true rfl, Nat.le_of_ble_eq_true rfl⟩) hK hP hD hS hA [0, 1, 2, 3, 4, 5, 6] [7, 8, 9, 10, 11, 12, 13, 14, 15, 16, 17, 18, 19, 20] [0, 1] rfl rfl (by decide) (by decide) (by decide) rfl 0 0 rfl rfl rfl rfl hl.1 rfl (Nat.le_of_ble_eq_true rfl) dL_law_155 ⟨Nat.le_of_ble_eq_true rfl, Nat.le_of_ble_eq_true rfl⟩ (fun H locs hP hD hS => ?_)
      refine lv_aload_n hx hb dL_law_158 rfl (lv_at hl 1 rfl) ?_
      refine kc_vi (WR := wBs h a1 a2 a3 a4 a5 a6 cb ci u2) (As := []) (rest := [.int r]) S (hM l dC dI g m1 m2 m3 m4 m5 m6 m7 m8 m9 m10 m11 m12 m13 ck H.size) (cwV 0 hts gT_M_close rfl rfl rfl (by decide +kernel) ⟨Nat.le_of_ble_eq_true rfl, Nat.le_of_ble_eq_true rfl⟩) hK hP hD hS hA [0, 1, 2, 3, 4, 5, 6, 7, 8, 9, 10, 11, 12, 13] [14, 15, 16, 17, 18, 19, 20] [2] rfl rfl (by decide) (by decide) (by decide) rfl 0 1 rfl rfl rfl rfl hl.1 rfl (Nat.le_of_ble_eq_true rfl) dL_law_159 ⟨Nat.le_of_ble_eq_true rfl, Nat.le_of_ble_eq_true rfl⟩ (fun H locs hP hD hS => ?_)
      refine lv_icmp_eq (tgt := 368) hx hb dL_law_162 (by decide) (fun c_9 => ?_) (fun c_9 => absurd rfl c_9)
      refine lv_iinc (v := nI (i + 4)) (lv' := [(3, .int (nI (i + 4))), (2, .ref g), (1, .ref h), (0, .ref bS)]) hx hb dL_law_368 hl (k := 0) rfl (ki_inc4 i) (by decide) rfl (fun ls hl => ?_)
      refine lv_goto (tgt := 18) hx hb dL_law_371 (by decide) ?_
      exact ih (i + 4) u2 q2 (by omega) (by omega) hR2 _ _ _ hP hD hS hl
    · refine lv_tableIn (tgt := 167) (off := 135) hx hb dL_law_32 (by decide) (by decide) (by decide) (by decide) ?_
      obtain ⟨r, u2, q2, hR2, hB, hM⟩ := op_spoil hR (xs (i + 1)) (xs (i + 2)) (xs (i + 3))
      refine lv_aload_n hx hb dL_law_167 rfl (lv_at hl 2 rfl) ?_
      refine lv_aload_n hx hb dL_law_168 rfl (lv_at hl 3 rfl) ?_
      refine lv_iload_n hx hb dL_law_169 rfl (lv_at hl 0 rfl) ?_
      refine lv_iconst (v := nI 1) hx hb dL_law_170 (by decide) ?_
      refine lv_iadd hx hb dL_law_171 ?_
      refine kv_top (show _ = nI (i + 1) from nI_add _ _) ?_
      refine ka_sld hx hb hX hbl hbA hS (k := i + 1) (by omega) (by omega) dL_law_172 ?_
      refine lv_aload_n hx hb dL_law_173 rfl (lv_at hl 3 rfl) ?_
      refine lv_iload_n hx hb dL_law_174 rfl (lv_at hl 0 rfl) ?_
      refine lv_iconst (v := nI 2) hx hb dL_law_175 (by decide) ?_
      refine lv_iadd hx hb dL_law_176 ?_
      refine kv_top (show _ = nI (i + 2) from nI_add _ _) ?_
      refine ka_sld hx hb hX hbl hbA hS (k := i + 2) (by omega) (by omega) dL_law_177 ?_
      refine lv_aload_n hx hb dL_law_178 rfl (lv_at hl 3 rfl) ?_
      refine lv_iload_n hx hb dL_law_179 rfl (lv_at hl 0 rfl) ?_
      refine lv_iconst (v := nI 3) hx hb dL_law_180 (by decide) ?_
      refine lv_iadd hx hb dL_law_181 ?_
      refine kv_top (show _ = nI (i + 3) from nI_add _ _) ?_
      refine ka_sld hx hb hX hbl hbA hS (k := i + 3) (by omega) (by omega) dL_law_182 ?_
      refine kc_vi (WR := wMs g m1 m2 m3 m4 m5 m6 m7 m8 m9 m10 m11 m12 m13 ck u q) (As := [.int (xs (i + 1)), .int (xs (i + 2)), .int (xs (i + 3))]) (rest := []) S (hB l dC dI h a1 a2 a3 a4 a5 a6 cb ci H.size) (cwV 3 hts gT_X0_spoil rfl rfl rfl (by decide +kernel) ⟨Nat.le_of_ble_eq_true rfl, Nat.le_of_ble_eq_true rfl⟩) hK hP hD hS hA [0, 1, 2, 3, 4, 5, 6] [7, 8, 9, 10, 11, 12, 13, 14, 15, 16, 17, 18, 19, 20] [0, 1] rfl rfl (by decide) (by decide) (by decide) rfl 0 0 rfl rfl rfl rfl hl.1 rfl (Nat.le_of_ble_eq_true rfl) dL_law_183 ⟨Nat.le_of_ble_eq_true rfl, Nat.le_of_ble_eq_true rfl⟩ (fun H locs hP hD hS => ?_)
      refine lv_aload_n hx hb dL_law_186 rfl (lv_at hl 1 rfl) ?_
      refine lv_aload_n hx hb dL_law_187 rfl (lv_at hl 3 rfl) ?_
      refine lv_iload_n hx hb dL_law_188 rfl (lv_at hl 0 rfl) ?_
      refine lv_iconst (v := nI 1) hx hb dL_law_189 (by decide) ?_
      refine lv_iadd hx hb dL_law_190 ?_
      refine kv_top (show _ = nI (i + 1) from nI_add _ _) ?_
      refine ka_sld hx hb hX hbl hbA hS (k := i + 1) (by omega) (by omega) dL_law_191 ?_
      refine lv_aload_n hx hb dL_law_192 rfl (lv_at hl 3 rfl) ?_
      refine lv_iload_n hx hb dL_law_193 rfl (lv_at hl 0 rfl) ?_
      refine lv_iconst (v := nI 2) hx hb dL_law_194 (by decide) ?_
      refine lv_iadd hx hb dL_law_195 ?_
      refine kv_top (show _ = nI (i + 2) from nI_add _ _) ?_
      refine ka_sld hx hb hX hbl hbA hS (k := i + 2) (by omega) (by omega) dL_law_196 ?_
      refine lv_aload_n hx hb dL_law_197 rfl (lv_at hl 3 rfl) ?_
      refine lv_iload_n hx hb dL_law_198 rfl (lv_at hl 0 rfl) ?_
      refine lv_iconst (v := nI 3) hx hb dL_law_199 (by decide) ?_
      refine lv_iadd hx hb dL_law_200 ?_
      refine kv_top (show _ = nI (i + 3) from nI_add _ _) ?_
      refine ka_sld hx hb hX hbl hbA hS (k := i + 3) (by omega) (by omega) dL_law_201 ?_
      refine kc_vi (WR := wBs h a1 a2 a3 a4 a5 a6 cb ci u2) (As := [.int (xs (i + 1)), .int (xs (i + 2)), .int (xs (i + 3))]) (rest := [.int r]) S (hM l dC dI g m1 m2 m3 m4 m5 m6 m7 m8 m9 m10 m11 m12 m13 ck H.size) (cwV 3 hts gT_M_spoil rfl rfl rfl (by decide +kernel) ⟨Nat.le_of_ble_eq_true rfl, Nat.le_of_ble_eq_true rfl⟩) hK hP hD hS hA [0, 1, 2, 3, 4, 5, 6, 7, 8, 9, 10, 11, 12, 13] [14, 15, 16, 17, 18, 19, 20] [2] rfl rfl (by decide) (by decide) (by decide) rfl 0 1 rfl rfl rfl rfl hl.1 rfl (Nat.le_of_ble_eq_true rfl) dL_law_202 ⟨Nat.le_of_ble_eq_true rfl, Nat.le_of_ble_eq_true rfl⟩ (fun H locs hP hD hS => ?_)
      refine lv_icmp_eq (tgt := 368) hx hb dL_law_205 (by decide) (fun c_9 => ?_) (fun c_9 => absurd rfl c_9)
      refine lv_iinc (v := nI (i + 4)) (lv' := [(3, .int (nI (i + 4))), (2, .ref g), (1, .ref h), (0, .ref bS)]) hx hb dL_law_368 hl (k := 0) rfl (ki_inc4 i) (by decide) rfl (fun ls hl => ?_)
      refine lv_goto (tgt := 18) hx hb dL_law_371 (by decide) ?_
      exact ih (i + 4) u2 q2 (by omega) (by omega) hR2 _ _ _ hP hD hS hl
    · refine lv_tableIn (tgt := 210) (off := 178) hx hb dL_law_32 (by decide) (by decide) (by decide) (by decide) ?_
      obtain ⟨r, u2, q2, hR2, hB, hM⟩ := op_heal hR (xs (i + 1))
      refine lv_aload_n hx hb dL_law_210 rfl (lv_at hl 2 rfl) ?_
      refine lv_aload_n hx hb dL_law_211 rfl (lv_at hl 3 rfl) ?_
      refine lv_iload_n hx hb dL_law_212 rfl (lv_at hl 0 rfl) ?_
      refine lv_iconst (v := nI 1) hx hb dL_law_213 (by decide) ?_
      refine lv_iadd hx hb dL_law_214 ?_
      refine kv_top (show _ = nI (i + 1) from nI_add _ _) ?_
      refine ka_sld hx hb hX hbl hbA hS (k := i + 1) (by omega) (by omega) dL_law_215 ?_
      refine kc_vi (WR := wMs g m1 m2 m3 m4 m5 m6 m7 m8 m9 m10 m11 m12 m13 ck u q) (As := [.int (xs (i + 1))]) (rest := []) S (hB l dC dI h a1 a2 a3 a4 a5 a6 cb ci H.size) (cwV 1 hts gT_X0_heal rfl rfl rfl (by decide +kernel) ⟨Nat.le_of_ble_eq_true rfl, Nat.le_of_ble_eq_true rfl⟩) hK hP hD hS hA [0, 1, 2, 3, 4, 5, 6] [7, 8, 9, 10, 11, 12, 13, 14, 15, 16, 17, 18, 19, 20] [0, 1] rfl rfl (by decide) (by decide) (by decide) rfl 0 0 rfl rfl rfl rfl hl.1 rfl (Nat.le_of_ble_eq_true rfl) dL_law_216 ⟨Nat.le_of_ble_eq_true rfl, Nat.le_of_ble_eq_true rfl⟩ (fun H locs hP hD hS => ?_)
      refine lv_aload_n hx hb dL_law_219 rfl (lv_at hl 1 rfl) ?_
      refine lv_aload_n hx hb dL_law_220 rfl (lv_at hl 3 rfl) ?_
      refine lv_iload_n hx hb dL_law_221 rfl (lv_at hl 0 rfl) ?_
      refine lv_iconst (v := nI 1) hx hb dL_law_222 (by decide) ?_
      refine lv_iadd hx hb dL_law_223 ?_
      refine kv_top (show _ = nI (i + 1) from nI_add _ _) ?_
      refine ka_sld hx hb hX hbl hbA hS (k := i + 1) (by omega) (by omega) dL_law_224 ?_
      refine kc_vi (WR := wBs h a1 a2 a3 a4 a5 a6 cb ci u2) (As := [.int (xs (i + 1))]) (rest := [.int r]) S (hM l dC dI g m1 m2 m3 m4 m5 m6 m7 m8 m9 m10 m11 m12 m13 ck H.size) (cwV 1 hts gT_M_heal rfl rfl rfl (by decide +kernel) ⟨Nat.le_of_ble_eq_true rfl, Nat.le_of_ble_eq_true rfl⟩) hK hP hD hS hA [0, 1, 2, 3, 4, 5, 6, 7, 8, 9, 10, 11, 12, 13] [14, 15, 16, 17, 18, 19, 20] [2] rfl rfl (by decide) (by decide) (by decide) rfl 0 1 rfl rfl rfl rfl hl.1 rfl (Nat.le_of_ble_eq_true rfl) dL_law_225 ⟨Nat.le_of_ble_eq_true rfl, Nat.le_of_ble_eq_true rfl⟩ (fun H locs hP hD hS => ?_)
      refine lv_icmp_eq (tgt := 368) hx hb dL_law_228 (by decide) (fun c_9 => ?_) (fun c_9 => absurd rfl c_9)
      refine lv_iinc (v := nI (i + 4)) (lv' := [(3, .int (nI (i + 4))), (2, .ref g), (1, .ref h), (0, .ref bS)]) hx hb dL_law_368 hl (k := 0) rfl (ki_inc4 i) (by decide) rfl (fun ls hl => ?_)
      refine lv_goto (tgt := 18) hx hb dL_law_371 (by decide) ?_
      exact ih (i + 4) u2 q2 (by omega) (by omega) hR2 _ _ _ hP hD hS hl
    · refine lv_tableIn (tgt := 233) (off := 201) hx hb dL_law_32 (by decide) (by decide) (by decide) (by decide) ?_
      obtain ⟨r, u2, q2, hR2, hB, hM⟩ := op_byteOf hR (xs (i + 1)) (xs (i + 2))
      refine lv_aload_n hx hb dL_law_233 rfl (lv_at hl 2 rfl) ?_
      refine lv_aload_n hx hb dL_law_234 rfl (lv_at hl 3 rfl) ?_
      refine lv_iload_n hx hb dL_law_235 rfl (lv_at hl 0 rfl) ?_
      refine lv_iconst (v := nI 1) hx hb dL_law_236 (by decide) ?_
      refine lv_iadd hx hb dL_law_237 ?_
      refine kv_top (show _ = nI (i + 1) from nI_add _ _) ?_
      refine ka_sld hx hb hX hbl hbA hS (k := i + 1) (by omega) (by omega) dL_law_238 ?_
      refine lv_aload_n hx hb dL_law_239 rfl (lv_at hl 3 rfl) ?_
      refine lv_iload_n hx hb dL_law_240 rfl (lv_at hl 0 rfl) ?_
      refine lv_iconst (v := nI 2) hx hb dL_law_241 (by decide) ?_
      refine lv_iadd hx hb dL_law_242 ?_
      refine kv_top (show _ = nI (i + 2) from nI_add _ _) ?_
      refine ka_sld hx hb hX hbl hbA hS (k := i + 2) (by omega) (by omega) dL_law_243 ?_
      refine kc_vi (WR := wMs g m1 m2 m3 m4 m5 m6 m7 m8 m9 m10 m11 m12 m13 ck u q) (As := [.int (xs (i + 1)), .int (xs (i + 2))]) (rest := []) S (hB l dC dI h a1 a2 a3 a4 a5 a6 cb ci H.size) (cwV 2 hts gT_X0_byteOf rfl rfl rfl (by decide +kernel) ⟨Nat.le_of_ble_eq_true rfl, Nat.le_of_ble_eq_true rfl⟩) hK hP hD hS hA [0, 1, 2, 3, 4, 5, 6] [7, 8, 9, 10, 11, 12, 13, 14, 15, 16, 17, 18, 19, 20] [0, 1] rfl rfl (by decide) (by decide) (by decide) rfl 0 0 rfl rfl rfl rfl hl.1 rfl (Nat.le_of_ble_eq_true rfl) dL_law_244 ⟨Nat.le_of_ble_eq_true rfl, Nat.le_of_ble_eq_true rfl⟩ (fun H locs hP hD hS => ?_)
      refine lv_aload_n hx hb dL_law_247 rfl (lv_at hl 1 rfl) ?_
      refine lv_aload_n hx hb dL_law_248 rfl (lv_at hl 3 rfl) ?_
      refine lv_iload_n hx hb dL_law_249 rfl (lv_at hl 0 rfl) ?_
      refine lv_iconst (v := nI 1) hx hb dL_law_250 (by decide) ?_
      refine lv_iadd hx hb dL_law_251 ?_
      refine kv_top (show _ = nI (i + 1) from nI_add _ _) ?_
      refine ka_sld hx hb hX hbl hbA hS (k := i + 1) (by omega) (by omega) dL_law_252 ?_
      refine lv_aload_n hx hb dL_law_253 rfl (lv_at hl 3 rfl) ?_
      refine lv_iload_n hx hb dL_law_254 rfl (lv_at hl 0 rfl) ?_
      refine lv_iconst (v := nI 2) hx hb dL_law_255 (by decide) ?_
      refine lv_iadd hx hb dL_law_256 ?_
      refine kv_top (show _ = nI (i + 2) from nI_add _ _) ?_
      refine ka_sld hx hb hX hbl hbA hS (k := i + 2) (by omega) (by omega) dL_law_257 ?_
      refine kc_vi (WR := wBs h a1 a2 a3 a4 a5 a6 cb ci u2) (As := [.int (xs (i + 1)), .int (xs (i + 2))]) (rest := [.int r]) S (hM l dC dI g m1 m2 m3 m4 m5 m6 m7 m8 m9 m10 m11 m12 m13 ck H.size) (cwV 2 hts gT_M_byteOf rfl rfl rfl (by decide +kernel) ⟨Nat.le_of_ble_eq_true rfl, Nat.le_of_ble_eq_true rfl⟩) hK hP hD hS hA [0, 1, 2, 3, 4, 5, 6, 7, 8, 9, 10, 11, 12, 13] [14, 15, 16, 17, 18, 19, 20] [2] rfl rfl (by decide) (by decide) (by decide) rfl 0 1 rfl rfl rfl rfl hl.1 rfl (Nat.le_of_ble_eq_true rfl) dL_law_258 ⟨Nat.le_of_ble_eq_true rfl, Nat.le_of_ble_eq_true rfl⟩ (fun H locs hP hD hS => ?_)
      refine lv_icmp_eq (tgt := 368) hx hb dL_law_261 (by decide) (fun c_9 => ?_) (fun c_9 => absurd rfl c_9)
      refine lv_iinc (v := nI (i + 4)) (lv' := [(3, .int (nI (i + 4))), (2, .ref g), (1, .ref h), (0, .ref bS)]) hx hb dL_law_368 hl (k := 0) rfl (ki_inc4 i) (by decide) rfl (fun ls hl => ?_)
      refine lv_goto (tgt := 18) hx hb dL_law_371 (by decide) ?_
      exact ih (i + 4) u2 q2 (by omega) (by omega) hR2 _ _ _ hP hD hS hl
    · refine lv_tableIn (tgt := 266) (off := 234) hx hb dL_law_32 (by decide) (by decide) (by decide) (by decide) ?_
      obtain ⟨r, u2, q2, hR2, hB, hM⟩ := op_good hR (xs (i + 1))
      refine lv_aload_n hx hb dL_law_266 rfl (lv_at hl 2 rfl) ?_
      refine lv_aload_n hx hb dL_law_267 rfl (lv_at hl 3 rfl) ?_
      refine lv_iload_n hx hb dL_law_268 rfl (lv_at hl 0 rfl) ?_
      refine lv_iconst (v := nI 1) hx hb dL_law_269 (by decide) ?_
      refine lv_iadd hx hb dL_law_270 ?_
      refine kv_top (show _ = nI (i + 1) from nI_add _ _) ?_
      refine ka_sld hx hb hX hbl hbA hS (k := i + 1) (by omega) (by omega) dL_law_271 ?_
      refine kc_vi (WR := wMs g m1 m2 m3 m4 m5 m6 m7 m8 m9 m10 m11 m12 m13 ck u q) (As := [.int (xs (i + 1))]) (rest := []) S (hB l dC dI h a1 a2 a3 a4 a5 a6 cb ci H.size) (cwV 1 hts gT_X0_good rfl rfl rfl (by decide +kernel) ⟨Nat.le_of_ble_eq_true rfl, Nat.le_of_ble_eq_true rfl⟩) hK hP hD hS hA [0, 1, 2, 3, 4, 5, 6] [7, 8, 9, 10, 11, 12, 13, 14, 15, 16, 17, 18, 19, 20] [0, 1] rfl rfl (by decide) (by decide) (by decide) rfl 0 0 rfl rfl rfl rfl hl.1 rfl (Nat.le_of_ble_eq_true rfl) dL_law_272 ⟨Nat.le_of_ble_eq_true rfl, Nat.le_of_ble_eq_true rfl⟩ (fun H locs hP hD hS => ?_)
      refine lv_aload_n hx hb dL_law_275 rfl (lv_at hl 1 rfl) ?_
      refine lv_aload_n hx hb dL_law_276 rfl (lv_at hl 3 rfl) ?_
      refine lv_iload_n hx hb dL_law_277 rfl (lv_at hl 0 rfl) ?_
      refine lv_iconst (v := nI 1) hx hb dL_law_278 (by decide) ?_
      refine lv_iadd hx hb dL_law_279 ?_
      refine kv_top (show _ = nI (i + 1) from nI_add _ _) ?_
      refine ka_sld hx hb hX hbl hbA hS (k := i + 1) (by omega) (by omega) dL_law_280 ?_
      refine kc_vi (WR := wBs h a1 a2 a3 a4 a5 a6 cb ci u2) (As := [.int (xs (i + 1))]) (rest := [.int r]) S (hM l dC dI g m1 m2 m3 m4 m5 m6 m7 m8 m9 m10 m11 m12 m13 ck H.size) (cwV 1 hts gT_M_good rfl rfl rfl (by decide +kernel) ⟨Nat.le_of_ble_eq_true rfl, Nat.le_of_ble_eq_true rfl⟩) hK hP hD hS hA [0, 1, 2, 3, 4, 5, 6, 7, 8, 9, 10, 11, 12, 13] [14, 15, 16, 17, 18, 19, 20] [2] rfl rfl (by decide) (by decide) (by decide) rfl 0 1 rfl rfl rfl rfl hl.1 rfl (Nat.le_of_ble_eq_true rfl) dL_law_281 ⟨Nat.le_of_ble_eq_true rfl, Nat.le_of_ble_eq_true rfl⟩ (fun H locs hP hD hS => ?_)
      refine lv_icmp_eq (tgt := 368) hx hb dL_law_284 (by decide) (fun c_9 => ?_) (fun c_9 => absurd rfl c_9)
      refine lv_iinc (v := nI (i + 4)) (lv' := [(3, .int (nI (i + 4))), (2, .ref g), (1, .ref h), (0, .ref bS)]) hx hb dL_law_368 hl (k := 0) rfl (ki_inc4 i) (by decide) rfl (fun ls hl => ?_)
      refine lv_goto (tgt := 18) hx hb dL_law_371 (by decide) ?_
      exact ih (i + 4) u2 q2 (by omega) (by omega) hR2 _ _ _ hP hD hS hl
    · refine lv_tableIn (tgt := 289) (off := 257) hx hb dL_law_32 (by decide) (by decide) (by decide) (by decide) ?_
      obtain ⟨r, u2, q2, hR2, hB, hM⟩ := op_read hR (xs (i + 1)) (xs (i + 2))
      refine lv_aload_n hx hb dL_law_289 rfl (lv_at hl 2 rfl) ?_
      refine lv_aload_n hx hb dL_law_290 rfl (lv_at hl 3 rfl) ?_
      refine lv_iload_n hx hb dL_law_291 rfl (lv_at hl 0 rfl) ?_
      refine lv_iconst (v := nI 1) hx hb dL_law_292 (by decide) ?_
      refine lv_iadd hx hb dL_law_293 ?_
      refine kv_top (show _ = nI (i + 1) from nI_add _ _) ?_
      refine ka_sld hx hb hX hbl hbA hS (k := i + 1) (by omega) (by omega) dL_law_294 ?_
      refine lv_aload_n hx hb dL_law_295 rfl (lv_at hl 3 rfl) ?_
      refine lv_iload_n hx hb dL_law_296 rfl (lv_at hl 0 rfl) ?_
      refine lv_iconst (v := nI 2) hx hb dL_law_297 (by decide) ?_
      refine lv_iadd hx hb dL_law_298 ?_
      refine kv_top (show _ = nI (i + 2) from nI_add _ _) ?_
      refine ka_sld hx hb hX hbl hbA hS (k := i + 2) (by omega) (by omega) dL_law_299 ?_
      refine kc_vi (WR := wMs g m1 m2 m3 m4 m5 m6 m7 m8 m9 m10 m11 m12 m13 ck u q) (As := [.int (xs (i + 1)), .int (xs (i + 2))]) (rest := []) S (hB l dC dI h a1 a2 a3 a4 a5 a6 cb ci H.size) (cwV 2 hts gT_X0_read rfl rfl rfl (by decide +kernel) ⟨Nat.le_of_ble_eq_true rfl, Nat.le_of_ble_eq_true rfl⟩) hK hP hD hS hA [0, 1, 2, 3, 4, 5, 6] [7, 8, 9, 10, 11, 12, 13, 14, 15, 16, 17, 18, 19, 20] [0, 1] rfl rfl (by decide) (by decide) (by decide) rfl 0 0 rfl rfl rfl rfl hl.1 rfl (Nat.le_of_ble_eq_true rfl) dL_law_300 ⟨Nat.le_of_ble_eq_true rfl, Nat.le_of_ble_eq_true rfl⟩ (fun H locs hP hD hS => ?_)
      refine lv_aload_n hx hb dL_law_303 rfl (lv_at hl 1 rfl) ?_
      refine lv_aload_n hx hb dL_law_304 rfl (lv_at hl 3 rfl) ?_
      refine lv_iload_n hx hb dL_law_305 rfl (lv_at hl 0 rfl) ?_
      refine lv_iconst (v := nI 1) hx hb dL_law_306 (by decide) ?_
      refine lv_iadd hx hb dL_law_307 ?_
      refine kv_top (show _ = nI (i + 1) from nI_add _ _) ?_
      refine ka_sld hx hb hX hbl hbA hS (k := i + 1) (by omega) (by omega) dL_law_308 ?_
      refine lv_aload_n hx hb dL_law_309 rfl (lv_at hl 3 rfl) ?_
      refine lv_iload_n hx hb dL_law_310 rfl (lv_at hl 0 rfl) ?_
      refine lv_iconst (v := nI 2) hx hb dL_law_311 (by decide) ?_
      refine lv_iadd hx hb dL_law_312 ?_
      refine kv_top (show _ = nI (i + 2) from nI_add _ _) ?_
      refine ka_sld hx hb hX hbl hbA hS (k := i + 2) (by omega) (by omega) dL_law_313 ?_
      refine kc_vi (WR := wBs h a1 a2 a3 a4 a5 a6 cb ci u2) (As := [.int (xs (i + 1)), .int (xs (i + 2))]) (rest := [.int r]) S (hM l dC dI g m1 m2 m3 m4 m5 m6 m7 m8 m9 m10 m11 m12 m13 ck H.size) (cwV 2 hts gT_M_read rfl rfl rfl (by decide +kernel) ⟨Nat.le_of_ble_eq_true rfl, Nat.le_of_ble_eq_true rfl⟩) hK hP hD hS hA [0, 1, 2, 3, 4, 5, 6, 7, 8, 9, 10, 11, 12, 13] [14, 15, 16, 17, 18, 19, 20] [2] rfl rfl (by decide) (by decide) (by decide) rfl 0 1 rfl rfl rfl rfl hl.1 rfl (Nat.le_of_ble_eq_true rfl) dL_law_314 ⟨Nat.le_of_ble_eq_true rfl, Nat.le_of_ble_eq_true rfl⟩ (fun H locs hP hD hS => ?_)
      refine lv_icmp_eq (tgt := 368) hx hb dL_law_317 (by decide) (fun c_9 => ?_) (fun c_9 => absurd rfl c_9)
      refine lv_iinc (v := nI (i + 4)) (lv' := [(3, .int (nI (i + 4))), (2, .ref g), (1, .ref h), (0, .ref bS)]) hx hb dL_law_368 hl (k := 0) rfl (ki_inc4 i) (by decide) rfl (fun ls hl => ?_)
      refine lv_goto (tgt := 18) hx hb dL_law_371 (by decide) ?_
      exact ih (i + 4) u2 q2 (by omega) (by omega) hR2 _ _ _ hP hD hS hl
    · refine lv_tableIn (tgt := 322) (off := 290) hx hb dL_law_32 (by decide) (by decide) (by decide) (by decide) ?_
      obtain ⟨r, u2, q2, hR2, hB, hM⟩ := op_verify hR (xs (i + 1))
      refine lv_aload_n hx hb dL_law_322 rfl (lv_at hl 2 rfl) ?_
      refine lv_aload_n hx hb dL_law_323 rfl (lv_at hl 3 rfl) ?_
      refine lv_iload_n hx hb dL_law_324 rfl (lv_at hl 0 rfl) ?_
      refine lv_iconst (v := nI 1) hx hb dL_law_325 (by decide) ?_
      refine lv_iadd hx hb dL_law_326 ?_
      refine kv_top (show _ = nI (i + 1) from nI_add _ _) ?_
      refine ka_sld hx hb hX hbl hbA hS (k := i + 1) (by omega) (by omega) dL_law_327 ?_
      refine kc_vi (WR := wMs g m1 m2 m3 m4 m5 m6 m7 m8 m9 m10 m11 m12 m13 ck u q) (As := [.int (xs (i + 1))]) (rest := []) S (hB l dC dI h a1 a2 a3 a4 a5 a6 cb ci H.size) (cwV 1 hts gT_X0_verify rfl rfl rfl (by decide +kernel) ⟨Nat.le_of_ble_eq_true rfl, Nat.le_of_ble_eq_true rfl⟩) hK hP hD hS hA [0, 1, 2, 3, 4, 5, 6] [7, 8, 9, 10, 11, 12, 13, 14, 15, 16, 17, 18, 19, 20] [0, 1] rfl rfl (by decide) (by decide) (by decide) rfl 0 0 rfl rfl rfl rfl hl.1 rfl (Nat.le_of_ble_eq_true rfl) dL_law_328 ⟨Nat.le_of_ble_eq_true rfl, Nat.le_of_ble_eq_true rfl⟩ (fun H locs hP hD hS => ?_)
      refine lv_aload_n hx hb dL_law_331 rfl (lv_at hl 1 rfl) ?_
      refine lv_aload_n hx hb dL_law_332 rfl (lv_at hl 3 rfl) ?_
      refine lv_iload_n hx hb dL_law_333 rfl (lv_at hl 0 rfl) ?_
      refine lv_iconst (v := nI 1) hx hb dL_law_334 (by decide) ?_
      refine lv_iadd hx hb dL_law_335 ?_
      refine kv_top (show _ = nI (i + 1) from nI_add _ _) ?_
      refine ka_sld hx hb hX hbl hbA hS (k := i + 1) (by omega) (by omega) dL_law_336 ?_
      refine kc_vi (WR := wBs h a1 a2 a3 a4 a5 a6 cb ci u2) (As := [.int (xs (i + 1))]) (rest := [.int r]) S (hM l dC dI g m1 m2 m3 m4 m5 m6 m7 m8 m9 m10 m11 m12 m13 ck H.size) (cwV 1 hts gT_M_verify rfl rfl rfl (by decide +kernel) ⟨Nat.le_of_ble_eq_true rfl, Nat.le_of_ble_eq_true rfl⟩) hK hP hD hS hA [0, 1, 2, 3, 4, 5, 6, 7, 8, 9, 10, 11, 12, 13] [14, 15, 16, 17, 18, 19, 20] [2] rfl rfl (by decide) (by decide) (by decide) rfl 0 1 rfl rfl rfl rfl hl.1 rfl (Nat.le_of_ble_eq_true rfl) dL_law_337 ⟨Nat.le_of_ble_eq_true rfl, Nat.le_of_ble_eq_true rfl⟩ (fun H locs hP hD hS => ?_)
      refine lv_icmp_eq (tgt := 368) hx hb dL_law_340 (by decide) (fun c_9 => ?_) (fun c_9 => absurd rfl c_9)
      refine lv_iinc (v := nI (i + 4)) (lv' := [(3, .int (nI (i + 4))), (2, .ref g), (1, .ref h), (0, .ref bS)]) hx hb dL_law_368 hl (k := 0) rfl (ki_inc4 i) (by decide) rfl (fun ls hl => ?_)
      refine lv_goto (tgt := 18) hx hb dL_law_371 (by decide) ?_
      exact ih (i + 4) u2 q2 (by omega) (by omega) hR2 _ _ _ hP hD hS hl
    · refine lv_tableIn (tgt := 345) (off := 313) hx hb dL_law_32 (by decide) (by decide) (by decide) (by decide) ?_
      obtain ⟨r, u2, q2, hR2, hB, hM⟩ := op_count hR (xs (i + 1))
      refine lv_aload_n hx hb dL_law_345 rfl (lv_at hl 2 rfl) ?_
      refine lv_aload_n hx hb dL_law_346 rfl (lv_at hl 3 rfl) ?_
      refine lv_iload_n hx hb dL_law_347 rfl (lv_at hl 0 rfl) ?_
      refine lv_iconst (v := nI 1) hx hb dL_law_348 (by decide) ?_
      refine lv_iadd hx hb dL_law_349 ?_
      refine kv_top (show _ = nI (i + 1) from nI_add _ _) ?_
      refine ka_sld hx hb hX hbl hbA hS (k := i + 1) (by omega) (by omega) dL_law_350 ?_
      refine kc_vi (WR := wMs g m1 m2 m3 m4 m5 m6 m7 m8 m9 m10 m11 m12 m13 ck u q) (As := [.int (xs (i + 1))]) (rest := []) S (hB l dC dI h a1 a2 a3 a4 a5 a6 cb ci H.size) (cwV 1 hts gT_X0_count rfl rfl rfl (by decide +kernel) ⟨Nat.le_of_ble_eq_true rfl, Nat.le_of_ble_eq_true rfl⟩) hK hP hD hS hA [0, 1, 2, 3, 4, 5, 6] [7, 8, 9, 10, 11, 12, 13, 14, 15, 16, 17, 18, 19, 20] [0, 1] rfl rfl (by decide) (by decide) (by decide) rfl 0 0 rfl rfl rfl rfl hl.1 rfl (Nat.le_of_ble_eq_true rfl) dL_law_351 ⟨Nat.le_of_ble_eq_true rfl, Nat.le_of_ble_eq_true rfl⟩ (fun H locs hP hD hS => ?_)
      refine lv_aload_n hx hb dL_law_354 rfl (lv_at hl 1 rfl) ?_
      refine lv_aload_n hx hb dL_law_355 rfl (lv_at hl 3 rfl) ?_
      refine lv_iload_n hx hb dL_law_356 rfl (lv_at hl 0 rfl) ?_
      refine lv_iconst (v := nI 1) hx hb dL_law_357 (by decide) ?_
      refine lv_iadd hx hb dL_law_358 ?_
      refine kv_top (show _ = nI (i + 1) from nI_add _ _) ?_
      refine ka_sld hx hb hX hbl hbA hS (k := i + 1) (by omega) (by omega) dL_law_359 ?_
      refine kc_vi (WR := wBs h a1 a2 a3 a4 a5 a6 cb ci u2) (As := [.int (xs (i + 1))]) (rest := [.int r]) S (hM l dC dI g m1 m2 m3 m4 m5 m6 m7 m8 m9 m10 m11 m12 m13 ck H.size) (cwV 1 hts gT_M_count rfl rfl rfl (by decide +kernel) ⟨Nat.le_of_ble_eq_true rfl, Nat.le_of_ble_eq_true rfl⟩) hK hP hD hS hA [0, 1, 2, 3, 4, 5, 6, 7, 8, 9, 10, 11, 12, 13] [14, 15, 16, 17, 18, 19, 20] [2] rfl rfl (by decide) (by decide) (by decide) rfl 0 1 rfl rfl rfl rfl hl.1 rfl (Nat.le_of_ble_eq_true rfl) dL_law_360 ⟨Nat.le_of_ble_eq_true rfl, Nat.le_of_ble_eq_true rfl⟩ (fun H locs hP hD hS => ?_)
      refine lv_icmp_eq (tgt := 368) hx hb dL_law_363 (by decide) (fun c_9 => ?_) (fun c_9 => absurd rfl c_9)
      refine lv_iinc (v := nI (i + 4)) (lv' := [(3, .int (nI (i + 4))), (2, .ref g), (1, .ref h), (0, .ref bS)]) hx hb dL_law_368 hl (k := 0) rfl (ki_inc4 i) (by decide) rfl (fun ls hl => ?_)
      refine lv_goto (tgt := 18) hx hb dL_law_371 (by decide) ?_
      exact ih (i + 4) u2 q2 (by omega) (by omega) hR2 _ _ _ hP hD hS hl
    · refine lv_tableOut (tgt := 368) hx hb dL_law_32 (Or.inr (by rw [nI_toInt (by omega)]; omega)) (by decide) ?_
      refine lv_iinc (v := nI (i + 4)) (lv' := [(3, .int (nI (i + 4))), (2, .ref g), (1, .ref h), (0, .ref bS)]) hx hb dL_law_368 hl (k := 0) rfl (ki_inc4 i) (by decide) rfl (fun ls hl => ?_)
      refine lv_goto (tgt := 18) hx hb dL_law_371 (by decide) ?_
      exact ih (i + 4) u q (by omega) (by omega) hR _ _ _ hP hD hS hl
