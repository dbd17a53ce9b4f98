set_option maxHeartbeats 4000000 in
set_option maxRecDepth 100000 in
theorem op_feed {b : BSt} {q : MSt} (hR : Rel b q) (x1 x2 : Int32) : ∃ (r : Int32) (b2 : BSt) (q2 : MSt), Rel b2 q2 ∧ (∀ (l : Launch) (dC : Nat → ClassId) (dI : Nat → Nat → Nat) (h a1 a2 a3 a4 a5 a6 : Nat) (cb ci : ClassId) (sz : Nat), Met l yX0_feed wsX0_feed ({ frames := 0, cells := 0, slots := 0, locals := 0 }) (kPre (dC, dI) vwCl (wBs h a1 a2 a3 a4 a5 a6 cb ci b) (tB cb ci) sz [.ref h, .int x1, .int x2]) (kQi (dC, dI) vwCl (wBs h a1 a2 a3 a4 a5 a6 cb ci b) (tB cb ci) sz r (wBs h a1 a2 a3 a4 a5 a6 cb ci b2)) 0 0 (va_A (wBs h a1 a2 a3 a4 a5 a6 cb ci b) sz)) ∧ (∀ (l : Launch) (dC : Nat → ClassId) (dI : Nat → Nat → Nat) (g m1 m2 m3 m4 m5 m6 m7 m8 m9 m10 m11 m12 m13 : Nat) (ck : ClassId) (sz : Nat), Met l yM_feed wsM_feed ({ frames := 0, cells := 0, slots := 0, locals := 0 }) (kPre (dC, dI) vwCl (wMs g m1 m2 m3 m4 m5 m6 m7 m8 m9 m10 m11 m12 m13 ck b q) (tM ck) sz [.ref g, .int x1, .int x2]) (kQi (dC, dI) vwCl (wMs g m1 m2 m3 m4 m5 m6 m7 m8 m9 m10 m11 m12 m13 ck b q) (tM ck) sz r (wMs g m1 m2 m3 m4 m5 m6 m7 m8 m9 m10 m11 m12 m13 ck b2 q2)) 0 0 (va_A (wMs g m1 m2 m3 m4 m5 m6 m7 m8 m9 m10 m11 m12 m13 ck b q) sz)) := by
  obtain ⟨tp, tl, vo, np, rp, rl, rc, sb, sa⟩ := b
  obtain ⟨mt, kp, ms, mi, ml, mb, mf, mo, my, md, mu, fi, sp, sq⟩ := q
  have hR0 : Rel (tp, tl, vo, np, rp, rl, rc, sb, sa) (mt, kp, ms, mi, ml, mb, mf, mo, my, md, mu, fi, sp, sq) := hR
  obtain ⟨htl, hnp, hrc, hsb, hsa, htp, hv, hkp, hrw⟩ := hR0
  by_cases hc : okFeed x2 (tp, tl, vo, np, rp, rl, rc, sb, sa)
  · obtain ⟨h1, h2, h3⟩ := id hc
    dsimp only at h3
    have hx := vpos (x := x2) (by omega)
    refine ⟨nI (tl + x2.toInt.toNat), tFeed x1 x2 (tp, tl, vo, np, rp, rl, rc, sb, sa), (fdM mt tl x1 x2.toInt.toNat, kp, ms, mi, ml, mb, mf, mo, my, md, mu, fi, sp, sq), ?_, fun l dC dI h a1 a2 a3 a4 a5 a6 cb ci sz => k_feed l dC dI h a1 a2 a3 a4 a5 a6 cb ci sz _ (rel_ok hR) x1 x2 hc, fun l dC dI g m1 m2 m3 m4 m5 m6 m7 m8 m9 m10 m11 m12 m13 ck sz => ?_⟩
    · exact ⟨by omega, hnp, hrc, hsb, hsa, feed_rel htp _ (by omega), hv, hkp, hrw⟩
    · have h := r_feed l dC dI g m1 m2 m3 m4 m5 m6 m7 m8 m9 m10 m11 m12 m13 ck mt tl rc kp ms mi ml mb mf mo my np md mu fi sp sq sz x1 x2.toInt.toNat ⟨by omega, by omega⟩ (by omega)
      rw [← hx] at h
      exact h
  · exact ⟨-1, (tp, tl, vo, np, rp, rl, rc, sb, sa), (mt, kp, ms, mi, ml, mb, mf, mo, my, md, mu, fi, sp, sq), hR, fun l dC dI h a1 a2 a3 a4 a5 a6 cb ci sz => k_feedN l dC dI h a1 a2 a3 a4 a5 a6 cb ci sz _ (rel_ok hR) x1 x2 hc, fun l dC dI g m1 m2 m3 m4 m5 m6 m7 m8 m9 m10 m11 m12 m13 ck sz => r_feedN l dC dI g m1 m2 m3 m4 m5 m6 m7 m8 m9 m10 m11 m12 m13 ck mt tl rc kp ms mi ml mb mf mo my np md mu fi sp sq sz x1 x2 htl hc⟩
set_option maxHeartbeats 4000000 in
set_option maxRecDepth 100000 in
theorem op_put {b : BSt} {q : MSt} (hR : Rel b q) (x1 x2 : Int32) : ∃ (r : Int32) (b2 : BSt) (q2 : MSt), Rel b2 q2 ∧ (∀ (l : Launch) (dC : Nat → ClassId) (dI : Nat → Nat → Nat) (h a1 a2 a3 a4 a5 a6 : Nat) (cb ci : ClassId) (sz : Nat), Met l yX0_put wsX0_put ({ frames := 5, cells := 0, slots := 0, locals := 117 }) (kPre (dC, dI) vwCl (wBs h a1 a2 a3 a4 a5 a6 cb ci b) (tB cb ci) sz [.ref h, .int x1, .int x2]) (kQi (dC, dI) vwCl (wBs h a1 a2 a3 a4 a5 a6 cb ci b) (tB cb ci) sz r (wBs h a1 a2 a3 a4 a5 a6 cb ci b2)) 0 0 (va_A (wBs h a1 a2 a3 a4 a5 a6 cb ci b) sz)) ∧ (∀ (l : Launch) (dC : Nat → ClassId) (dI : Nat → Nat → Nat) (g m1 m2 m3 m4 m5 m6 m7 m8 m9 m10 m11 m12 m13 : Nat) (ck : ClassId) (sz : Nat), Met l yM_put wsM_put ({ frames := 2, cells := 0, slots := 0, locals := 42 }) (kPre (dC, dI) vwCl (wMs g m1 m2 m3 m4 m5 m6 m7 m8 m9 m10 m11 m12 m13 ck b q) (tM ck) sz [.ref g, .int x1, .int x2]) (kQi (dC, dI) vwCl (wMs g m1 m2 m3 m4 m5 m6 m7 m8 m9 m10 m11 m12 m13 ck b q) (tM ck) sz r (wMs g m1 m2 m3 m4 m5 m6 m7 m8 m9 m10 m11 m12 m13 ck b2 q2)) 0 0 (va_A (wMs g m1 m2 m3 m4 m5 m6 m7 m8 m9 m10 m11 m12 m13 ck b q) sz)) := by
  obtain ⟨tp, tl, vo, np, rp, rl, rc, sb, sa⟩ := b
  obtain ⟨mt, kp, ms, mi, ml, mb, mf, mo, my, md, mu, fi, sp, sq⟩ := q
  have hR0 : Rel (tp, tl, vo, np, rp, rl, rc, sb, sa) (mt, kp, ms, mi, ml, mb, mf, mo, my, md, mu, fi, sp, sq) := hR
  obtain ⟨htl, hnp, hrc, hsb, hsa, htp, hv, hkp, hrw⟩ := hR0
  by_cases hc : okPut x1 x2 (tp, tl, vo, np, rp, rl, rc, sb, sa)
  · obtain ⟨h1, h2, h3, h4, h5, h6⟩ := id hc
    dsimp only at h5 h6
    refine ⟨nI rc, tPut x1 x2 (tp, tl, vo, np, rp, rl, rc, sb, sa), (mt, kp + tl, updN ms rc x1.toInt.toNat, updN mi rc x2.toInt.toNat, updN ml rc tl, updN mb rc kp, updN mf rc (np / 56), lO (updN mo rc ((np + 5) / 56)) rc (np + 6) tl, lY my kp mt tl, lD (hD6 md np x1 x2 tl) (np + 6) mt tl, lU (lU mu np 6) (np + 6) tl, lG (lG (aF fi np) (np + 1) 5) (np + 6) tl, lS (lS sp np 6) (np + 6) tl, sq), ?_, fun l dC dI h a1 a2 a3 a4 a5 a6 cb ci sz => k_put l dC dI h a1 a2 a3 a4 a5 a6 cb ci sz _ (rel_ok hR) x1 x2 hc, fun l dC dI g m1 m2 m3 m4 m5 m6 m7 m8 m9 m10 m11 m12 m13 ck sz => ?_⟩
    · refine ⟨Nat.zero_le _, h6, h5, hsb, hsa, fun k hk => absurd hk (Nat.not_lt_zero k), rel_row hv h6 htp, by omega, fun r hr => ?_⟩
      by_cases hre : r = rc
      · rw [hre]
        obtain ⟨js, hjs, rfl⟩ := kx_of (x := x1) h1
        obtain ⟨ji, hji, rfl⟩ := kx_of (x := x2) h3
        rw [nI_toInt hjs] at h2
        rw [nI_toInt hji] at h4
        rw [nI_tn hjs, nI_tn hji]
        exact row_new (by omega) (by omega) htl (fun k hk => (htp k hk).2)
      · exact row_old (hrw r (by omega)) (by omega) (by omega) (un_n hre) (un_n hre) (un_n hre) (un_n hre) (un_n hre) (un_n hre) (un_n hre) ((lO_old tl r hre).trans (un_n hre)) (fun p hp => lY_old tl p hp) (fun p hp => (lD_old tl p (by omega)).trans (hD6_old hp))
    · exact r_put l dC dI g m1 m2 m3 m4 m5 m6 m7 m8 m9 m10 m11 m12 m13 ck mt tl rc kp ms mi ml mb mf mo my np md mu fi sp sq sz x1 x2 htl hnp hrc ⟨h1, h2⟩ ⟨h3, h4⟩ ⟨h5, h6⟩ (by omega) (by obtain ⟨-, -, -, -, -, -, -, -, -, b3⟩ := hv; exact b3 _)
  · exact ⟨-1, (tp, tl, vo, np, rp, rl, rc, sb, sa), (mt, kp, ms, mi, ml, mb, mf, mo, my, md, mu, fi, sp, sq), hR, fun l dC dI h a1 a2 a3 a4 a5 a6 cb ci sz => k_putN l dC dI h a1 a2 a3 a4 a5 a6 cb ci sz _ (rel_ok hR) x1 x2 hc, fun l dC dI g m1 m2 m3 m4 m5 m6 m7 m8 m9 m10 m11 m12 m13 ck sz => r_putN l dC dI g m1 m2 m3 m4 m5 m6 m7 m8 m9 m10 m11 m12 m13 ck mt tl rc kp ms mi ml mb mf mo my np md mu fi sp sq sz x1 x2 htl hnp hrc hc⟩
set_option maxHeartbeats 4000000 in
set_option maxRecDepth 100000 in
theorem op_close {b : BSt} {q : MSt} (hR : Rel b q) : ∃ (r : Int32) (b2 : BSt) (q2 : MSt), Rel b2 q2 ∧ (∀ (l : Launch) (dC : Nat → ClassId) (dI : Nat → Nat → Nat) (h a1 a2 a3 a4 a5 a6 : Nat) (cb ci : ClassId) (sz : Nat), Met l yX0_close wsX0_close ({ frames := 3, cells := 0, slots := 0, locals := 73 }) (kPre (dC, dI) vwCl (wBs h a1 a2 a3 a4 a5 a6 cb ci b) (tB cb ci) sz [.ref h]) (kQi (dC, dI) vwCl (wBs h a1 a2 a3 a4 a5 a6 cb ci b) (tB cb ci) sz r (wBs h a1 a2 a3 a4 a5 a6 cb ci b2)) 0 0 (va_A (wBs h a1 a2 a3 a4 a5 a6 cb ci b) sz)) ∧ (∀ (l : Launch) (dC : Nat → ClassId) (dI : Nat → Nat → Nat) (g m1 m2 m3 m4 m5 m6 m7 m8 m9 m10 m11 m12 m13 : Nat) (ck : ClassId) (sz : Nat), Met l yM_close wsM_close ({ frames := 1, cells := 0, slots := 0, locals := 20 }) (kPre (dC, dI) vwCl (wMs g m1 m2 m3 m4 m5 m6 m7 m8 m9 m10 m11 m12 m13 ck b q) (tM ck) sz [.ref g]) (kQi (dC, dI) vwCl (wMs g m1 m2 m3 m4 m5 m6 m7 m8 m9 m10 m11 m12 m13 ck b q) (tM ck) sz r (wMs g m1 m2 m3 m4 m5 m6 m7 m8 m9 m10 m11 m12 m13 ck b2 q2)) 0 0 (va_A (wMs g m1 m2 m3 m4 m5 m6 m7 m8 m9 m10 m11 m12 m13 ck b q) sz)) := by
  obtain ⟨tp, tl, vo, np, rp, rl, rc, sb, sa⟩ := b
  obtain ⟨mt, kp, ms, mi, ml, mb, mf, mo, my, md, mu, fi, sp, sq⟩ := q
  have hR0 : Rel (tp, tl, vo, np, rp, rl, rc, sb, sa) (mt, kp, ms, mi, ml, mb, mf, mo, my, md, mu, fi, sp, sq) := hR
  obtain ⟨htl, hnp, hrc, hsb, hsa, htp, hv, hkp, hrw⟩ := hR0
  by_cases hc : np % 56 ≠ 0
  · refine ⟨nI 1, tClose (tp, tl, vo, np, rp, rl, rc, sb, sa), (mt, kp, ms, mi, ml, mb, mf, mo, my, cz md np (56 - np % 56), updN mu (np / 56) (np % 56), fi, sp, sq), ?_, fun l dC dI h a1 a2 a3 a4 a5 a6 cb ci sz => k_close l dC dI h a1 a2 a3 a4 a5 a6 cb ci sz _ (rel_ok hR) hc, fun l dC dI g m1 m2 m3 m4 m5 m6 m7 m8 m9 m10 m11 m12 m13 ck sz => r_close l dC dI g m1 m2 m3 m4 m5 m6 m7 m8 m9 m10 m11 m12 m13 ck mt tl rc kp ms mi ml mb mf mo my np md mu fi sp sq sz hnp hc⟩
    refine ⟨htl, by omega, hrc, hsb, hsa, htp, rel_close hv hnp hc, by omega, fun r hr => ?_⟩
    exact row_old (hrw r hr) (by omega) (Nat.le_refl _) rfl rfl rfl rfl rfl rfl rfl rfl (fun _ _ => rfl) (fun p hp => by rw [cz_at, if_neg (by omega)])
  · exact ⟨nI 0, (tp, tl, vo, np, rp, rl, rc, sb, sa), (mt, kp, ms, mi, ml, mb, mf, mo, my, md, mu, fi, sp, sq), hR, fun l dC dI h a1 a2 a3 a4 a5 a6 cb ci sz => k_closeN l dC dI h a1 a2 a3 a4 a5 a6 cb ci sz _ (rel_ok hR) hc, fun l dC dI g m1 m2 m3 m4 m5 m6 m7 m8 m9 m10 m11 m12 m13 ck sz => r_closeN l dC dI g m1 m2 m3 m4 m5 m6 m7 m8 m9 m10 m11 m12 m13 ck mt tl rc kp ms mi ml mb mf mo my np md mu fi sp sq sz hnp (by omega)⟩
set_option maxHeartbeats 4000000 in
set_option maxRecDepth 100000 in
theorem op_spoil {b : BSt} {q : MSt} (hR : Rel b q) (x1 x2 x3 : Int32) : ∃ (r : Int32) (b2 : BSt) (q2 : MSt), Rel b2 q2 ∧ (∀ (l : Launch) (dC : Nat → ClassId) (dI : Nat → Nat → Nat) (h a1 a2 a3 a4 a5 a6 : Nat) (cb ci : ClassId) (sz : Nat), Met l yX0_spoil wsX0_spoil ({ frames := 2, cells := 0, slots := 0, locals := 41 }) (kPre (dC, dI) vwCl (wBs h a1 a2 a3 a4 a5 a6 cb ci b) (tB cb ci) sz [.ref h, .int x1, .int x2, .int x3]) (kQi (dC, dI) vwCl (wBs h a1 a2 a3 a4 a5 a6 cb ci b) (tB cb ci) sz r (wBs h a1 a2 a3 a4 a5 a6 cb ci b2)) 0 0 (va_A (wBs h a1 a2 a3 a4 a5 a6 cb ci b) sz)) ∧ (∀ (l : Launch) (dC : Nat → ClassId) (dI : Nat → Nat → Nat) (g m1 m2 m3 m4 m5 m6 m7 m8 m9 m10 m11 m12 m13 : Nat) (ck : ClassId) (sz : Nat), Met l yM_spoil wsM_spoil ({ frames := 1, cells := 0, slots := 0, locals := 21 }) (kPre (dC, dI) vwCl (wMs g m1 m2 m3 m4 m5 m6 m7 m8 m9 m10 m11 m12 m13 ck b q) (tM ck) sz [.ref g, .int x1, .int x2, .int x3]) (kQi (dC, dI) vwCl (wMs g m1 m2 m3 m4 m5 m6 m7 m8 m9 m10 m11 m12 m13 ck b q) (tM ck) sz r (wMs g m1 m2 m3 m4 m5 m6 m7 m8 m9 m10 m11 m12 m13 ck b2 q2)) 0 0 (va_A (wMs g m1 m2 m3 m4 m5 m6 m7 m8 m9 m10 m11 m12 m13 ck b q) sz)) := by
  obtain ⟨tp, tl, vo, np, rp, rl, rc, sb, sa⟩ := b
  obtain ⟨mt, kp, ms, mi, ml, mb, mf, mo, my, md, mu, fi, sp, sq⟩ := q
  have hR0 : Rel (tp, tl, vo, np, rp, rl, rc, sb, sa) (mt, kp, ms, mi, ml, mb, mf, mo, my, md, mu, fi, sp, sq) := hR
  obtain ⟨htl, hnp, hrc, hsb, hsa, htp, hv, hkp, hrw⟩ := hR0
  have hsp := rel_sp hv hnp hsa
  by_cases hc : okSpoil x1 x2 x3 (tp, tl, vo, np, rp, rl, rc, sb, sa)
  · obtain ⟨h1, h2, h3, h4, h5⟩ := id hc
    dsimp only at h1 h5
    have hx3 := vpos (x := x3) (by omega)
    obtain ⟨j, hj, hxj⟩ := isW_of h1
    obtain ⟨k, hk, hxk⟩ := inB_of h2
    have e1 : x1.toInt.toNat = j := by rw [hxj, nI_tn (by omega)]
    have e2 : x2.toInt.toNat = k := by rw [hxk, nI_tn (by omega)]
    rw [e1] at h5
    refine ⟨nI 1, tSpoil x1 x2 x3 (tp, tl, vo, np, rp, rl, rc, sb, sa), (mt, kp, ms, mi, ml, mb, mf, mo, my, md, mu, fi, upd sp x1.toInt.toNat (nI x2.toInt.toNat), updN sq x1.toInt.toNat x3.toInt.toNat), ?_, fun l dC dI h a1 a2 a3 a4 a5 a6 cb ci sz => k_spoil l dC dI h a1 a2 a3 a4 a5 a6 cb ci sz _ (rel_ok hR) x1 x2 x3 hc, fun l dC dI g m1 m2 m3 m4 m5 m6 m7 m8 m9 m10 m11 m12 m13 ck sz => ?_⟩
    · dsimp only [tSpoil]
      rw [e1, e2]
      have hv2 := rel_spoil (w := x3.toInt.toNat) hv hnp hj hk (by omega) h5
      rw [← hx3] at hv2
      refine ⟨htl, hnp, hrc, fun a ha => ?_, fun a ha => ?_, htp, hv2, hkp, hrw⟩
      · by_cases hae : a = j
        · rw [hae, un_s]; omega
        · rw [un_n hae]; exact hsb a ha
      · by_cases hae : a = j
        · rw [hae, un_s]; exact hk
        · rw [un_n hae]; exact hsa a ha
    · rw [e1, e2, hxj, hxk]
      have h := r_spoil l dC dI g m1 m2 m3 m4 m5 m6 m7 m8 m9 m10 m11 m12 m13 ck mt tl rc kp ms mi ml mb mf mo my np md mu fi sp sq sz j k x3.toInt.toNat hnp hj hk ⟨by omega, by omega⟩ ((hsp j hj).mpr h5)
      rw [← hx3] at h
      exact h
  · refine ⟨nI 0, (tp, tl, vo, np, rp, rl, rc, sb, sa), (mt, kp, ms, mi, ml, mb, mf, mo, my, md, mu, fi, sp, sq), hR, fun l dC dI h a1 a2 a3 a4 a5 a6 cb ci sz => k_spoilN l dC dI h a1 a2 a3 a4 a5 a6 cb ci sz _ (rel_ok hR) x1 x2 x3 hc, fun l dC dI g m1 m2 m3 m4 m5 m6 m7 m8 m9 m10 m11 m12 m13 ck sz => r_spoilN l dC dI g m1 m2 m3 m4 m5 m6 m7 m8 m9 m10 m11 m12 m13 ck mt tl rc kp ms mi ml mb mf mo my np md mu fi sp sq sz x1 x2 x3 hnp (fun g1 g2 g3 g4 g5 => ?_)⟩
    obtain ⟨j, hj, hxj⟩ := isW_of g1
    have e1 : x1.toInt.toNat = j := by rw [hxj, nI_tn (by omega)]
    rw [e1] at g5
    exact hc ⟨g1, g2, g3, g4, by show sb x1.toInt.toNat = 0; rw [e1]; exact (hsp j hj).mp g5⟩
set_option maxHeartbeats 4000000 in
set_option maxRecDepth 100000 in
theorem op_heal {b : BSt} {q : MSt} (hR : Rel b q) (x1 : Int32) : ∃ (r : Int32) (b2 : BSt) (q2 : MSt), Rel b2 q2 ∧ (∀ (l : Launch) (dC : Nat → ClassId) (dI : Nat → Nat → Nat) (h a1 a2 a3 a4 a5 a6 : Nat) (cb ci : ClassId) (sz : Nat), Met l yX0_heal wsX0_heal ({ frames := 2, cells := 0, slots := 0, locals := 41 }) (kPre (dC, dI) vwCl (wBs h a1 a2 a3 a4 a5 a6 cb ci b) (tB cb ci) sz [.ref h, .int x1]) (kQi (dC, dI) vwCl (wBs h a1 a2 a3 a4 a5 a6 cb ci b) (tB cb ci) sz r (wBs h a1 a2 a3 a4 a5 a6 cb ci b2)) 0 0 (va_A (wBs h a1 a2 a3 a4 a5 a6 cb ci b) sz)) ∧ (∀ (l : Launch) (dC : Nat → ClassId) (dI : Nat → Nat → Nat) (g m1 m2 m3 m4 m5 m6 m7 m8 m9 m10 m11 m12 m13 : Nat) (ck : ClassId) (sz : Nat), Met l yM_heal wsM_heal ({ frames := 1, cells := 0, slots := 0, locals := 21 }) (kPre (dC, dI) vwCl (wMs g m1 m2 m3 m4 m5 m6 m7 m8 m9 m10 m11 m12 m13 ck b q) (tM ck) sz [.ref g, .int x1]) (kQi (dC, dI) vwCl (wMs g m1 m2 m3 m4 m5 m6 m7 m8 m9 m10 m11 m12 m13 ck b q) (tM ck) sz r (wMs g m1 m2 m3 m4 m5 m6 m7 m8 m9 m10 m11 m12 m13 ck b2 q2)) 0 0 (va_A (wMs g m1 m2 m3 m4 m5 m6 m7 m8 m9 m10 m11 m12 m13 ck b q) sz)) := by
  obtain ⟨tp, tl, vo, np, rp, rl, rc, sb, sa⟩ := b
  obtain ⟨mt, kp, ms, mi, ml, mb, mf, mo, my, md, mu, fi, sp, sq⟩ := q
  have hR0 : Rel (tp, tl, vo, np, rp, rl, rc, sb, sa) (mt, kp, ms, mi, ml, mb, mf, mo, my, md, mu, fi, sp, sq) := hR
  obtain ⟨htl, hnp, hrc, hsb, hsa, htp, hv, hkp, hrw⟩ := hR0
  have hsp := rel_sp hv hnp hsa
  by_cases hc : okHeal x1 (tp, tl, vo, np, rp, rl, rc, sb, sa)
  · obtain ⟨h1, h5⟩ := id hc
    dsimp only at h1 h5
    obtain ⟨j, hj, hxj⟩ := isW_of h1
    have e1 : x1.toInt.toNat = j := by rw [hxj, nI_tn (by omega)]
    rw [e1] at h5
    refine ⟨nI 1, tHeal x1 (tp, tl, vo, np, rp, rl, rc, sb, sa), (mt, kp, ms, mi, ml, mb, mf, mo, my, md, mu, fi, upd sp x1.toInt.toNat (-1), sq), ?_, fun l dC dI h a1 a2 a3 a4 a5 a6 cb ci sz => k_heal l dC dI h a1 a2 a3 a4 a5 a6 cb ci sz _ (rel_ok hR) x1 hc, fun l dC dI g m1 m2 m3 m4 m5 m6 m7 m8 m9 m10 m11 m12 m13 ck sz => ?_⟩
    · dsimp only [tHeal]
      rw [e1]
      refine ⟨htl, hnp, hrc, fun a ha => ?_, hsa, htp, rel_heal hv hnp hj hsa h5, hkp, hrw⟩
      by_cases hae : a = j
      · rw [hae, un_s]; decide
      · rw [un_n hae]; exact hsb a ha
    · rw [e1, hxj]
      exact r_heal l dC dI g m1 m2 m3 m4 m5 m6 m7 m8 m9 m10 m11 m12 m13 ck mt tl rc kp ms mi ml mb mf mo my np md mu fi sp sq sz j hnp hj (fun h9 => h5 ((hsp j hj).mp h9))
  · refine ⟨nI 0, (tp, tl, vo, np, rp, rl, rc, sb, sa), (mt, kp, ms, mi, ml, mb, mf, mo, my, md, mu, fi, sp, sq), hR, fun l dC dI h a1 a2 a3 a4 a5 a6 cb ci sz => k_healN l dC dI h a1 a2 a3 a4 a5 a6 cb ci sz _ (rel_ok hR) x1 hc, fun l dC dI g m1 m2 m3 m4 m5 m6 m7 m8 m9 m10 m11 m12 m13 ck sz => r_healN l dC dI g m1 m2 m3 m4 m5 m6 m7 m8 m9 m10 m11 m12 m13 ck mt tl rc kp ms mi ml mb mf mo my np md mu fi sp sq sz x1 hnp (fun g1 => ?_)⟩
    obtain ⟨j, hj, hxj⟩ := isW_of g1
    have e1 : x1.toInt.toNat = j := by rw [hxj, nI_tn (by omega)]
    rw [e1]
    exact (hsp j hj).mpr (Decidable.byContradiction (fun g5 => hc ⟨g1, by show sb x1.toInt.toNat ≠ 0; rw [e1]; exact g5⟩))
set_option maxHeartbeats 4000000 in
set_option maxRecDepth 100000 in
theorem op_byteOf {b : BSt} {q : MSt} (hR : Rel b q) (x1 x2 : Int32) : ∃ (r : Int32) (b2 : BSt) (q2 : MSt), Rel b2 q2 ∧ (∀ (l : Launch) (dC : Nat → ClassId) (dI : Nat → Nat → Nat) (h a1 a2 a3 a4 a5 a6 : Nat) (cb ci : ClassId) (sz : Nat), Met l yX0_byteOf wsX0_byteOf ({ frames := 2, cells := 0, slots := 0, locals := 41 }) (kPre (dC, dI) vwCl (wBs h a1 a2 a3 a4 a5 a6 cb ci b) (tB cb ci) sz [.ref h, .int x1, .int x2]) (kQi (dC, dI) vwCl (wBs h a1 a2 a3 a4 a5 a6 cb ci b) (tB cb ci) sz r (wBs h a1 a2 a3 a4 a5 a6 cb ci b2)) 0 0 (va_A (wBs h a1 a2 a3 a4 a5 a6 cb ci b) sz)) ∧ (∀ (l : Launch) (dC : Nat → ClassId) (dI : Nat → Nat → Nat) (g m1 m2 m3 m4 m5 m6 m7 m8 m9 m10 m11 m12 m13 : Nat) (ck : ClassId) (sz : Nat), Met l yM_byteOf wsM_byteOf ({ frames := 2, cells := 0, slots := 0, locals := 46 }) (kPre (dC, dI) vwCl (wMs g m1 m2 m3 m4 m5 m6 m7 m8 m9 m10 m11 m12 m13 ck b q) (tM ck) sz [.ref g, .int x1, .int x2]) (kQi (dC, dI) vwCl (wMs g m1 m2 m3 m4 m5 m6 m7 m8 m9 m10 m11 m12 m13 ck b q) (tM ck) sz r (wMs g m1 m2 m3 m4 m5 m6 m7 m8 m9 m10 m11 m12 m13 ck b2 q2)) 0 0 (va_A (wMs g m1 m2 m3 m4 m5 m6 m7 m8 m9 m10 m11 m12 m13 ck b q) sz)) := by
  obtain ⟨tp, tl, vo, np, rp, rl, rc, sb, sa⟩ := b
  obtain ⟨mt, kp, ms, mi, ml, mb, mf, mo, my, md, mu, fi, sp, sq⟩ := q
  have hR0 : Rel (tp, tl, vo, np, rp, rl, rc, sb, sa) (mt, kp, ms, mi, ml, mb, mf, mo, my, md, mu, fi, sp, sq) := hR
  obtain ⟨htl, hnp, hrc, hsb, hsa, htp, hv, hkp, hrw⟩ := hR0
  refine ⟨bof np vo x1 x2, (tp, tl, vo, np, rp, rl, rc, sb, sa), (mt, kp, ms, mi, ml, mb, mf, mo, my, md, mu, fi, sp, sq), hR, fun l dC dI h a1 a2 a3 a4 a5 a6 cb ci sz => k_byteOf l dC dI h a1 a2 a3 a4 a5 a6 cb ci sz _ (rel_ok hR) x1 x2, fun l dC dI g m1 m2 m3 m4 m5 m6 m7 m8 m9 m10 m11 m12 m13 ck sz => ?_⟩
  rw [byte_eq hv hnp hsa x1 x2]
  exact r_byteOf l dC dI g m1 m2 m3 m4 m5 m6 m7 m8 m9 m10 m11 m12 m13 ck mt tl rc kp ms mi ml mb mf mo my np md mu fi sp sq sz x1 x2 hnp
set_option maxHeartbeats 4000000 in
set_option maxRecDepth 100000 in
theorem op_good {b : BSt} {q : MSt} (hR : Rel b q) (x1 : Int32) : ∃ (r : Int32) (b2 : BSt) (q2 : MSt), Rel b2 q2 ∧ (∀ (l : Launch) (dC : Nat → ClassId) (dI : Nat → Nat → Nat) (h a1 a2 a3 a4 a5 a6 : Nat) (cb ci : ClassId) (sz : Nat), Met l yX0_good wsX0_good ({ frames := 2, cells := 0, slots := 0, locals := 41 }) (kPre (dC, dI) vwCl (wBs h a1 a2 a3 a4 a5 a6 cb ci b) (tB cb ci) sz [.ref h, .int x1]) (kQi (dC, dI) vwCl (wBs h a1 a2 a3 a4 a5 a6 cb ci b) (tB cb ci) sz r (wBs h a1 a2 a3 a4 a5 a6 cb ci b2)) 0 0 (va_A (wBs h a1 a2 a3 a4 a5 a6 cb ci b) sz)) ∧ (∀ (l : Launch) (dC : Nat → ClassId) (dI : Nat → Nat → Nat) (g m1 m2 m3 m4 m5 m6 m7 m8 m9 m10 m11 m12 m13 : Nat) (ck : ClassId) (sz : Nat), Met l yM_good wsM_good ({ frames := 2, cells := 0, slots := 0, locals := 42 }) (kPre (dC, dI) vwCl (wMs g m1 m2 m3 m4 m5 m6 m7 m8 m9 m10 m11 m12 m13 ck b q) (tM ck) sz [.ref g, .int x1]) (kQi (dC, dI) vwCl (wMs g m1 m2 m3 m4 m5 m6 m7 m8 m9 m10 m11 m12 m13 ck b q) (tM ck) sz r (wMs g m1 m2 m3 m4 m5 m6 m7 m8 m9 m10 m11 m12 m13 ck b2 q2)) 0 0 (va_A (wMs g m1 m2 m3 m4 m5 m6 m7 m8 m9 m10 m11 m12 m13 ck b q) sz)) := by
  obtain ⟨tp, tl, vo, np, rp, rl, rc, sb, sa⟩ := b
  obtain ⟨mt, kp, ms, mi, ml, mb, mf, mo, my, md, mu, fi, sp, sq⟩ := q
  have hR0 : Rel (tp, tl, vo, np, rp, rl, rc, sb, sa) (mt, kp, ms, mi, ml, mb, mf, mo, my, md, mu, fi, sp, sq) := hR
  obtain ⟨htl, hnp, hrc, hsb, hsa, htp, hv, hkp, hrw⟩ := hR0
  exact ⟨bI (goodX np sb x1), (tp, tl, vo, np, rp, rl, rc, sb, sa), (mt, kp, ms, mi, ml, mb, mf, mo, my, md, mu, fi, sp, sq), hR, fun l dC dI h a1 a2 a3 a4 a5 a6 cb ci sz => k_good l dC dI h a1 a2 a3 a4 a5 a6 cb ci sz _ (rel_ok hR) x1, fun l dC dI g m1 m2 m3 m4 m5 m6 m7 m8 m9 m10 m11 m12 m13 ck sz => r_good l dC dI g m1 m2 m3 m4 m5 m6 m7 m8 m9 m10 m11 m12 m13 ck mt tl rc kp ms mi ml mb mf mo my np md mu fi sp sq sb sz x1 hnp (rel_sp hv hnp hsa)⟩
set_option maxHeartbeats 4000000 in
set_option maxRecDepth 100000 in
theorem op_read {b : BSt} {q : MSt} (hR : Rel b q) (x1 x2 : Int32) : ∃ (r : Int32) (b2 : BSt) (q2 : MSt), Rel b2 q2 ∧ (∀ (l : Launch) (dC : Nat → ClassId) (dI : Nat → Nat → Nat) (h a1 a2 a3 a4 a5 a6 : Nat) (cb ci : ClassId) (sz : Nat), Met l yX0_read wsX0_read ({ frames := 5, cells := 0, slots := 0, locals := 108 }) (kPre (dC, dI) vwCl (wBs h a1 a2 a3 a4 a5 a6 cb ci b) (tB cb ci) sz [.ref h, .int x1, .int x2]) (kQi (dC, dI) vwCl (wBs h a1 a2 a3 a4 a5 a6 cb ci b) (tB cb ci) sz r (wBs h a1 a2 a3 a4 a5 a6 cb ci b2)) 0 0 (va_A (wBs h a1 a2 a3 a4 a5 a6 cb ci b) sz)) ∧ (∀ (l : Launch) (dC : Nat → ClassId) (dI : Nat → Nat → Nat) (g m1 m2 m3 m4 m5 m6 m7 m8 m9 m10 m11 m12 m13 : Nat) (ck : ClassId) (sz : Nat), Met l yM_read wsM_read ({ frames := 3, cells := 0, slots := 0, locals := 64 }) (kPre (dC, dI) vwCl (wMs g m1 m2 m3 m4 m5 m6 m7 m8 m9 m10 m11 m12 m13 ck b q) (tM ck) sz [.ref g, .int x1, .int x2]) (kQi (dC, dI) vwCl (wMs g m1 m2 m3 m4 m5 m6 m7 m8 m9 m10 m11 m12 m13 ck b q) (tM ck) sz r (wMs g m1 m2 m3 m4 m5 m6 m7 m8 m9 m10 m11 m12 m13 ck b2 q2)) 0 0 (va_A (wMs g m1 m2 m3 m4 m5 m6 m7 m8 m9 m10 m11 m12 m13 ck b q) sz)) := by
  obtain ⟨tp, tl, vo, np, rp, rl, rc, sb, sa⟩ := b
  obtain ⟨mt, kp, ms, mi, ml, mb, mf, mo, my, md, mu, fi, sp, sq⟩ := q
  have hR0 : Rel (tp, tl, vo, np, rp, rl, rc, sb, sa) (mt, kp, ms, mi, ml, mb, mf, mo, my, md, mu, fi, sp, sq) := hR
  obtain ⟨htl, hnp, hrc, hsb, hsa, htp, hv, hkp, hrw⟩ := hR0
  have hrow : ∀ k, k < rc → rp k + rl k ≤ 4480 ∧ 6 ≤ rl k := fun k hk => by obtain ⟨g1, g2, -⟩ := hrw k hk; omega
  have hft : ∀ k, k < rc → mf k = rp k / 56 ∧ mo k = (rp k + rl k - 1) / 56 := fun k hk => by obtain ⟨g1, g2, g3, g4, g5, -⟩ := hrw k hk; exact ⟨g4, g5⟩
  have hsp := rel_sp hv hnp hsa
  refine ⟨rRead x1 x2 (tp, tl, vo, np, rp, rl, rc, sb, sa), (tp, tl, vo, np, rp, rl, rc, sb, sa), (mt, kp, ms, mi, ml, mb, mf, mo, my, md, mu, fi, sp, sq), hR, fun l dC dI h a1 a2 a3 a4 a5 a6 cb ci sz => k_read l dC dI h a1 a2 a3 a4 a5 a6 cb ci sz _ (rel_ok hR) x1 x2, fun l dC dI g m1 m2 m3 m4 m5 m6 m7 m8 m9 m10 m11 m12 m13 ck sz => ?_⟩
  by_cases hx : x1.toInt < 0
  · have e9 : rRead x1 x2 (tp, tl, vo, np, rp, rl, rc, sb, sa) = -1 := by dsimp only [rRead]; rw [if_pos (rOf_neg hx _ _ _ (by omega))]
    rw [e9]
    exact r_readL l dC dI g m1 m2 m3 m4 m5 m6 m7 m8 m9 m10 m11 m12 m13 ck mt tl rc kp ms mi ml mb mf mo my np md mu fi sp sq sz x1 x2 hrc hx
  · obtain ⟨j, hj, rfl⟩ := kx_of (x := x1) (by omega)
    rcases rOf_or (isR np sb rp rl) (nI j) rc 0 0 rc (by omega) (by omega) with hN | ⟨r, hr, hN⟩
    · have e9 : rRead (nI j) x2 (tp, tl, vo, np, rp, rl, rc, sb, sa) = -1 := by dsimp only [rRead]; rw [if_pos hN]
      rw [e9]
      exact r_readN l dC dI g m1 m2 m3 m4 m5 m6 m7 m8 m9 m10 m11 m12 m13 ck mt tl rc kp ms mi ml mb mf mo my np md mu fi sp sq sb rp rl sz j x2 hnp hsp hrc hrow hft hj hN
    · have e9 : rRead (nI j) x2 (tp, tl, vo, np, rp, rl, rc, sb, sa) = rdW vo rp rl r x2 := by dsimp only [rRead]; rw [hN, if_neg (nI_nm1 (by omega)), nI_tn (by omega)]
      rw [e9, read_eq hv (hrw r hr) (rOf_rd (by omega) rc 0 0 (by omega) hN) hnp x2]
      exact r_read l dC dI g m1 m2 m3 m4 m5 m6 m7 m8 m9 m10 m11 m12 m13 ck mt tl rc kp ms mi ml mb mf mo my np md mu fi sp sq sb rp rl sz j x2 hnp hsp hrc hrow hft hj r hr hN (by obtain ⟨g1, g2, g3, g4, g5, g6, g7, g8, -⟩ := hrw r hr; omega)
set_option maxHeartbeats 4000000 in
set_option maxRecDepth 100000 in
theorem op_verify {b : BSt} {q : MSt} (hR : Rel b q) (x1 : Int32) : ∃ (r : Int32) (b2 : BSt) (q2 : MSt), Rel b2 q2 ∧ (∀ (l : Launch) (dC : Nat → ClassId) (dI : Nat → Nat → Nat) (h a1 a2 a3 a4 a5 a6 : Nat) (cb ci : ClassId) (sz : Nat), Met l yX0_verify wsX0_verify ({ frames := 3, cells := 0, slots := 0, locals := 62 }) (kPre (dC, dI) vwCl (wBs h a1 a2 a3 a4 a5 a6 cb ci b) (tB cb ci) sz [.ref h, .int x1]) (kQi (dC, dI) vwCl (wBs h a1 a2 a3 a4 a5 a6 cb ci b) (tB cb ci) sz r (wBs h a1 a2 a3 a4 a5 a6 cb ci b2)) 0 0 (va_A (wBs h a1 a2 a3 a4 a5 a6 cb ci b) sz)) ∧ (∀ (l : Launch) (dC : Nat → ClassId) (dI : Nat → Nat → Nat) (g m1 m2 m3 m4 m5 m6 m7 m8 m9 m10 m11 m12 m13 : Nat) (ck : ClassId) (sz : Nat), Met l yM_verify wsM_verify ({ frames := 2, cells := 0, slots := 0, locals := 42 }) (kPre (dC, dI) vwCl (wMs g m1 m2 m3 m4 m5 m6 m7 m8 m9 m10 m11 m12 m13 ck b q) (tM ck) sz [.ref g, .int x1]) (kQi (dC, dI) vwCl (wMs g m1 m2 m3 m4 m5 m6 m7 m8 m9 m10 m11 m12 m13 ck b q) (tM ck) sz r (wMs g m1 m2 m3 m4 m5 m6 m7 m8 m9 m10 m11 m12 m13 ck b2 q2)) 0 0 (va_A (wMs g m1 m2 m3 m4 m5 m6 m7 m8 m9 m10 m11 m12 m13 ck b q) sz)) := by
  obtain ⟨tp, tl, vo, np, rp, rl, rc, sb, sa⟩ := b
  obtain ⟨mt, kp, ms, mi, ml, mb, mf, mo, my, md, mu, fi, sp, sq⟩ := q
  have hR0 : Rel (tp, tl, vo, np, rp, rl, rc, sb, sa) (mt, kp, ms, mi, ml, mb, mf, mo, my, md, mu, fi, sp, sq) := hR
  obtain ⟨htl, hnp, hrc, hsb, hsa, htp, hv, hkp, hrw⟩ := hR0
  exact ⟨vfX np sb x1, (tp, tl, vo, np, rp, rl, rc, sb, sa), (mt, kp, ms, mi, ml, mb, mf, mo, my, md, mu, fi, sp, sq), hR, fun l dC dI h a1 a2 a3 a4 a5 a6 cb ci sz => k_verify l dC dI h a1 a2 a3 a4 a5 a6 cb ci sz _ (rel_ok hR) x1, fun l dC dI g m1 m2 m3 m4 m5 m6 m7 m8 m9 m10 m11 m12 m13 ck sz => r_verify l dC dI g m1 m2 m3 m4 m5 m6 m7 m8 m9 m10 m11 m12 m13 ck mt tl rc kp ms mi ml mb mf mo my np md mu fi sp sq sb sz x1 hnp (rel_sp hv hnp hsa)⟩
set_option maxHeartbeats 4000000 in
set_option maxRecDepth 100000 in
theorem op_count {b : BSt} {q : MSt} (hR : Rel b q) (x1 : Int32) : ∃ (r : Int32) (b2 : BSt) (q2 : MSt), Rel b2 q2 ∧ (∀ (l : Launch) (dC : Nat → ClassId) (dI : Nat → Nat → Nat) (h a1 a2 a3 a4 a5 a6 : Nat) (cb ci : ClassId) (sz : Nat), Met l yX0_count wsX0_count ({ frames := 5, cells := 0, slots := 0, locals := 107 }) (kPre (dC, dI) vwCl (wBs h a1 a2 a3 a4 a5 a6 cb ci b) (tB cb ci) sz [.ref h, .int x1]) (kQi (dC, dI) vwCl (wBs h a1 a2 a3 a4 a5 a6 cb ci b) (tB cb ci) sz r (wBs h a1 a2 a3 a4 a5 a6 cb ci b2)) 0 0 (va_A (wBs h a1 a2 a3 a4 a5 a6 cb ci b) sz)) ∧ (∀ (l : Launch) (dC : Nat → ClassId) (dI : Nat → Nat → Nat) (g m1 m2 m3 m4 m5 m6 m7 m8 m9 m10 m11 m12 m13 : Nat) (ck : ClassId) (sz : Nat), Met l yM_count wsM_count ({ frames := 3, cells := 0, slots := 0, locals := 64 }) (kPre (dC, dI) vwCl (wMs g m1 m2 m3 m4 m5 m6 m7 m8 m9 m10 m11 m12 m13 ck b q) (tM ck) sz [.ref g, .int x1]) (kQi (dC, dI) vwCl (wMs g m1 m2 m3 m4 m5 m6 m7 m8 m9 m10 m11 m12 m13 ck b q) (tM ck) sz r (wMs g m1 m2 m3 m4 m5 m6 m7 m8 m9 m10 m11 m12 m13 ck b2 q2)) 0 0 (va_A (wMs g m1 m2 m3 m4 m5 m6 m7 m8 m9 m10 m11 m12 m13 ck b q) sz)) := by
  obtain ⟨tp, tl, vo, np, rp, rl, rc, sb, sa⟩ := b
  obtain ⟨mt, kp, ms, mi, ml, mb, mf, mo, my, md, mu, fi, sp, sq⟩ := q
  have hR0 : Rel (tp, tl, vo, np, rp, rl, rc, sb, sa) (mt, kp, ms, mi, ml, mb, mf, mo, my, md, mu, fi, sp, sq) := hR
  obtain ⟨htl, hnp, hrc, hsb, hsa, htp, hv, hkp, hrw⟩ := hR0
  have hrow : ∀ k, k < rc → rp k + rl k ≤ 4480 ∧ 6 ≤ rl k := fun k hk => by obtain ⟨g1, g2, -⟩ := hrw k hk; omega
  have hft : ∀ k, k < rc → mf k = rp k / 56 ∧ mo k = (rp k + rl k - 1) / 56 := fun k hk => by obtain ⟨g1, g2, g3, g4, g5, -⟩ := hrw k hk; exact ⟨g4, g5⟩
  have hsp := rel_sp hv hnp hsa
  exact ⟨cntX tl np rc rp rl sb x1, (tp, tl, vo, np, rp, rl, rc, sb, sa), (mt, kp, ms, mi, ml, mb, mf, mo, my, md, mu, fi, sp, sq), hR, fun l dC dI h a1 a2 a3 a4 a5 a6 cb ci sz => k_count l dC dI h a1 a2 a3 a4 a5 a6 cb ci sz _ (rel_ok hR) x1, fun l dC dI g m1 m2 m3 m4 m5 m6 m7 m8 m9 m10 m11 m12 m13 ck sz => r_count l dC dI g m1 m2 m3 m4 m5 m6 m7 m8 m9 m10 m11 m12 m13 ck mt tl rc kp ms mi ml mb mf mo my np md mu fi sp sq sb rp rl sz x1 hnp hsp hrc hrow hft htl⟩
