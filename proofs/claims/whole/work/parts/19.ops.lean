abbrev BSt : Type := (Nat → Int32) × Nat × (Nat → Int32) × Nat × (Nat → Nat) × (Nat → Nat) × Nat × (Nat → Nat) × (Nat → Nat)
abbrev wBs (h a1 a2 a3 a4 a5 a6 : Nat) (cb ci : ClassId) (b : BSt) : va_W := wB h a1 a2 a3 a4 a5 a6 cb ci b.1 b.2.1 b.2.2.1 b.2.2.2.1 b.2.2.2.2.1 b.2.2.2.2.2.1 b.2.2.2.2.2.2.1 b.2.2.2.2.2.2.2.1 b.2.2.2.2.2.2.2.2
def bOk (b : BSt) : Prop := match b with
  | (_, tl, _, np, rp, rl, rc, sb, sa) => tl ≤ 300 ∧ np ≤ 4480 ∧ rc ≤ 200 ∧ (∀ k, k < 80 → sb k < 256) ∧ (∀ k, k < 80 → sa k < 64) ∧ ∀ k, k < rc → rp k + rl k ≤ 4480 ∧ 6 ≤ rl k
def okFeed (x : Int32) (b : BSt) : Prop := 1 ≤ x.toInt ∧ x.toInt ≤ 4 ∧ b.2.1 + x.toInt ≤ 300
def okPut (sv iv : Int32) (b : BSt) : Prop := 0 ≤ sv.toInt ∧ sv.toInt ≤ 255 ∧ 0 ≤ iv.toInt ∧ iv.toInt ≤ 65535 ∧ b.2.2.2.2.2.2.1 < 200 ∧ b.2.2.2.1 + 6 + b.2.1 ≤ 4480
def okSpoil (x q v : Int32) (b : BSt) : Prop := isW b.2.2.2.1 x = true ∧ inB q = true ∧ 1 ≤ v.toInt ∧ v.toInt ≤ 255 ∧ b.2.2.2.2.2.2.2.1 x.toInt.toNat = 0
def okHeal (x : Int32) (b : BSt) : Prop := isW b.2.2.2.1 x = true ∧ b.2.2.2.2.2.2.2.1 x.toInt.toNat ≠ 0
def tFeed (v x : Int32) (b : BSt) : BSt := match b with
  | (tp, tl, vo, np, rp, rl, rc, sb, sa) => (fdT tp tl v x.toInt.toNat, tl + x.toInt.toNat, vo, np, rp, rl, rc, sb, sa)
def tPut (sv iv : Int32) (b : BSt) : BSt := match b with
  | (tp, tl, vo, np, rp, rl, rc, sb, sa) => (tp, 0, apR (ntB vo np) np sv iv tp tl, np + 6 + tl, updN rp rc np, updN rl rc (6 + tl), rc + 1, sb, sa)
def tClose (b : BSt) : BSt := match b with
  | (tp, tl, vo, np, rp, rl, rc, sb, sa) => (tp, tl, wbV vo (np / 56) (np % 56), np + (56 - np % 56), rp, rl, rc, sb, sa)
def tSpoil (x q v : Int32) (b : BSt) : BSt := match b with
  | (tp, tl, vo, np, rp, rl, rc, sb, sa) => (tp, tl, upd vo (x.toInt.toNat * 64 + q.toInt.toNat) (bn (vo (x.toInt.toNat * 64 + q.toInt.toNat) + v)), np, rp, rl, rc, updN sb x.toInt.toNat v.toInt.toNat, updN sa x.toInt.toNat q.toInt.toNat)
def tHeal (x : Int32) (b : BSt) : BSt := match b with
  | (tp, tl, vo, np, rp, rl, rc, sb, sa) => (tp, tl, upd vo (x.toInt.toNat * 64 + sa x.toInt.toNat) (bn (vo (x.toInt.toNat * 64 + sa x.toInt.toNat) + -(nI (sb x.toInt.toNat)))), np, rp, rl, rc, updN sb x.toInt.toNat 0, sa)
def rRead (i x : Int32) (b : BSt) : Int32 := match b with
  | (_, _, vo, np, rp, rl, rc, sb, _) => if rOf (isR np sb rp rl) i rc 0 0 = -1 then -1 else rdW vo rp rl (rOf (isR np sb rp rl) i rc 0 0).toInt.toNat x
theorem rOf_or (rd : Nat → Bool) (i : Int32) : ∀ (n k q T : Nat), k + n = T → T < 2 ^ 31 → rOf rd i n k q = -1 ∨ ∃ r, r < T ∧ rOf rd i n k q = nI r
  | 0, _, _, _, _, _ => Or.inl rfl
  | n + 1, k, q, T, h, hT => by
    rw [rOf]
    split
    · split
      · exact Or.inr ⟨k, by omega, rfl⟩
      · exact rOf_or rd i n (k + 1) (q + 1) T (by omega) hT
    · exact rOf_or rd i n (k + 1) q T (by omega) hT
set_option maxRecDepth 100000 in
theorem k_feed (l : Launch) (dC : Nat → ClassId) (dI : Nat → Nat → Nat) (h a1 a2 a3 a4 a5 a6 : Nat) (cb ci : ClassId) (sz : Nat) (b : BSt) (hb : bOk b) (v x : Int32) (hc : okFeed x b) : Met l yX0_feed wsX0_feed ({ frames := 0, cells := 0, slots := 0, locals := 0 }) (kPre (dC, dI) vwCl (wBs h a1 a2 a3 a4 a5 a6 cb ci b) (tB cb ci) sz [.ref h, .int v, .int x]) (kQi (dC, dI) vwCl (wBs h a1 a2 a3 a4 a5 a6 cb ci b) (tB cb ci) sz (nI (b.2.1 + x.toInt.toNat)) (wBs h a1 a2 a3 a4 a5 a6 cb ci (tFeed v x b))) 0 0 (va_A (wBs h a1 a2 a3 a4 a5 a6 cb ci b) sz) := by
  obtain ⟨tp, tl, vo, np, rp, rl, rc, sb, sa⟩ := b
  obtain ⟨htl, hnp, hrc, hsb, hsa, hrow⟩ := hb
  obtain ⟨h1, h2, h3⟩ := hc
  dsimp only at h3
  obtain ⟨j, hj, rfl⟩ := kx_of (x := x) (by omega)
  rw [nI_toInt hj] at h1 h2 h3
  dsimp only [tFeed]
  rw [nI_tn hj]
  exact c_feed l dC dI h a1 a2 a3 a4 a5 a6 cb ci tp tl vo np rp rl rc sb sa sz v j ⟨by omega, by omega⟩ (by omega)
set_option maxRecDepth 100000 in
theorem k_feedN (l : Launch) (dC : Nat → ClassId) (dI : Nat → Nat → Nat) (h a1 a2 a3 a4 a5 a6 : Nat) (cb ci : ClassId) (sz : Nat) (b : BSt) (hb : bOk b) (v x : Int32) (hc : ¬ (okFeed x b)) : Met l yX0_feed wsX0_feed ({ frames := 0, cells := 0, slots := 0, locals := 0 }) (kPre (dC, dI) vwCl (wBs h a1 a2 a3 a4 a5 a6 cb ci b) (tB cb ci) sz [.ref h, .int v, .int x]) (kQi (dC, dI) vwCl (wBs h a1 a2 a3 a4 a5 a6 cb ci b) (tB cb ci) sz (-1) (wBs h a1 a2 a3 a4 a5 a6 cb ci (b))) 0 0 (va_A (wBs h a1 a2 a3 a4 a5 a6 cb ci b) sz) := by
  obtain ⟨tp, tl, vo, np, rp, rl, rc, sb, sa⟩ := b
  obtain ⟨htl, hnp, hrc, hsb, hsa, hrow⟩ := hb
  exact c_feedN l dC dI h a1 a2 a3 a4 a5 a6 cb ci tp tl vo np rp rl rc sb sa sz v x htl hc
set_option maxRecDepth 100000 in
theorem k_put (l : Launch) (dC : Nat → ClassId) (dI : Nat → Nat → Nat) (h a1 a2 a3 a4 a5 a6 : Nat) (cb ci : ClassId) (sz : Nat) (b : BSt) (hb : bOk b) (sv iv : Int32) (hc : okPut sv iv b) : Met l yX0_put wsX0_put ({ frames := 5, cells := 0, slots := 0, locals := 117 }) (kPre (dC, dI) vwCl (wBs h a1 a2 a3 a4 a5 a6 cb ci b) (tB cb ci) sz [.ref h, .int sv, .int iv]) (kQi (dC, dI) vwCl (wBs h a1 a2 a3 a4 a5 a6 cb ci b) (tB cb ci) sz (nI b.2.2.2.2.2.2.1) (wBs h a1 a2 a3 a4 a5 a6 cb ci (tPut sv iv b))) 0 0 (va_A (wBs h a1 a2 a3 a4 a5 a6 cb ci b) sz) := by
  obtain ⟨tp, tl, vo, np, rp, rl, rc, sb, sa⟩ := b
  obtain ⟨htl, hnp, hrc, hsb, hsa, hrow⟩ := hb
  obtain ⟨h1, h2, h3, h4, h5, h6⟩ := hc
  dsimp only at h5 h6
  exact c_put l dC dI h a1 a2 a3 a4 a5 a6 cb ci tp tl vo np rp rl rc sb sa sz sv iv htl hnp hrc ⟨h1, h2⟩ ⟨h3, h4⟩ ⟨h5, h6⟩
set_option maxRecDepth 100000 in
theorem k_putN (l : Launch) (dC : Nat → ClassId) (dI : Nat → Nat → Nat) (h a1 a2 a3 a4 a5 a6 : Nat) (cb ci : ClassId) (sz : Nat) (b : BSt) (hb : bOk b) (sv iv : Int32) (hc : ¬ (okPut sv iv b)) : Met l yX0_put wsX0_put ({ frames := 5, cells := 0, slots := 0, locals := 117 }) (kPre (dC, dI) vwCl (wBs h a1 a2 a3 a4 a5 a6 cb ci b) (tB cb ci) sz [.ref h, .int sv, .int iv]) (kQi (dC, dI) vwCl (wBs h a1 a2 a3 a4 a5 a6 cb ci b) (tB cb ci) sz (-1) (wBs h a1 a2 a3 a4 a5 a6 cb ci (b))) 0 0 (va_A (wBs h a1 a2 a3 a4 a5 a6 cb ci b) sz) := by
  obtain ⟨tp, tl, vo, np, rp, rl, rc, sb, sa⟩ := b
  obtain ⟨htl, hnp, hrc, hsb, hsa, hrow⟩ := hb
  exact c_putN l dC dI h a1 a2 a3 a4 a5 a6 cb ci tp tl vo np rp rl rc sb sa sz sv iv htl hnp hrc hc
set_option maxRecDepth 100000 in
theorem k_close (l : Launch) (dC : Nat → ClassId) (dI : Nat → Nat → Nat) (h a1 a2 a3 a4 a5 a6 : Nat) (cb ci : ClassId) (sz : Nat) (b : BSt) (hb : bOk b) (hc : b.2.2.2.1 % 56 ≠ 0) : Met l yX0_close wsX0_close ({ frames := 3, cells := 0, slots := 0, locals := 73 }) (kPre (dC, dI) vwCl (wBs h a1 a2 a3 a4 a5 a6 cb ci b) (tB cb ci) sz [.ref h]) (kQi (dC, dI) vwCl (wBs h a1 a2 a3 a4 a5 a6 cb ci b) (tB cb ci) sz (nI 1) (wBs h a1 a2 a3 a4 a5 a6 cb ci (tClose b))) 0 0 (va_A (wBs h a1 a2 a3 a4 a5 a6 cb ci b) sz) := by
  obtain ⟨tp, tl, vo, np, rp, rl, rc, sb, sa⟩ := b
  obtain ⟨htl, hnp, hrc, hsb, hsa, hrow⟩ := hb
  exact c_close l dC dI h a1 a2 a3 a4 a5 a6 cb ci tp tl vo np rp rl rc sb sa sz hnp hc
set_option maxRecDepth 100000 in
theorem k_closeN (l : Launch) (dC : Nat → ClassId) (dI : Nat → Nat → Nat) (h a1 a2 a3 a4 a5 a6 : Nat) (cb ci : ClassId) (sz : Nat) (b : BSt) (hb : bOk b) (hc : ¬ (b.2.2.2.1 % 56 ≠ 0)) : Met l yX0_close wsX0_close ({ frames := 3, cells := 0, slots := 0, locals := 73 }) (kPre (dC, dI) vwCl (wBs h a1 a2 a3 a4 a5 a6 cb ci b) (tB cb ci) sz [.ref h]) (kQi (dC, dI) vwCl (wBs h a1 a2 a3 a4 a5 a6 cb ci b) (tB cb ci) sz (nI 0) (wBs h a1 a2 a3 a4 a5 a6 cb ci (b))) 0 0 (va_A (wBs h a1 a2 a3 a4 a5 a6 cb ci b) sz) := by
  obtain ⟨tp, tl, vo, np, rp, rl, rc, sb, sa⟩ := b
  obtain ⟨htl, hnp, hrc, hsb, hsa, hrow⟩ := hb
  dsimp only at hc
  exact c_closeN l dC dI h a1 a2 a3 a4 a5 a6 cb ci tp tl vo np rp rl rc sb sa sz hnp (by omega)
set_option maxRecDepth 100000 in
theorem k_spoil (l : Launch) (dC : Nat → ClassId) (dI : Nat → Nat → Nat) (h a1 a2 a3 a4 a5 a6 : Nat) (cb ci : ClassId) (sz : Nat) (b : BSt) (hb : bOk b) (x q v : Int32) (hc : okSpoil x q v b) : Met l yX0_spoil wsX0_spoil ({ frames := 2, cells := 0, slots := 0, locals := 41 }) (kPre (dC, dI) vwCl (wBs h a1 a2 a3 a4 a5 a6 cb ci b) (tB cb ci) sz [.ref h, .int x, .int q, .int v]) (kQi (dC, dI) vwCl (wBs h a1 a2 a3 a4 a5 a6 cb ci b) (tB cb ci) sz (nI 1) (wBs h a1 a2 a3 a4 a5 a6 cb ci (tSpoil x q v b))) 0 0 (va_A (wBs h a1 a2 a3 a4 a5 a6 cb ci b) sz) := by
  obtain ⟨tp, tl, vo, np, rp, rl, rc, sb, sa⟩ := b
  obtain ⟨htl, hnp, hrc, hsb, hsa, hrow⟩ := hb
  obtain ⟨h1, h2, h3, h4, h5⟩ := hc
  dsimp only at h1 h5
  obtain ⟨j, hj, rfl⟩ := isW_of h1
  obtain ⟨k, hk, rfl⟩ := inB_of h2
  obtain ⟨w, hw, rfl⟩ := kx_of (x := v) (by omega)
  rw [nI_toInt hw] at h3 h4
  rw [nI_tn (by omega)] at h5
  dsimp only [tSpoil]
  rw [nI_tn (show j < 2 ^ 31 by omega), nI_tn (show k < 2 ^ 31 by omega), nI_tn hw]
  exact c_spoil l dC dI h a1 a2 a3 a4 a5 a6 cb ci tp tl vo np rp rl rc sb sa sz j k w hnp hj hk ⟨by omega, by omega⟩ h5
set_option maxRecDepth 100000 in
theorem k_spoilN (l : Launch) (dC : Nat → ClassId) (dI : Nat → Nat → Nat) (h a1 a2 a3 a4 a5 a6 : Nat) (cb ci : ClassId) (sz : Nat) (b : BSt) (hb : bOk b) (x q v : Int32) (hc : ¬ (okSpoil x q v b)) : Met l yX0_spoil wsX0_spoil ({ frames := 2, cells := 0, slots := 0, locals := 41 }) (kPre (dC, dI) vwCl (wBs h a1 a2 a3 a4 a5 a6 cb ci b) (tB cb ci) sz [.ref h, .int x, .int q, .int v]) (kQi (dC, dI) vwCl (wBs h a1 a2 a3 a4 a5 a6 cb ci b) (tB cb ci) sz (nI 0) (wBs h a1 a2 a3 a4 a5 a6 cb ci (b))) 0 0 (va_A (wBs h a1 a2 a3 a4 a5 a6 cb ci b) sz) := by
  obtain ⟨tp, tl, vo, np, rp, rl, rc, sb, sa⟩ := b
  obtain ⟨htl, hnp, hrc, hsb, hsa, hrow⟩ := hb
  exact c_spoilN l dC dI h a1 a2 a3 a4 a5 a6 cb ci tp tl vo np rp rl rc sb sa sz x q v hnp hsb (fun g1 g2 g3 g4 g5 => hc ⟨g1, g2, g3, g4, g5⟩)
set_option maxRecDepth 100000 in
theorem k_heal (l : Launch) (dC : Nat → ClassId) (dI : Nat → Nat → Nat) (h a1 a2 a3 a4 a5 a6 : Nat) (cb ci : ClassId) (sz : Nat) (b : BSt) (hb : bOk b) (x : Int32) (hc : okHeal x b) : Met l yX0_heal wsX0_heal ({ frames := 2, cells := 0, slots := 0, locals := 41 }) (kPre (dC, dI) vwCl (wBs h a1 a2 a3 a4 a5 a6 cb ci b) (tB cb ci) sz [.ref h, .int x]) (kQi (dC, dI) vwCl (wBs h a1 a2 a3 a4 a5 a6 cb ci b) (tB cb ci) sz (nI 1) (wBs h a1 a2 a3 a4 a5 a6 cb ci (tHeal x b))) 0 0 (va_A (wBs h a1 a2 a3 a4 a5 a6 cb ci b) sz) := by
  obtain ⟨tp, tl, vo, np, rp, rl, rc, sb, sa⟩ := b
  obtain ⟨htl, hnp, hrc, hsb, hsa, hrow⟩ := hb
  obtain ⟨h1, h5⟩ := hc
  dsimp only at h1 h5
  obtain ⟨j, hj, rfl⟩ := isW_of h1
  rw [nI_tn (by omega)] at h5
  dsimp only [tHeal]
  rw [nI_tn (show j < 2 ^ 31 by omega)]
  exact c_heal l dC dI h a1 a2 a3 a4 a5 a6 cb ci tp tl vo np rp rl rc sb sa sz j hnp hj ⟨h5, hsb j (by omega)⟩ (hsa j (by omega))
set_option maxRecDepth 100000 in
theorem k_healN (l : Launch) (dC : Nat → ClassId) (dI : Nat → Nat → Nat) (h a1 a2 a3 a4 a5 a6 : Nat) (cb ci : ClassId) (sz : Nat) (b : BSt) (hb : bOk b) (x : Int32) (hc : ¬ (okHeal x b)) : Met l yX0_heal wsX0_heal ({ frames := 2, cells := 0, slots := 0, locals := 41 }) (kPre (dC, dI) vwCl (wBs h a1 a2 a3 a4 a5 a6 cb ci b) (tB cb ci) sz [.ref h, .int x]) (kQi (dC, dI) vwCl (wBs h a1 a2 a3 a4 a5 a6 cb ci b) (tB cb ci) sz (nI 0) (wBs h a1 a2 a3 a4 a5 a6 cb ci (b))) 0 0 (va_A (wBs h a1 a2 a3 a4 a5 a6 cb ci b) sz) := by
  obtain ⟨tp, tl, vo, np, rp, rl, rc, sb, sa⟩ := b
  obtain ⟨htl, hnp, hrc, hsb, hsa, hrow⟩ := hb
  exact c_healN l dC dI h a1 a2 a3 a4 a5 a6 cb ci tp tl vo np rp rl rc sb sa sz x hnp hsb (fun g1 => Decidable.byContradiction (fun g5 => hc ⟨g1, g5⟩))
set_option maxRecDepth 100000 in
theorem k_byteOf (l : Launch) (dC : Nat → ClassId) (dI : Nat → Nat → Nat) (h a1 a2 a3 a4 a5 a6 : Nat) (cb ci : ClassId) (sz : Nat) (b : BSt) (hb : bOk b) (x i : Int32) : Met l yX0_byteOf wsX0_byteOf ({ frames := 2, cells := 0, slots := 0, locals := 41 }) (kPre (dC, dI) vwCl (wBs h a1 a2 a3 a4 a5 a6 cb ci b) (tB cb ci) sz [.ref h, .int x, .int i]) (kQi (dC, dI) vwCl (wBs h a1 a2 a3 a4 a5 a6 cb ci b) (tB cb ci) sz (bof b.2.2.2.1 b.2.2.1 x i) (wBs h a1 a2 a3 a4 a5 a6 cb ci (b))) 0 0 (va_A (wBs h a1 a2 a3 a4 a5 a6 cb ci b) sz) := by
  obtain ⟨tp, tl, vo, np, rp, rl, rc, sb, sa⟩ := b
  obtain ⟨htl, hnp, hrc, hsb, hsa, hrow⟩ := hb
  exact c_byteOf l dC dI h a1 a2 a3 a4 a5 a6 cb ci tp tl vo np rp rl rc sb sa sz x i hnp
set_option maxRecDepth 100000 in
theorem k_good (l : Launch) (dC : Nat → ClassId) (dI : Nat → Nat → Nat) (h a1 a2 a3 a4 a5 a6 : Nat) (cb ci : ClassId) (sz : Nat) (b : BSt) (hb : bOk b) (x : Int32) : Met l yX0_good wsX0_good ({ frames := 2, cells := 0, slots := 0, locals := 41 }) (kPre (dC, dI) vwCl (wBs h a1 a2 a3 a4 a5 a6 cb ci b) (tB cb ci) sz [.ref h, .int x]) (kQi (dC, dI) vwCl (wBs h a1 a2 a3 a4 a5 a6 cb ci b) (tB cb ci) sz (bI (goodX b.2.2.2.1 b.2.2.2.2.2.2.2.1 x)) (wBs h a1 a2 a3 a4 a5 a6 cb ci (b))) 0 0 (va_A (wBs h a1 a2 a3 a4 a5 a6 cb ci b) sz) := by
  obtain ⟨tp, tl, vo, np, rp, rl, rc, sb, sa⟩ := b
  obtain ⟨htl, hnp, hrc, hsb, hsa, hrow⟩ := hb
  exact c_good l dC dI h a1 a2 a3 a4 a5 a6 cb ci tp tl vo np rp rl rc sb sa sz x hnp hsb
set_option maxRecDepth 100000 in
theorem k_verify (l : Launch) (dC : Nat → ClassId) (dI : Nat → Nat → Nat) (h a1 a2 a3 a4 a5 a6 : Nat) (cb ci : ClassId) (sz : Nat) (b : BSt) (hb : bOk b) (x : Int32) : Met l yX0_verify wsX0_verify ({ frames := 3, cells := 0, slots := 0, locals := 62 }) (kPre (dC, dI) vwCl (wBs h a1 a2 a3 a4 a5 a6 cb ci b) (tB cb ci) sz [.ref h, .int x]) (kQi (dC, dI) vwCl (wBs h a1 a2 a3 a4 a5 a6 cb ci b) (tB cb ci) sz (vfX b.2.2.2.1 b.2.2.2.2.2.2.2.1 x) (wBs h a1 a2 a3 a4 a5 a6 cb ci (b))) 0 0 (va_A (wBs h a1 a2 a3 a4 a5 a6 cb ci b) sz) := by
  obtain ⟨tp, tl, vo, np, rp, rl, rc, sb, sa⟩ := b
  obtain ⟨htl, hnp, hrc, hsb, hsa, hrow⟩ := hb
  exact c_verify l dC dI h a1 a2 a3 a4 a5 a6 cb ci tp tl vo np rp rl rc sb sa sz x hnp hsb
set_option maxRecDepth 100000 in
theorem k_count (l : Launch) (dC : Nat → ClassId) (dI : Nat → Nat → Nat) (h a1 a2 a3 a4 a5 a6 : Nat) (cb ci : ClassId) (sz : Nat) (b : BSt) (hb : bOk b) (x : Int32) : Met l yX0_count wsX0_count ({ frames := 5, cells := 0, slots := 0, locals := 107 }) (kPre (dC, dI) vwCl (wBs h a1 a2 a3 a4 a5 a6 cb ci b) (tB cb ci) sz [.ref h, .int x]) (kQi (dC, dI) vwCl (wBs h a1 a2 a3 a4 a5 a6 cb ci b) (tB cb ci) sz (cntX b.2.1 b.2.2.2.1 b.2.2.2.2.2.2.1 b.2.2.2.2.1 b.2.2.2.2.2.1 b.2.2.2.2.2.2.2.1 x) (wBs h a1 a2 a3 a4 a5 a6 cb ci (b))) 0 0 (va_A (wBs h a1 a2 a3 a4 a5 a6 cb ci b) sz) := by
  obtain ⟨tp, tl, vo, np, rp, rl, rc, sb, sa⟩ := b
  obtain ⟨htl, hnp, hrc, hsb, hsa, hrow⟩ := hb
  exact c_count l dC dI h a1 a2 a3 a4 a5 a6 cb ci tp tl vo np rp rl rc sb sa sz x hnp hsb hrc hrow htl
set_option maxRecDepth 100000 in
theorem k_read (l : Launch) (dC : Nat → ClassId) (dI : Nat → Nat → Nat) (h a1 a2 a3 a4 a5 a6 : Nat) (cb ci : ClassId) (sz : Nat) (b : BSt) (hb : bOk b) (i x : Int32) : Met l yX0_read wsX0_read ({ frames := 5, cells := 0, slots := 0, locals := 108 }) (kPre (dC, dI) vwCl (wBs h a1 a2 a3 a4 a5 a6 cb ci b) (tB cb ci) sz [.ref h, .int i, .int x]) (kQi (dC, dI) vwCl (wBs h a1 a2 a3 a4 a5 a6 cb ci b) (tB cb ci) sz (rRead i x b) (wBs h a1 a2 a3 a4 a5 a6 cb ci (b))) 0 0 (va_A (wBs h a1 a2 a3 a4 a5 a6 cb ci b) sz) := by
  obtain ⟨tp, tl, vo, np, rp, rl, rc, sb, sa⟩ := b
  obtain ⟨htl, hnp, hrc, hsb, hsa, hrow⟩ := hb
  rcases rOf_or (isR np sb rp rl) i rc 0 0 rc (by omega) (by omega) with hN | ⟨r, hr, hN⟩
  · have e9 : rRead i x (tp, tl, vo, np, rp, rl, rc, sb, sa) = -1 := by dsimp only [rRead]; rw [if_pos hN]
    rw [e9]
    exact c_readN l dC dI h a1 a2 a3 a4 a5 a6 cb ci tp tl vo np rp rl rc sb sa sz i x hnp hsb hrc hrow hN
  · have e9 : rRead i x (tp, tl, vo, np, rp, rl, rc, sb, sa) = rdW vo rp rl r x := by dsimp only [rRead]; rw [hN, if_neg (nI_nm1 (by omega)), nI_tn (by omega)]
    rw [e9]
    exact c_read l dC dI h a1 a2 a3 a4 a5 a6 cb ci tp tl vo np rp rl rc sb sa sz i x hnp hsb hrc hrow r hr hN
