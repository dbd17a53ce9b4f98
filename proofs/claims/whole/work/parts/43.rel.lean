def RelR (np : Nat) (rp rl ms mi ml mb mf mo my md : Nat → Nat) (kp r : Nat) : Prop :=
  rp r + rl r ≤ np ∧ rl r = 6 + ml r ∧ ml r ≤ 300 ∧ mf r = rp r / 56 ∧ mo r = (rp r + rl r - 1) / 56 ∧ ms r = md (rp r) ∧ mi r = md (rp r + 1) * 256 + md (rp r + 2) ∧ mb r + ml r ≤ kp ∧ ∀ j, j < ml r → my (mb r + j) = md (rp r + 6 + j)
def Rel (b : BSt) (q : MSt) : Prop := match b, q with
  | (tp, tl, vo, np, rp, rl, rc, sb, sa), (mt, kp, ms, mi, ml, mb, mf, mo, my, md, mu, fi, sp, sq) =>
    tl ≤ 300 ∧ np ≤ 4480 ∧ rc ≤ 200 ∧ (∀ k, k < 80 → sb k < 256) ∧ (∀ k, k < 80 → sa k < 64) ∧ (∀ k, k < tl → tp k = bn (nI (mt k)) ∧ mt k < 256) ∧ RelV vo np sb sa md mu fi sp sq ∧ kp + 6 * rc ≤ np ∧ ∀ r, r < rc → RelR np rp rl ms mi ml mb mf mo my md kp r
def b0 : BSt := (fun _ => 0, 0, iniV 80, 0, fun _ => 0, fun _ => 0, 0, fun _ => 0, fun _ => 0)
def q0 : MSt := (fun _ => 0, 0, fun _ => 0, fun _ => 0, fun _ => 0, fun _ => 0, fun _ => 0, fun _ => 0, fun _ => 0, fun _ => 0, fun _ => 0, fun _ => 0, fun _ => 0, fun _ => 0)
theorem ini_n : ∀ n j, (∀ b, j ≠ b * 64 + 3) → iniV n j = 0
  | 0, _, _ => rfl
  | n + 1, j, h => by rw [iniV, pk_un (h n), ini_n n j h]
theorem ini_3 : ∀ n b, b < n → iniV n (b * 64 + 3) = -1
  | 0, b, h => absurd h (Nat.not_lt_zero b)
  | n + 1, b, h => by
    by_cases hb : b = n
    · rw [hb, iniV, pk_us]
    · rw [iniV, pk_un (by omega), ini_3 n b (by omega)]
theorem rel0 : Rel b0 q0 := by
  refine ⟨by decide, by decide, by decide, fun _ _ => (show (0 : Nat) < 256 by decide), fun _ _ => (show (0 : Nat) < 64 by decide), fun k hk => absurd hk (Nat.not_lt_zero k), ?_, Nat.le_refl _, fun r hr => absurd hr (Nat.not_lt_zero r)⟩
  refine ⟨fun p hp => absurd hp (Nat.not_lt_zero p), fun p _ _ => ini_n 80 _ (fun b => ix_ne3), fun h => absurd rfl h, fun b hb _ => ini_3 80 b hb, fun b hb => absurd hb (Nat.not_lt_zero b), fun b hb => absurd hb (Nat.not_lt_zero b), fun _ _ => rfl, fun _ => (show (0 : Nat) < 256 by decide), fun _ => (show (0 : Nat) < 256 by decide), fun _ => (show (0 : Nat) < 256 by decide)⟩
theorem rel_ok {b : BSt} {q : MSt} (h : Rel b q) : bOk b := by
  obtain ⟨tp, tl, vo, np, rp, rl, rc, sb, sa⟩ := b
  obtain ⟨mt, kp, ms, mi, ml, mb, mf, mo, my, md, mu, fi, sp, sq⟩ := q
  obtain ⟨h1, h2, h3, h4, h5, h6, h7, h8, h9⟩ := h
  exact ⟨h1, h2, h3, h4, h5, fun k hk => by obtain ⟨g1, g2, g3, -⟩ := h9 k hk; omega⟩
theorem rel_sp {vo : Nat → Int32} {np : Nat} {sb sa md mu fi : Nat → Nat} {sp : Nat → Int32} {sq : Nat → Nat} (h : RelV vo np sb sa md mu fi sp sq) (hnp : np ≤ 4480) (hsa : ∀ k, k < 80 → sa k < 64) : ∀ b, b < np / 56 → ((sp b).toInt < 0 ↔ sb b = 0) := by
  intro b hb
  obtain ⟨-, -, -, -, -, vs, -⟩ := h
  have hs := hsa b (by omega)
  rcases vs b hb with ⟨e1, e2⟩ | ⟨e1, e2, -⟩
  · rw [e2]
    exact ⟨fun _ => e1, fun _ => by decide⟩
  · rw [e2, nI_toInt (by omega)]
    omega
theorem feed_rel {tp : Nat → Int32} {mt : Nat → Nat} {tl : Nat} {v : Int32} (h : ∀ k, k < tl → tp k = bn (nI (mt k)) ∧ mt k < 256) : ∀ n, n ≤ 4 → ∀ k, k < tl + n → fdT tp tl v n k = bn (nI (fdM mt tl v n k)) ∧ fdM mt tl v n k < 256
  | 0, _, k, hk => h k hk
  | n + 1, hn, k, hk => by
    rw [fdT, fdM]
    by_cases hkn : k = tl + n
    · rw [hkn, pk_us, un_s]
      exact ⟨bn_of_lb (by rw [lb_n (lb_lt _), lb_shift (by omega)]), lb_lt _⟩
    · rw [pk_un hkn, un_n hkn]
      exact feed_rel h n (by omega) k (by omega)
theorem rel_loop {vo : Nat → Int32} {np : Nat} {sb sa md mu fi : Nat → Nat} {sp : Nat → Int32} {sq : Nat → Nat} {tp : Nat → Int32} {mt : Nat → Nat} {tl : Nat} (h : RelV vo np sb sa md mu fi sp sq) (hnp : np + tl ≤ 4480) (ht : ∀ k, k < tl → tp k = bn (nI (mt k)) ∧ mt k < 256) : ∀ k, k ≤ tl → RelV (apL vo np tp k) (np + k) sb sa (lD md np mt k) (lU mu np k) (lG fi np k) (lS sp np k) sq
  | 0, _ => h
  | k + 1, hk => rel_app (rel_open (rel_loop h hnp ht k (by omega)) (by omega)) (by omega) (by rw [(ht k (by omega)).1, lb_bn])
theorem rel_row {vo : Nat → Int32} {np : Nat} {sb sa md mu fi : Nat → Nat} {sp : Nat → Int32} {sq : Nat → Nat} {tp : Nat → Int32} {mt : Nat → Nat} {tl : Nat} {sv iv : Int32} (h : RelV vo np sb sa md mu fi sp sq) (hnp : np + 6 + tl ≤ 4480) (ht : ∀ k, k < tl → tp k = bn (nI (mt k)) ∧ mt k < 256) : RelV (apR (ntB vo np) np sv iv tp tl) (np + 6 + tl) sb sa (lD (hD6 md np sv iv tl) (np + 6) mt tl) (lU (lU mu np 6) (np + 6) tl) (lG (lG (aF fi np) (np + 1) 5) (np + 6) tl) (lS (lS sp np 6) (np + 6) tl) sq := by
  have h1 := rel_app (v1 := sv) (v2 := sv) (rel_note (rel_open h (by omega)) (by omega)) (by omega) rfl
  have h2 := rel_app (v1 := ush iv 8) (v2 := iv >>> (nI 8 &&& 31)) (rel_open h1 (by omega)) (by omega) (lb_shift (by decide) iv)
  have h3 := rel_app (v1 := iv) (v2 := iv) (rel_open h2 (by omega)) (by omega) rfl
  have h4 := rel_app (v1 := ush (nI tl) 8) (v2 := nI tl >>> (nI 8 &&& 31)) (rel_open h3 (by omega)) (by omega) (lb_shift (by decide) _)
  have h5 := rel_app (v1 := nI tl) (v2 := nI tl) (rel_open h4 (by omega)) (by omega) rfl
  have h6 := rel_app (v1 := nI 90) (v2 := nI 90) (rel_open h5 (by omega)) (by omega) rfl
  have h7 : RelV (apH (ntB vo np) np sv iv tl) (np + 6) sb sa (hD6 md np sv iv tl) (lU mu np 6) (lG (aF fi np) (np + 1) 5) (lS sp np 6) sq := h6
  exact rel_loop h7 (by omega) ht tl (Nat.le_refl _)
theorem lD_old {md : Nat → Nat} {np : Nat} {mt : Nat → Nat} : ∀ k p, p < np → lD md np mt k p = md p
  | 0, _, _ => rfl
  | k + 1, p, h => by rw [lD, un_n (by omega), lD_old k p h]
theorem lD_new {md : Nat → Nat} {np : Nat} {mt : Nat → Nat} : ∀ k j, j < k → lD md np mt k (np + j) = lb (nI (mt j))
  | 0, j, h => absurd h (Nat.not_lt_zero j)
  | k + 1, j, h => by
    by_cases hj : j = k
    · rw [hj, lD, un_s]
    · rw [lD, un_n (by omega), lD_new k j (by omega)]
theorem lY_old {my : Nat → Nat} {kp : Nat} {mt : Nat → Nat} : ∀ k p, p < kp → lY my kp mt k p = my p
  | 0, _, _ => rfl
  | k + 1, p, h => by rw [lY, un_n (by omega), lY_old k p h]
theorem lY_new {my : Nat → Nat} {kp : Nat} {mt : Nat → Nat} : ∀ k j, j < k → lY my kp mt k (kp + j) = mt j
  | 0, j, h => absurd h (Nat.not_lt_zero j)
  | k + 1, j, h => by
    by_cases hj : j = k
    · rw [hj, lY, un_s]
    · rw [lY, un_n (by omega), lY_new k j (by omega)]
theorem lO_old {mo : Nat → Nat} {r np : Nat} : ∀ k p, p ≠ r → lO mo r np k p = mo p
  | 0, _, _ => rfl
  | k + 1, p, h => by rw [lO, un_n h, lO_old k p h]
theorem lO_new {mo : Nat → Nat} {r np v : Nat} (h : mo r = (np + v) / 56) : ∀ k, lO mo r (np + v + 1) k r = (np + v + k) / 56
  | 0 => h
  | k + 1 => by rw [lO, un_s, show np + v + 1 + k = np + v + (k + 1) by omega]
theorem hD6_old {md : Nat → Nat} {np : Nat} {sv iv : Int32} {tl p : Nat} (h : p < np) : hD6 md np sv iv tl p = md p := by
  unfold hD6
  rw [un_n (by omega), un_n (by omega), un_n (by omega), un_n (by omega), un_n (by omega), un_n (by omega)]
theorem hD6_0 {md : Nat → Nat} {np : Nat} {sv iv : Int32} {tl : Nat} : hD6 md np sv iv tl np = lb sv := by
  unfold hD6
  rw [un_n (by omega), un_n (by omega), un_n (by omega), un_n (by omega), un_n (by omega), un_s]
theorem hD6_1 {md : Nat → Nat} {np : Nat} {sv iv : Int32} {tl : Nat} : hD6 md np sv iv tl (np + 1) = lb (iv >>> (nI 8 &&& 31)) := by
  unfold hD6
  rw [un_n (by omega), un_n (by omega), un_n (by omega), un_n (by omega), un_s]
theorem hD6_2 {md : Nat → Nat} {np : Nat} {sv iv : Int32} {tl : Nat} : hD6 md np sv iv tl (np + 2) = lb iv := by
  unfold hD6
  rw [un_n (by omega), un_n (by omega), un_n (by omega), un_s]
theorem row_old {np : Nat} {rp rl ms mi ml mb mf mo my md : Nat → Nat} {kp r : Nat} {np' kp' : Nat} {rp' rl' ms' mi' ml' mb' mf' mo' my' md' : Nat → Nat} (h : RelR np rp rl ms mi ml mb mf mo my md kp r) (hn : np ≤ np') (hk : kp ≤ kp') (e1 : rp' r = rp r) (e2 : rl' r = rl r) (e3 : ms' r = ms r) (e4 : mi' r = mi r) (e5 : ml' r = ml r) (e6 : mb' r = mb r) (e7 : mf' r = mf r) (e8 : mo' r = mo r) (e9 : ∀ p, p < kp → my' p = my p) (e10 : ∀ p, p < np → md' p = md p) : RelR np' rp' rl' ms' mi' ml' mb' mf' mo' my' md' kp' r := by
  obtain ⟨h1, h2, h3, h4, h5, h6, h7, h8, h9⟩ := h
  unfold RelR
  rw [e1, e2, e3, e4, e5, e6, e7, e8]
  refine ⟨by omega, h2, h3, h4, h5, ?_, ?_, by omega, fun j hj => ?_⟩
  · rw [e10 _ (by omega)]; exact h6
  · rw [e10 _ (by omega), e10 _ (by omega)]; exact h7
  · rw [e9 _ (by omega), e10 _ (by omega)]; exact h9 j hj
theorem row_new {np : Nat} {rp rl ms mi ml mb mf mo my md mt : Nat → Nat} {kp rc tl js ji : Nat} (hjs : js < 256) (hji : ji < 65536) (htl : tl ≤ 300) (hmt : ∀ k, k < tl → mt k < 256) : RelR (np + 6 + tl) (updN rp rc np) (updN rl rc (6 + tl)) (updN ms rc js) (updN mi rc ji) (updN ml rc tl) (updN mb rc kp) (updN mf rc (np / 56)) (lO (updN mo rc ((np + 5) / 56)) rc (np + 6) tl) (lY my kp mt tl) (lD (hD6 md np (nI js) (nI ji) tl) (np + 6) mt tl) (kp + tl) rc := by
  unfold RelR
  rw [un_s, un_s, un_s, un_s, un_s, un_s, un_s]
  refine ⟨by omega, rfl, htl, rfl, ?_, ?_, ?_, Nat.le_refl _, fun j hj => ?_⟩
  · rw [lO_new (np := np) (v := 5) un_s tl]
    congr 1
    omega
  · rw [lD_old tl np (by omega), hD6_0, lb_n hjs]
  · rw [lD_old tl (np + 1) (by omega), lD_old tl (np + 2) (by omega), hD6_1, hD6_2, pk_shrN (by omega) (nI 8 &&& 31) 8 (by decide), lb_n (by omega), lb, pk_tn (by omega)]
    omega
  · rw [lY_new tl j hj, lD_new tl j hj, lb_n (hmt j hj)]
theorem byte_eq {vo : Nat → Int32} {np : Nat} {sb sa md mu fi : Nat → Nat} {sp : Nat → Int32} {sq : Nat → Nat} (h : RelV vo np sb sa md mu fi sp sq) (hnp : np ≤ 4480) (hsa : ∀ k, k < 80 → sa k < 64) (x i : Int32) : bof np vo x i = byM np mu fi md sp sq x i := by
  obtain ⟨v1, v2, v3, v4, v5, vs, v0, b1, b2, b3⟩ := h
  by_cases hc : isW np x = true ∧ inB i = true
  · obtain ⟨hx, hi⟩ := hc
    rw [bof_t hx hi]
    obtain ⟨j, hj, rfl⟩ := isW_of hx
    obtain ⟨k, hk, rfl⟩ := inB_of hi
    rw [byM_t hj hk hnp, nI_tn (by omega), nI_tn (by omega), v5 j hj k hk]
    have hpm := pm_lt (mu := mu) (fi := fi) (md := md) (b := j) (i := k) (by omega) b2 b3 b1 hk
    have hsj := hsa j (by omega)
    unfold byN
    rcases vs j hj with ⟨e1, e2⟩ | ⟨e1, e2, e3⟩
    · rw [if_neg (by rw [e1]; simp), if_neg (by rw [e2]; exact fun h9 => nI_nm1 (show k < 2 ^ 31 by omega) h9.symm), bn_and, lb_n hpm]
    · by_cases hk2 : sa j = k
      · rw [if_pos ⟨e1, hk2⟩, if_pos (by rw [e2, hk2]), bn_and, e3, nI_add]
      · rw [if_neg (fun h9 => hk2 h9.2), if_neg (by rw [e2, nI_eq (by omega) (by omega)]; exact hk2), bn_and, lb_n hpm]
  · rw [bof, if_neg hc, byM, if_neg hc]
theorem rel_spoil {vo : Nat → Int32} {np : Nat} {sb sa md mu fi : Nat → Nat} {sp : Nat → Int32} {sq : Nat → Nat} {j k w : Nat} (h : RelV vo np sb sa md mu fi sp sq) (hnp : np ≤ 4480) (hj : j < np / 56) (hk : k < 64) (hw : w ≠ 0) (h0 : sb j = 0) : RelV (upd vo (j * 64 + k) (bn (vo (j * 64 + k) + nI w))) np (updN sb j w) (updN sa j k) md mu fi (upd sp j (nI k)) (updN sq j w) := by
  obtain ⟨v1, v2, v3, v4, v5, vs, v0, b1, b2, b3⟩ := h
  refine ⟨fun p hp hq => ?_, fun p hp hq => ?_, fun hq => ?_, fun b hb hq => ?_, fun b hb i hi => ?_, fun b hb => ?_, fun b hb => ?_, b1, b2, b3⟩
  · rw [pk_un (ix_nb hk (by omega))]; exact v1 p hp hq
  · rw [pk_un (ix_nb hk (by omega))]; exact v2 p hp hq
  · rw [pk_un (by omega), pk_un (show np / 56 ≠ j by omega)]; exact v3 hq
  · rw [pk_un (by omega)]; exact v4 b hb hq
  · by_cases hb2 : b = j
    · subst hb2
      rw [un_s, un_s]
      by_cases hi2 : k = i
      · subst hi2
        rw [pk_us, if_pos ⟨hw, rfl⟩, v5 b hb k hk, if_neg (by rw [h0]; simp), bn_add]
      · rw [pk_un (by omega), if_neg (fun h9 => hi2 h9.2), v5 b hb i hi, if_neg (by rw [h0]; simp)]
    · rw [pk_un (by omega), un_n hb2, un_n hb2]; exact v5 b hb i hi
  · by_cases hb2 : b = j
    · subst hb2
      rw [un_s, un_s, un_s, pk_us]
      exact Or.inr ⟨hw, rfl, rfl⟩
    · rw [un_n hb2, un_n hb2, un_n hb2, pk_un hb2]; exact vs b hb
  · rw [un_n (by omega)]; exact v0 b hb
theorem rel_heal {vo : Nat → Int32} {np : Nat} {sb sa md mu fi : Nat → Nat} {sp : Nat → Int32} {sq : Nat → Nat} {j : Nat} (h : RelV vo np sb sa md mu fi sp sq) (hnp : np ≤ 4480) (hj : j < np / 56) (hsa : ∀ k, k < 80 → sa k < 64) (h0 : sb j ≠ 0) : RelV (upd vo (j * 64 + sa j) (bn (vo (j * 64 + sa j) + -(nI (sb j))))) np (updN sb j 0) sa md mu fi (upd sp j (-1)) sq := by
  obtain ⟨v1, v2, v3, v4, v5, vs, v0, b1, b2, b3⟩ := h
  have hk := hsa j (by omega)
  refine ⟨fun p hp hq => ?_, fun p hp hq => ?_, fun hq => ?_, fun b hb hq => ?_, fun b hb i hi => ?_, fun b hb => ?_, fun b hb => ?_, b1, b2, b3⟩
  · rw [pk_un (ix_nb hk (by omega))]; exact v1 p hp hq
  · rw [pk_un (ix_nb hk (by omega))]; exact v2 p hp hq
  · rw [pk_un (by omega), pk_un (show np / 56 ≠ j by omega)]; exact v3 hq
  · rw [pk_un (by omega)]; exact v4 b hb hq
  · by_cases hb2 : b = j
    · subst hb2
      rw [un_s, if_neg (by simp)]
      by_cases hi2 : sa b = i
      · subst hi2
        rw [pk_us, v5 b hb (sa b) hk, if_pos ⟨h0, rfl⟩, bn_cancel]
      · rw [pk_un (by omega), v5 b hb i hi, if_neg (fun h9 => hi2 h9.2)]
    · rw [pk_un (by omega), un_n hb2]; exact v5 b hb i hi
  · by_cases hb2 : b = j
    · subst hb2
      rw [un_s, pk_us]
      exact Or.inl ⟨rfl, rfl⟩
    · rw [un_n hb2, pk_un hb2]; exact vs b hb
  · by_cases hb2 : b = j
    · subst hb2; exact un_s
    · rw [un_n hb2]; exact v0 b hb
theorem rOf_rd {rd : Nat → Bool} {i : Int32} {r : Nat} (hr : r < 2 ^ 31) : ∀ (n k q : Nat), k + n < 2 ^ 31 → rOf rd i n k q = nI r → rd r = true
  | 0, _, _, _, h => absurd h.symm (nI_nm1 hr)
  | n + 1, k, q, hk, h => by
    rw [rOf] at h
    by_cases h1 : rd k = true
    · rw [if_pos h1] at h
      by_cases h2 : nI q = i
      · rw [if_pos h2, nI_eq (by omega) hr] at h
        rw [← h]; exact h1
      · rw [if_neg h2] at h
        exact rOf_rd hr n (k + 1) (q + 1) (by omega) h
    · rw [if_neg h1] at h
      exact rOf_rd hr n (k + 1) q (by omega) h
theorem rOf_neg {rd : Nat → Bool} {i : Int32} (hi : i.toInt < 0) : ∀ (n k q : Nat), q + n < 2 ^ 31 → rOf rd i n k q = -1
  | 0, _, _, _ => rfl
  | n + 1, k, q, hq => by
    rw [rOf]
    by_cases h1 : rd k = true
    · rw [if_pos h1, if_neg (by rintro rfl; rw [nI_toInt (by omega)] at hi; omega)]
      exact rOf_neg hi n (k + 1) (q + 1) (by omega)
    · rw [if_neg h1]
      exact rOf_neg hi n (k + 1) q (by omega)
theorem allG_of {np : Nat} {sb : Nat → Nat} : ∀ n b, allG np sb n b = true → ∀ c, b ≤ c → c < b + n → gd np sb c = true
  | 0, b, _, c, h1, h2 => absurd h2 (by omega)
  | n + 1, b, h, c, h1, h2 => by
    rw [allG, Bool.and_eq_true] at h
    by_cases hc : c = b
    · rw [hc]; exact h.1
    · exact allG_of n (b + 1) h.2 c (by omega) (by omega)
theorem good_byte {vo : Nat → Int32} {np : Nat} {sb sa md mu fi : Nat → Nat} {sp : Nat → Int32} {sq : Nat → Nat} (h : RelV vo np sb sa md mu fi sp sq) {p : Nat} (hg : gd np sb (p / 56) = true) : (vo (ix p) &&& nI 255) = nI (md p) := by
  obtain ⟨v1, v2, v3, v4, v5, vs, v0, b1, b2, b3⟩ := h
  simp only [gd, Bool.and_eq_true, decide_eq_true_eq] at hg
  have h5 := v5 (p / 56) hg.1 (8 + p % 56) (by omega)
  rw [if_neg (by rw [hg.2]; simp), show p / 56 * 64 + (8 + p % 56) = ix p by unfold ix; omega] at h5
  rw [h5, bn_and]
  have hpm : pmN mu fi md (p / 56) (8 + p % 56) = md p := by
    unfold pmN plN
    rw [if_neg (by omega), if_neg (by omega), if_neg (by omega), if_neg (by omega), if_neg (by omega)]
    congr 1
    omega
  rw [hpm, lb_n (b1 p)]
theorem read_eq {vo : Nat → Int32} {np : Nat} {sb sa md mu fi : Nat → Nat} {sp : Nat → Int32} {sq : Nat → Nat} {rp rl ms mi ml mb mf mo my : Nat → Nat} {kp r : Nat} (h : RelV vo np sb sa md mu fi sp sq) (hr : RelR np rp rl ms mi ml mb mf mo my md kp r) (hrd : isR np sb rp rl r = true) (hnp : np ≤ 4480) (x : Int32) : rdW vo rp rl r x = rdM ms mi ml mf mb my r x := by
  obtain ⟨h1, h2, h3, h4, h5, h6, h7, h8, h9⟩ := hr
  have hb1 : ∀ p, md p < 256 := by obtain ⟨-, -, -, -, -, -, -, b1, -⟩ := h; exact b1
  have hby : ∀ j, j < rl r → (vo (ix (rp r + j)) &&& nI 255) = nI (md (rp r + j)) := fun j hj => good_byte h (allG_of _ _ hrd _ (by omega) (by omega))
  rcases kx_sw x 4 with hx | ⟨q, hq, rfl⟩
  · by_cases hx0 : x.toInt < 0
    · rw [rdW_lo hx0, rdM_no (Or.inl hx0) (by omega)]
    · obtain ⟨q, hq, rfl⟩ := kx_of (x := x) (by omega)
      rw [nI_toInt hq] at hx hx0
      rw [rdW_hi (by rw [nI_toInt hq]; omega), rdM_q (by omega), pk_sub (by omega)]
      by_cases hl : q - 4 < ml r
      · rw [recB_n (by omega) (by omega), if_pos hl, hby _ (by omega), h9 _ hl, show rp r + (6 + (q - 4)) = rp r + 6 + (q - 4) by omega]
      · rw [recB, nI_toInt (by omega), if_neg (by omega), if_neg hl]
  · have hq4 : q = 0 ∨ q = 1 ∨ q = 2 ∨ q = 3 := by omega
    rcases hq4 with rfl | rfl | rfl | rfl
    · show (vo (ix (rp r + 0)) &&& nI 255) = nI (ms r)
      rw [hby 0 (by omega), h6]; rfl
    · show ((vo (ix (rp r + 1)) &&& nI 255) <<< (nI 8 &&& 31)) ||| (vo (ix (rp r + 2)) &&& nI 255) = nI (mi r)
      rw [hby 1 (by omega), hby 2 (by omega), two_bytes (hb1 _) (hb1 _), h7]
    · show nI (rl r - 6) = nI (ml r)
      rw [h2, show 6 + ml r - 6 = ml r by omega]
    · show nI (rp r / 56) = nI (mf r)
      rw [h4]
