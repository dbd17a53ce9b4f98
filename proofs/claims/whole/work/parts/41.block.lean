theorem un_s {f : Nat → Nat} {k x : Nat} : updN f k x k = x := by simp [updN]
theorem un_n {f : Nat → Nat} {k x j : Nat} (h : j ≠ k) : updN f k x j = f j := by simp [updN, h]
theorem plN_lt {mu fi md : Nat → Nat} {b i : Nat} (hb : b < 80) (hmu : mu b < 256) (hfi : fi b < 256) (hmd : ∀ j, j < 56 → md (56 * b + j) < 256) (hi : i < 64) (hn : ¬ (3 < i ∧ i < 8)) : plN mu fi md b i < 256 := by
  unfold plN
  split
  · omega
  · split
    · omega
    · split
      · exact hmu
      · split
        · exact hfi
        · have h := hmd (i - 8) (by omega)
          rw [show 56 * b + (i - 8) = 56 * b + i - 8 by omega] at h
          exact h
theorem sum_lo {w : Nat → Int32} {mu fi md : Nat → Nat} {b st : Nat} (hb : ∀ i, i < 64 → ¬ (3 < i ∧ i < 8) → (w (st + i) &&& nI 255) = nI (plN mu fi md b i)) : ∀ k, k ≤ 4 → sumM mu fi md b k = crcB w (-1) st k
  | 0, _ => rfl
  | k + 1, h => by rw [sumM, if_neg (by omega), crcB, sum_lo hb k (by omega), hb k (by omega) (by omega)]
theorem sum_mid {mu fi md : Nat → Nat} {b : Nat} : ∀ k, k ≤ 4 → sumM mu fi md b (4 + k) = sumM mu fi md b 4
  | 0, _ => rfl
  | k + 1, h => by
    show sumM mu fi md b ((4 + k) + 1) = _
    rw [sumM, if_pos (by omega), sum_mid k (by omega)]
theorem sum_hi {w : Nat → Int32} {mu fi md : Nat → Nat} {b st : Nat} (hb : ∀ i, i < 64 → ¬ (3 < i ∧ i < 8) → (w (st + i) &&& nI 255) = nI (plN mu fi md b i)) : ∀ k, k ≤ 56 → sumM mu fi md b (8 + k) = crcB w (sumM mu fi md b 8) (st + 8) k
  | 0, _ => rfl
  | k + 1, h => by
    show sumM mu fi md b ((8 + k) + 1) = _
    rw [sumM, if_neg (by omega), crcB, sum_hi hb k (by omega), show st + 8 + k = st + (8 + k) by omega, hb (8 + k) (by omega) (by omega)]
theorem sum_eq {w : Nat → Int32} {mu fi md : Nat → Nat} {b st : Nat} (hb : ∀ i, i < 64 → ¬ (3 < i ∧ i < 8) → (w (st + i) &&& nI 255) = nI (plN mu fi md b i)) : sumX mu fi md b = sumB w st := by
  rw [sumX, sumB]
  have h1 := sum_hi hb 56 (Nat.le_refl _)
  have h2 := sum_mid (mu := mu) (fi := fi) (md := md) (b := b) 4 (Nat.le_refl _)
  have h3 := sum_lo hb 4 (Nat.le_refl _)
  rw [show (64 : Nat) = 8 + 56 from rfl, h1, show (8 : Nat) = 4 + 4 from rfl, h2, h3]
theorem wbH_0 {vo : Nat → Int32} {b u : Nat} : wbH vo b u (b * 64 + 0) = bn (ush (nI b) 8) := by
  unfold wbH
  rw [pk_un (by omega), pk_un (by omega)]
  exact pk_us
theorem wbH_1 {vo : Nat → Int32} {b u : Nat} : wbH vo b u (b * 64 + 1) = bn (nI b) := by
  unfold wbH
  rw [pk_un (by omega), pk_us]
theorem wbH_2 {vo : Nat → Int32} {b u : Nat} : wbH vo b u (b * 64 + 2) = bn (nI u) := by
  unfold wbH
  rw [pk_us]
theorem wbH_n {vo : Nat → Int32} {b u k : Nat} (h : k < b * 64 ∨ b * 64 + 3 ≤ k) : wbH vo b u k = vo k := by
  unfold wbH
  rw [pk_un (by omega), pk_un (by omega), pk_un (by omega)]
theorem wbS_n {vo : Nat → Int32} {st : Nat} {sm : Int32} : ∀ n j, (j < st + 4 ∨ st + 4 + n ≤ j) → wbS vo st sm n j = vo j
  | 0, _, _ => rfl
  | n + 1, j, h => by rw [wbS, pk_un (by omega), wbS_n n j (by omega)]
theorem wbS_at {vo : Nat → Int32} {st : Nat} {sm : Int32} : ∀ n k, k < n → wbS vo st sm n (st + 4 + k) = bn (ush sm (24 - 8 * k))
  | 0, k, h => absurd h (Nat.not_lt_zero k)
  | n + 1, k, h => by
    by_cases hk : k = n
    · rw [hk, wbS, pk_us]
    · rw [wbS, pk_un (by omega), wbS_at n k (by omega)]
theorem wb_out {vo : Nat → Int32} {b u k : Nat} (h : k < b * 64 ∨ b * 64 + 8 ≤ k ∨ k = b * 64 + 3) : wbV vo b u k = vo k := by
  unfold wbV
  rw [wbS_n 4 k (by omega), wbH_n (by omega)]
theorem ush8_n {b : Nat} (h : b < 2 ^ 32) : ush (nI b) 8 = nI (b / 256) := pk_ushrN h (nI 8) 8 (by decide)
theorem wb_block {vo : Nat → Int32} {b u : Nat} {mu fi md : Nat → Nat} (hb : b < 80) (hu : u < 256) (hmu : mu b = u) (hfi : fi b < 256) (h3 : vo (b * 64 + 3) = bn (nI (fi b))) (hmd : ∀ j, j < 56 → md (56 * b + j) < 256) (hd : ∀ j, j < 56 → vo (b * 64 + 8 + j) = bn (nI (md (56 * b + j)))) : ∀ i, i < 64 → wbV vo b u (b * 64 + i) = bn (nI (pmN mu fi md b i)) := by
  have hpl : ∀ i, i < 64 → ¬ (3 < i ∧ i < 8) → wbH vo b u (b * 64 + i) = bn (nI (plN mu fi md b i)) := by
    intro i hi hn
    unfold plN
    by_cases h0 : i = 0
    · rw [h0, wbH_0, if_pos rfl, ush8_n (by omega)]
    · by_cases h1 : i = 1
      · rw [h1, wbH_1, if_neg (by decide), if_pos rfl, show b % 256 = b by omega]
      · by_cases h2 : i = 2
        · rw [h2, wbH_2, if_neg (by decide), if_neg (by decide), if_pos rfl, hmu]
        · by_cases h33 : i = 3
          · rw [h33, wbH_n (by omega), if_neg (by decide), if_neg (by decide), if_neg (by decide), if_pos rfl, h3]
          · rw [wbH_n (by omega), if_neg h0, if_neg h1, if_neg h2, if_neg h33]
            have h := hd (i - 8) (by omega)
            rw [show b * 64 + 8 + (i - 8) = b * 64 + i by omega, show 56 * b + (i - 8) = 56 * b + i - 8 by omega] at h
            exact h
  have hs : sumX mu fi md b = sumB (wbH vo b u) (b * 64) := sum_eq (fun i hi hn => by rw [hpl i hi hn, bn_and, lb_n (plN_lt hb (by omega) hfi hmd hi hn)])
  intro i hi
  unfold pmN
  by_cases hn : 3 < i ∧ i < 8
  · rw [if_pos hn, hs]
    unfold wbV
    have h := wbS_at (vo := wbH vo b u) (st := b * 64) (sm := sumB (wbH vo b u) (b * 64)) 4 (i - 4) (by omega)
    rw [show b * 64 + 4 + (i - 4) = b * 64 + i by omega, show 24 - 8 * (i - 4) = 8 * (7 - i) by omega] at h
    rw [h]
    exact bn_of_lb (by rw [lb_n (lb_lt _), lb_shift (by omega)])
  · rw [if_neg hn, ← hpl i hi hn]
    unfold wbV
    exact wbS_n 4 _ (by omega)
theorem pm_congr {mu fi md mu' fi' md' : Nat → Nat} {b : Nat} (h1 : mu' b = mu b) (h2 : fi' b = fi b) (h3 : ∀ j, j < 56 → md' (56 * b + j) = md (56 * b + j)) {i : Nat} (hi : i < 64) : pmN mu' fi' md' b i = pmN mu fi md b i := by
  have hpl : ∀ i, i < 64 → ¬ (3 < i ∧ i < 8) → plN mu' fi' md' b i = plN mu fi md b i := by
    intro i hi hn
    unfold plN
    rw [h1, h2]
    by_cases h0 : i = 0
    · rw [if_pos h0, if_pos h0]
    · by_cases h01 : i = 1
      · rw [if_neg h0, if_pos h01, if_neg h0, if_pos h01]
      · by_cases h02 : i = 2
        · rw [if_neg h0, if_neg h01, if_pos h02, if_neg h0, if_neg h01, if_pos h02]
        · by_cases h03 : i = 3
          · rw [if_neg h0, if_neg h01, if_neg h02, if_pos h03, if_neg h0, if_neg h01, if_neg h02, if_pos h03]
          · rw [if_neg h0, if_neg h01, if_neg h02, if_neg h03, if_neg h0, if_neg h01, if_neg h02, if_neg h03]
            have h := h3 (i - 8) (by omega)
            rw [show 56 * b + (i - 8) = 56 * b + i - 8 by omega] at h
            exact h
  have hs : ∀ k, k ≤ 64 → sumM mu' fi' md' b k = sumM mu fi md b k := by
    intro k
    induction k with
    | zero => intro _; rfl
    | succ k ih =>
      intro hk
      rw [sumM, sumM, ih (by omega)]
      by_cases hn : 3 < k ∧ k < 8
      · rw [if_pos hn, if_pos hn]
      · rw [if_neg hn, if_neg hn, hpl k (by omega) hn]
  unfold pmN
  by_cases hn : 3 < i ∧ i < 8
  · rw [if_pos hn, if_pos hn, sumX, sumX, hs 64 (Nat.le_refl _)]
  · rw [if_neg hn, if_neg hn, hpl i hi hn]
theorem pm_lt {mu fi md : Nat → Nat} {b i : Nat} (hb : b < 80) (hmu : ∀ b, mu b < 256) (hfi : ∀ b, fi b < 256) (hmd : ∀ p, md p < 256) (hi : i < 64) : pmN mu fi md b i < 256 := by
  unfold pmN
  split
  · exact lb_lt _
  · next h => exact plN_lt hb (hmu b) (hfi b) (fun j _ => hmd _) hi h
