def RelV (vo : Nat → Int32) (np : Nat) (sb sa : Nat → Nat) (md mu fi : Nat → Nat) (sp : Nat → Int32) (sq : Nat → Nat) : Prop :=
  (∀ p, p < np → p / 56 = np / 56 → vo (ix p) = bn (nI (md p))) ∧
  (∀ p, np ≤ p → p < 4480 → vo (ix p) = 0) ∧
  (np % 56 ≠ 0 → vo (np / 56 * 64 + 3) = bn (nI (fi (np / 56))) ∧ sp (np / 56) = -1) ∧
  (∀ b, b < 80 → (np / 56 < b ∨ (np / 56 = b ∧ np % 56 = 0)) → vo (b * 64 + 3) = -1) ∧
  (∀ b, b < np / 56 → ∀ i, i < 64 → vo (b * 64 + i) = if sb b ≠ 0 ∧ sa b = i then bn (nI (pmN mu fi md b i) + nI (sb b)) else bn (nI (pmN mu fi md b i))) ∧
  (∀ b, b < np / 56 → (sb b = 0 ∧ sp b = -1) ∨ (sb b ≠ 0 ∧ sp b = nI (sa b) ∧ sq b = sb b)) ∧
  (∀ b, np / 56 ≤ b → sb b = 0) ∧ (∀ p, md p < 256) ∧ (∀ b, mu b < 256) ∧ (∀ b, fi b < 256)
def RelO (vo : Nat → Int32) (np : Nat) (sb sa : Nat → Nat) (md mu fi : Nat → Nat) (sp : Nat → Int32) (sq : Nat → Nat) : Prop :=
  (∀ p, p < np → p / 56 = np / 56 → vo (ix p) = bn (nI (md p))) ∧
  (∀ p, np ≤ p → p < 4480 → vo (ix p) = 0) ∧
  (vo (np / 56 * 64 + 3) = bn (nI (fi (np / 56))) ∧ sp (np / 56) = -1) ∧
  (∀ b, b < 80 → np / 56 < b → vo (b * 64 + 3) = -1) ∧
  (∀ b, b < np / 56 → ∀ i, i < 64 → vo (b * 64 + i) = if sb b ≠ 0 ∧ sa b = i then bn (nI (pmN mu fi md b i) + nI (sb b)) else bn (nI (pmN mu fi md b i))) ∧
  (∀ b, b < np / 56 → (sb b = 0 ∧ sp b = -1) ∨ (sb b ≠ 0 ∧ sp b = nI (sa b) ∧ sq b = sb b)) ∧
  (∀ b, np / 56 ≤ b → sb b = 0) ∧ (∀ p, md p < 256) ∧ (∀ b, mu b < 256) ∧ (∀ b, fi b < 256)
theorem un_lt {f : Nat → Nat} {k x M : Nat} (h : ∀ j, f j < M) (hx : x < M) : ∀ j, updN f k x j < M := by
  intro j
  by_cases hj : j = k
  · rw [hj, un_s]; exact hx
  · rw [un_n hj]; exact h j
theorem ix_ne {p q : Nat} (h : p ≠ q) : ix p ≠ ix q := by unfold ix; omega
theorem ix_ne3 {p b : Nat} : ix p ≠ b * 64 + 3 := by unfold ix; omega
theorem ix_nb {p b i : Nat} (hi : i < 64) (h : b ≠ p / 56) : ix p ≠ b * 64 + i := by unfold ix; omega
theorem rel_open {vo : Nat → Int32} {np : Nat} {sb sa md mu fi : Nat → Nat} {sp : Nat → Int32} {sq : Nat → Nat} (h : RelV vo np sb sa md mu fi sp sq) (hnp : np < 4480) : RelO vo np sb sa md mu (aG fi np) (aS sp np) sq := by
  obtain ⟨v1, v2, v3, v4, v5, vs, v0, b1, b2, b3⟩ := h
  unfold aG aS
  by_cases hz : np % 56 = 0
  · rw [if_pos hz, if_pos hz]
    refine ⟨v1, v2, ⟨?_, pk_us⟩, fun b hb hlt => v4 b hb (Or.inl hlt), fun b hb i hi => ?_, fun b hb => ?_, v0, b1, b2, un_lt b3 (by decide)⟩
    · rw [v4 (np / 56) (by omega) (Or.inr ⟨rfl, hz⟩), un_s]
      exact ((bn_m1 (by decide)).mpr rfl).symm
    · rw [v5 b hb i hi, pm_congr (mu' := mu) (fi' := updN fi (np / 56) 255) (md' := md) rfl (un_n (by omega)) (fun _ _ => rfl) hi]
    · rw [pk_un (show b ≠ np / 56 by omega)]
      exact vs b hb
  · rw [if_neg hz, if_neg hz]
    exact ⟨v1, v2, v3 hz, fun b hb hlt => v4 b hb (Or.inl hlt), v5, vs, v0, b1, b2, b3⟩
theorem rel_note {vo : Nat → Int32} {np : Nat} {sb sa md mu fi : Nat → Nat} {sp : Nat → Int32} {sq : Nat → Nat} (h : RelO vo np sb sa md mu (aG fi np) sp sq) (hnp : np < 4480) : RelO (ntB vo np) np sb sa md mu (aF fi np) sp sq := by
  obtain ⟨v1, v2, ⟨v3, v3s⟩, v4, v5, vs, v0, b1, b2, b3⟩ := h
  unfold ntB aF
  by_cases hz : aG fi np (np / 56) = 255
  · rw [if_pos hz, if_pos (by rw [v3, hz]; exact (bn_m1 (by decide)).mpr rfl)]
    refine ⟨fun p hp hq => ?_, fun p hp hq => ?_, ⟨?_, v3s⟩, fun b hb hlt => ?_, fun b hb i hi => ?_, vs, v0, b1, b2, un_lt b3 (by omega)⟩
    · rw [pk_un ix_ne3]; exact v1 p hp hq
    · rw [pk_un ix_ne3]; exact v2 p hp hq
    · rw [pk_us, un_s]
    · rw [pk_un (by omega)]; exact v4 b hb hlt
    · rw [pk_un (by omega), v5 b hb i hi, pm_congr (mu' := mu) (fi' := updN (aG fi np) (np / 56) (np % 56)) (md' := md) rfl (un_n (by omega)) (fun _ _ => rfl) hi]
  · rw [if_neg hz, if_neg (by rw [v3, bn_m1 (b3 _)]; exact hz)]
    exact ⟨v1, v2, ⟨v3, v3s⟩, v4, v5, vs, v0, b1, b2, b3⟩
theorem rel_app {vo : Nat → Int32} {np : Nat} {sb sa md mu fi : Nat → Nat} {sp : Nat → Int32} {sq : Nat → Nat} {v1 v2 : Int32} (h : RelO vo np sb sa md mu fi sp sq) (hnp : np < 4480) (hv : lb v1 = lb v2) : RelV (apV vo np v1) (np + 1) sb sa (updN md np (lb v2)) (aU mu np) fi sp sq := by
  obtain ⟨w1, w2, ⟨w3, w3s⟩, w4, w5, ws, w0, b1, b2, b3⟩ := h
  have hbv : bn v1 = bn (nI (lb v2)) := by rw [← hv]; exact bn_lb v1
  have bmd : ∀ p, updN md np (lb v2) p < 256 := un_lt b1 (lb_lt v2)
  unfold apV aU
  by_cases hf : (np + 1) % 56 = 0
  · have hb0 : (np + 1) / 56 - 1 = np / 56 := by omega
    have hf2 : np % 56 + 1 = 56 := by omega
    rw [if_pos hf, if_pos hf2, hb0, hf2]
    have hdiv : (np + 1) / 56 = np / 56 + 1 := by omega
    have hblk := wb_block (vo := upd vo (ix np) (bn v1)) (b := np / 56) (u := 56) (mu := updN mu (np / 56) 56) (fi := fi) (md := updN md np (lb v2)) (by omega) (by decide) un_s (b3 _) (by rw [pk_un (Ne.symm ix_ne3)]; exact w3) (fun j _ => bmd _) (fun j hj => by
      have hix : np / 56 * 64 + 8 + j = ix (56 * (np / 56) + j) := by unfold ix; omega
      rw [hix]
      by_cases hj2 : 56 * (np / 56) + j = np
      · rw [hj2, pk_us, un_s]; exact hbv
      · rw [pk_un (ix_ne hj2), un_n hj2]
        exact w1 _ (by omega) (by omega))
    refine ⟨fun p hp hq => absurd hq (by omega), fun p hp hq => ?_, fun hq => absurd hf hq, fun b hb hq => ?_, fun b hb i hi => ?_, fun b hb => ?_, fun b hb => w0 b (by omega), bmd, un_lt b2 (by decide), b3⟩
    · rw [wb_out (by unfold ix; omega), pk_un (ix_ne (by omega))]
      exact w2 p (by omega) hq
    · rw [wb_out (by omega), pk_un (Ne.symm ix_ne3)]
      exact w4 b hb (by omega)
    · by_cases hbe : b = np / 56
      · rw [hbe, if_neg (by rw [w0 (np / 56) (Nat.le_refl _)]; simp)]
        exact hblk i hi
      · rw [wb_out (by omega), pk_un (Ne.symm (ix_nb hi hbe)), w5 b (by omega) i hi, pm_congr (mu' := updN mu (np / 56) 56) (fi' := fi) (md' := updN md np (lb v2)) (un_n hbe) rfl (fun j hj => un_n (by omega)) hi]
    · by_cases hbe : b = np / 56
      · rw [hbe]
        exact Or.inl ⟨w0 _ (Nat.le_refl _), w3s⟩
      · exact ws b (by omega)
  · have hf2 : ¬ np % 56 + 1 = 56 := by omega
    have hdiv : (np + 1) / 56 = np / 56 := by omega
    rw [if_neg hf, if_neg hf2]
    refine ⟨fun p hp hq => ?_, fun p hp hq => ?_, fun _ => ?_, fun b hb hq => ?_, fun b hb i hi => ?_, fun b hb => ws b (by omega), fun b hb => w0 b (by omega), bmd, b2, b3⟩
    · by_cases hpe : p = np
      · rw [hpe, pk_us, un_s]; exact hbv
      · rw [pk_un (ix_ne hpe), un_n hpe]
        exact w1 p (by omega) (by omega)
    · rw [pk_un (ix_ne (by omega))]
      exact w2 p (by omega) hq
    · rw [hdiv, pk_un (Ne.symm ix_ne3)]
      exact ⟨w3, w3s⟩
    · rw [pk_un (Ne.symm ix_ne3)]
      exact w4 b hb (by omega)
    · rw [pk_un (Ne.symm (ix_nb hi (by omega))), w5 b (by omega) i hi, pm_congr (mu' := mu) (fi' := fi) (md' := updN md np (lb v2)) rfl rfl (fun j hj => un_n (by omega)) hi]
theorem cz_at {md : Nat → Nat} {np : Nat} : ∀ n p, cz md np n p = if np ≤ p ∧ p < np + n then 0 else md p
  | 0, p => by rw [cz, if_neg (by omega)]
  | n + 1, p => by
    rw [cz]
    by_cases hp : p = np + n
    · rw [hp, un_s, if_pos (by omega)]
    · rw [un_n hp, cz_at n p]
      by_cases hq : np ≤ p ∧ p < np + n
      · rw [if_pos hq, if_pos (by omega)]
      · rw [if_neg hq, if_neg (by omega)]
theorem rel_close {vo : Nat → Int32} {np : Nat} {sb sa md mu fi : Nat → Nat} {sp : Nat → Int32} {sq : Nat → Nat} (h : RelV vo np sb sa md mu fi sp sq) (hnp : np ≤ 4480) (hu : np % 56 ≠ 0) : RelV (wbV vo (np / 56) (np % 56)) (np + (56 - np % 56)) sb sa (cz md np (56 - np % 56)) (updN mu (np / 56) (np % 56)) fi sp sq := by
  obtain ⟨w1, w2, w3, w4, w5, ws, w0, b1, b2, b3⟩ := h
  obtain ⟨w3, w3s⟩ := w3 hu
  have hdiv : (np + (56 - np % 56)) / 56 = np / 56 + 1 := by omega
  have hmod : (np + (56 - np % 56)) % 56 = 0 := by omega
  have bmd : ∀ p, cz md np (56 - np % 56) p < 256 := by
    intro p
    rw [cz_at]
    split
    · decide
    · exact b1 p
  have hblk := wb_block (vo := vo) (b := np / 56) (u := np % 56) (mu := updN mu (np / 56) (np % 56)) (fi := fi) (md := cz md np (56 - np % 56)) (by omega) (by omega) un_s (b3 _) w3 (fun j _ => bmd _) (fun j hj => by
    have hix : np / 56 * 64 + 8 + j = ix (56 * (np / 56) + j) := by unfold ix; omega
    rw [hix, cz_at]
    by_cases hj2 : np ≤ 56 * (np / 56) + j
    · rw [if_pos (by omega), w2 _ hj2 (by omega)]
      exact bn_z.symm
    · rw [if_neg (by omega)]
      exact w1 _ (by omega) (by omega))
  refine ⟨fun p hp hq => absurd hq (by omega), fun p hp hq => ?_, fun hq => absurd hmod hq, fun b hb hq => ?_, fun b hb i hi => ?_, fun b hb => ?_, fun b hb => w0 b (by omega), bmd, un_lt b2 (by omega), b3⟩
  · rw [wb_out (by unfold ix; omega)]
    exact w2 p (by omega) hq
  · rw [wb_out (by omega)]
    exact w4 b hb (by omega)
  · by_cases hbe : b = np / 56
    · rw [hbe, if_neg (by rw [w0 (np / 56) (Nat.le_refl _)]; simp)]
      exact hblk i hi
    · rw [wb_out (by omega), w5 b (by omega) i hi, pm_congr (mu' := updN mu (np / 56) (np % 56)) (fi' := fi) (md' := cz md np (56 - np % 56)) (un_n hbe) rfl (fun j hj => by rw [cz_at, if_neg (by omega)]) hi]
  · by_cases hbe : b = np / 56
    · rw [hbe]
      exact Or.inl ⟨w0 _ (Nat.le_refl _), w3s⟩
    · exact ws b (by omega)
