def lb (x : Int32) : Nat := x.toBitVec.toNat % 256
theorem lb_lt (x : Int32) : lb x < 256 := Nat.mod_lt _ (by decide)
theorem and255 (x : Int32) : x &&& nI 255 = nI (lb x) := pk_and x 8 (by decide)
def aS (sp : Nat → Int32) (np : Nat) : Nat → Int32 := if np % 56 = 0 then upd sp (np / 56) (-1) else sp
def aG (fi : Nat → Nat) (np : Nat) : Nat → Nat := if np % 56 = 0 then updN fi (np / 56) 255 else fi
def aF (fi : Nat → Nat) (np : Nat) : Nat → Nat := if aG fi np (np / 56) = 255 then updN (aG fi np) (np / 56) (np % 56) else aG fi np
def aU (mu : Nat → Nat) (np : Nat) : Nat → Nat := if np % 56 + 1 = 56 then updN mu (np / 56) (np % 56 + 1) else mu
theorem aG_lt {fi : Nat → Nat} {np : Nat} (h : fi (np / 56) < 256) : aG fi np (np / 56) < 256 := by
  unfold aG updN
  split
  · simp
  · exact h
def fdM (mt : Nat → Nat) (tl : Nat) (v : Int32) : Nat → (Nat → Nat)
  | 0 => mt
  | k + 1 => updN (fdM mt tl v k) (tl + k) (lb (v >>> (nI (24 - 8 * k) &&& 31)))
def lD (md : Nat → Nat) (np : Nat) (mt : Nat → Nat) : Nat → (Nat → Nat)
  | 0 => md
  | k + 1 => updN (lD md np mt k) (np + k) (lb (nI (mt k)))
def lU (mu : Nat → Nat) (np : Nat) : Nat → (Nat → Nat)
  | 0 => mu
  | k + 1 => aU (lU mu np k) (np + k)
def lG (fi : Nat → Nat) (np : Nat) : Nat → (Nat → Nat)
  | 0 => fi
  | k + 1 => aG (lG fi np k) (np + k)
def lS (sp : Nat → Int32) (np : Nat) : Nat → (Nat → Int32)
  | 0 => sp
  | k + 1 => aS (lS sp np k) (np + k)
def lY (my : Nat → Nat) (kp : Nat) (mt : Nat → Nat) : Nat → (Nat → Nat)
  | 0 => my
  | k + 1 => updN (lY my kp mt k) (kp + k) (mt k)
def lO (mo : Nat → Nat) (r np : Nat) : Nat → (Nat → Nat)
  | 0 => mo
  | k + 1 => updN (lO mo r np k) r ((np + k) / 56)
def hD6 (md : Nat → Nat) (np : Nat) (sv iv : Int32) (tl : Nat) : Nat → Nat :=
  updN (updN (updN (updN (updN (updN md np (lb sv)) (np + 1) (lb (iv >>> (nI 8 &&& 31)))) (np + 2) (lb iv)) (np + 3) (lb (nI tl >>> (nI 8 &&& 31)))) (np + 4) (lb (nI tl))) (np + 5) (lb (nI 90))
def cz (md : Nat → Nat) (np : Nat) : Nat → (Nat → Nat)
  | 0 => md
  | n + 1 => updN (cz md np n) (np + n) 0
def plN (mu fi md : Nat → Nat) (b i : Nat) : Nat := if i = 0 then b / 256 else if i = 1 then b % 256 else if i = 2 then mu b else if i = 3 then fi b else md (56 * b + i - 8)
def sumM (mu fi md : Nat → Nat) (b : Nat) : Nat → Int32
  | 0 => -1
  | i + 1 => if 3 < i ∧ i < 8 then sumM mu fi md b i else crcN (sumM mu fi md b i ^^^ nI (plN mu fi md b i)) 8
def sumX (mu fi md : Nat → Nat) (b : Nat) : Int32 := sumM mu fi md b 64 ^^^ (-1)
def pmN (mu fi md : Nat → Nat) (b i : Nat) : Nat := if 3 < i ∧ i < 8 then lb (sumX mu fi md b >>> (nI (8 * (7 - i)) &&& 31)) else plN mu fi md b i
def byN (mu fi md : Nat → Nat) (sp : Nat → Int32) (sq : Nat → Nat) (b i : Nat) : Nat := if sp b = nI i then lb (nI (pmN mu fi md b i + sq b)) else pmN mu fi md b i
def byM (np : Nat) (mu fi md : Nat → Nat) (sp : Nat → Int32) (sq : Nat → Nat) (x i : Int32) : Int32 := if isW np x = true ∧ inB i = true then nI (byN mu fi md sp sq x.toInt.toNat i.toInt.toNat) else -1
def rdM (ms mi ml mf mb my : Nat → Nat) (r : Nat) (x : Int32) : Int32 :=
  if x = nI 0 then nI (ms r) else if x = nI 1 then nI (mi r) else if x = nI 2 then nI (ml r) else if x = nI 3 then nI (mf r) else if 3 < x.toInt ∧ x.toInt - 4 < ml r then nI (my (mb r + (x.toInt.toNat - 4))) else -1
theorem byM_t {np : Nat} {mu fi md : Nat → Nat} {sp : Nat → Int32} {sq : Nat → Nat} {j q : Nat} (h1 : j < np / 56) (h2 : q < 64) (hnp : np ≤ 4480) : byM np mu fi md sp sq (nI j) (nI q) = nI (byN mu fi md sp sq j q) := by
  rw [byM, isW_n (by omega), inB_n (by omega), nI_tn (by omega), nI_tn (by omega), if_pos ⟨decide_eq_true h1, decide_eq_true h2⟩]
theorem byM_f {np : Nat} {mu fi md : Nat → Nat} {sp : Nat → Int32} {sq : Nat → Nat} {x i : Int32} (h : isW np x = false ∨ inB i = false) : byM np mu fi md sp sq x i = -1 := by
  rw [byM, if_neg]
  rintro ⟨h1, h2⟩
  rcases h with h | h
  · rw [h] at h1; cases h1
  · rw [h] at h2; cases h2
theorem rdM_hi {ms mi ml mf mb my : Nat → Nat} {r : Nat} {x : Int32} (h : 4 ≤ x.toInt) (h2 : x.toInt - 4 < ml r) : rdM ms mi ml mf mb my r x = nI (my (mb r + (x.toInt.toNat - 4))) := by
  have h4 : x.toInt < 0 ∨ ((4 : Nat) : Int) ≤ x.toInt := Or.inr h
  rw [rdM, if_neg (nI_ne (by decide) h4 (by decide)), if_neg (nI_ne (by decide) h4 (by decide)), if_neg (nI_ne (by decide) h4 (by decide)), if_neg (nI_ne (by decide) h4 (by decide)), if_pos ⟨by omega, h2⟩]
theorem rdM_no {ms mi ml mf mb my : Nat → Nat} {r : Nat} {x : Int32} (h : x.toInt < 0 ∨ 4 ≤ x.toInt) (h2 : ¬ (3 < x.toInt ∧ x.toInt - 4 < ml r)) : rdM ms mi ml mf mb my r x = -1 := by
  have h4 : x.toInt < 0 ∨ ((4 : Nat) : Int) ≤ x.toInt := h
  rw [rdM, if_neg (nI_ne (by decide) h4 (by decide)), if_neg (nI_ne (by decide) h4 (by decide)), if_neg (nI_ne (by decide) h4 (by decide)), if_neg (nI_ne (by decide) h4 (by decide)), if_neg h2]
theorem c1_one {c : Int32} : c &&& nI 1 = nI 1 ↔ ¬ c &&& nI 1 = 0 := by
  have h := pk_and c (m := nI 1) 1 (by decide)
  rw [h, ← nI_0, nI_eq (by omega) (by omega), nI_eq (by omega) (by omega)]
  omega
theorem vpos {x : Int32} (h : 0 ≤ x.toInt) : x = nI x.toInt.toNat := by
  obtain ⟨j, hj, rfl⟩ := kx_of h
  rw [nI_tn hj]
theorem rdM_q {ms mi ml mf mb my : Nat → Nat} {r q : Nat} (h : 4 ≤ q ∧ q < 2 ^ 31) : rdM ms mi ml mf mb my r (nI q) = if q - 4 < ml r then nI (my (mb r + (q - 4))) else -1 := by
  have e := nI_toInt h.2
  by_cases h2 : q - 4 < ml r
  · rw [rdM_hi (by omega) (by omega), if_pos h2, nI_tn h.2]
  · rw [rdM_no (by omega) (by omega), if_neg h2]
