def ix (p : Nat) : Nat := p / 56 * 64 + 8 + p % 56
def crc1 (x : Int32) : Int32 := if x &&& nI 1 = 0 then ush x 1 else ush x 1 ^^^ (-306674912)
def crcN (x : Int32) : Nat → Int32
  | 0 => x
  | k + 1 => crc1 (crcN x k)
def crcB (vo : Nat → Int32) (c0 : Int32) (st : Nat) : Nat → Int32
  | 0 => c0
  | k + 1 => crcN (crcB vo c0 st k ^^^ (vo (st + k) &&& nI 255)) 8
def sumB (vo : Nat → Int32) (st : Nat) : Int32 := crcB vo (crcB vo (-1) st 4) (st + 8) 56 ^^^ (-1)
def wbH (vo : Nat → Int32) (b u : Nat) : Nat → Int32 := upd (upd (upd vo (b * 64) (bn (ush (nI b) 8))) (b * 64 + 1) (bn (nI b))) (b * 64 + 2) (bn (nI u))
def wbS (vo : Nat → Int32) (st : Nat) (sm : Int32) : Nat → (Nat → Int32)
  | 0 => vo
  | k + 1 => upd (wbS vo st sm k) (st + 4 + k) (bn (ush sm (24 - 8 * k)))
def wbV (vo : Nat → Int32) (b u : Nat) : Nat → Int32 := wbS (wbH vo b u) (b * 64) (sumB (wbH vo b u) (b * 64)) 4
def apV (vo : Nat → Int32) (np : Nat) (v : Int32) : Nat → Int32 := if (np + 1) % 56 = 0 then wbV (upd vo (ix np) (bn v)) ((np + 1) / 56 - 1) 56 else upd vo (ix np) (bn v)
def apL (vo : Nat → Int32) (np : Nat) (tp : Nat → Int32) : Nat → (Nat → Int32)
  | 0 => vo
  | k + 1 => apV (apL vo np tp k) (np + k) (tp k)
def apH (vo : Nat → Int32) (np : Nat) (st ixd : Int32) (tl : Nat) : Nat → Int32 :=
  apV (apV (apV (apV (apV (apV vo np st) (np + 1) (ush ixd 8)) (np + 2) ixd) (np + 3) (ush (nI tl) 8)) (np + 4) (nI tl)) (np + 5) (nI 90)
def apR (vo : Nat → Int32) (np : Nat) (st ixd : Int32) (tp : Nat → Int32) (tl : Nat) : Nat → Int32 := apL (apH vo np st ixd tl) (np + 6) tp tl
def ntB (vo : Nat → Int32) (np : Nat) : Nat → Int32 := if vo (np / 56 * 64 + 3) = -1 then upd vo (np / 56 * 64 + 3) (bn (nI (np % 56))) else vo
def fdT (tp : Nat → Int32) (tl : Nat) (v : Int32) : Nat → (Nat → Int32)
  | 0 => tp
  | k + 1 => upd (fdT tp tl v k) (tl + k) (bn (ush v (24 - 8 * k)))
def gd (np : Nat) (sb : Nat → Nat) (b : Nat) : Bool := decide (b < np / 56) && decide (sb b = 0)
def allG (np : Nat) (sb : Nat → Nat) : Nat → Nat → Bool
  | 0, _ => true
  | n + 1, b => gd np sb b && allG np sb n (b + 1)
def isR (np : Nat) (sb rp rl : Nat → Nat) (k : Nat) : Bool := allG np sb ((rp k + rl k - 1) / 56 + 1 - rp k / 56) (rp k / 56)
def rOf (rd : Nat → Bool) (i : Int32) : Nat → Nat → Nat → Int32
  | 0, _, _ => -1
  | n + 1, k, q => if rd k = true then (if nI q = i then nI k else rOf rd i n (k + 1) (q + 1)) else rOf rd i n (k + 1) q
def cntB (rd : Nat → Bool) : Nat → Nat
  | 0 => 0
  | n + 1 => if rd n = true then cntB rd n + 1 else cntB rd n
def vfR (np : Nat) (sb : Nat → Nat) : Nat → Nat → Int32
  | 0, _ => -1
  | n + 1, b => if gd np sb b = true then vfR np sb n (b + 1) else nI b
def isW (np : Nat) (x : Int32) : Bool := decide (0 ≤ x.toInt) && decide (x.toInt < ((np / 56 : Nat) : Int))
def inB (x : Int32) : Bool := decide (0 ≤ x.toInt) && decide (x.toInt < 64)
def goodX (np : Nat) (sb : Nat → Nat) (x : Int32) : Bool := isW np x && decide (sb x.toInt.toNat = 0)
def nG (np : Nat) (sb : Nat → Nat) (b : Nat) : Bool := !gd np sb b
def recB (vo : Nat → Int32) (rp rl : Nat → Nat) (r : Nat) (x : Int32) : Int32 := if 0 ≤ x.toInt ∧ x.toInt < ((rl r - 6 : Nat) : Int) then vo (ix (rp r + (6 + x.toInt.toNat))) &&& nI 255 else -1
def bof (np : Nat) (vo : Nat → Int32) (x i : Int32) : Int32 := if isW np x = true ∧ inB i = true then vo (x.toInt.toNat * 64 + i.toInt.toNat) &&& nI 255 else -1
def vfX (np : Nat) (sb : Nat → Nat) (x : Int32) : Int32 := vfR np sb (np / 56 - x.toInt.toNat) x.toInt.toNat
def cntX (tl np rc : Nat) (rp rl sb : Nat → Nat) (x : Int32) : Int32 :=
  if x = nI 0 then nI tl else if x = nI 1 then nI rc else if x = nI 2 then nI (np / 56) else if x = nI 3 then nI (np % 56) else if x = nI 4 then nI (cntB (isR np sb rp rl) rc) else if x = nI 5 then nI (cntB (nG np sb) (np / 56)) else if x = nI 6 then nI (4480 - np) else -1
def rdW (vo : Nat → Int32) (rp rl : Nat → Nat) (r : Nat) (x : Int32) : Int32 :=
  if x.toInt < 0 then -1 else if x = nI 0 then vo (ix (rp r + 0)) &&& nI 255 else if x = nI 1 then ((vo (ix (rp r + 1)) &&& nI 255) <<< (nI 8 &&& 31)) ||| (vo (ix (rp r + 2)) &&& nI 255) else if x = nI 2 then nI (rl r - 6) else if x = nI 3 then nI (rp r / 56) else recB vo rp rl r (x - nI 4)
theorem bT {b : Bool} (h : ¬ b = false) : b = true := by cases b <;> simp_all
theorem bI_t {b : Bool} (h : b = true) : nI 1 = bI b := by rw [h]; rfl
theorem bI_f {b : Bool} (h : b = false) : nI 0 = bI b := by rw [h]; rfl
theorem nI_tn {j : Nat} (h : j < 2 ^ 31) : (nI j).toInt.toNat = j := by rw [nI_toInt h]; rfl
theorem ix_lt {q : Nat} (h : q < 4480) : ix q < 5120 := by unfold ix; omega
theorem isW_of {np : Nat} {x : Int32} (h : isW np x = true) : ∃ j : Nat, j < np / 56 ∧ x = nI j := by
  simp only [isW, Bool.and_eq_true, decide_eq_true_eq] at h
  obtain ⟨j, hj, rfl⟩ := kx_of h.1
  rw [nI_toInt hj] at h
  exact ⟨j, by omega, rfl⟩
theorem isW_n {np j : Nat} (h : j < 2 ^ 31) : isW np (nI j) = decide (j < np / 56) := by
  rw [isW, nI_toInt h, decide_eq_true (show (0 : Int) ≤ j by omega), Bool.true_and]
  exact decide_eq_decide.mpr (by omega)
theorem inB_of {x : Int32} (h : inB x = true) : ∃ j : Nat, j < 64 ∧ x = nI j := by
  simp only [inB, Bool.and_eq_true, decide_eq_true_eq] at h
  obtain ⟨j, hj, rfl⟩ := kx_of h.1
  rw [nI_toInt hj] at h
  exact ⟨j, by omega, rfl⟩
theorem inB_n {j : Nat} (h : j < 2 ^ 31) : inB (nI j) = decide (j < 64) := by
  rw [inB, nI_toInt h, decide_eq_true (show (0 : Int) ≤ j by omega), Bool.true_and]
  exact decide_eq_decide.mpr (by omega)
theorem goodX_n {np : Nat} {sb : Nat → Nat} {j : Nat} (h : j < 2 ^ 31) : goodX np sb (nI j) = gd np sb j := by
  rw [goodX, isW_n h, nI_tn h, gd]
theorem goodX_f {np : Nat} {sb : Nat → Nat} {x : Int32} (h : isW np x = false) : goodX np sb x = false := by rw [goodX, h]; rfl
theorem allG_step {np : Nat} {sb : Nat → Nat} {T k : Nat} (h : k < T) : allG np sb (T - k) k = (gd np sb k && allG np sb (T - (k + 1)) (k + 1)) := by
  rw [show T - k = (T - (k + 1)) + 1 by omega, allG]
theorem rOf_step {rd : Nat → Bool} {i : Int32} {T k q : Nat} (h : k < T) : rOf rd i (T - k) k q = if rd k = true then (if nI q = i then nI k else rOf rd i (T - (k + 1)) (k + 1) (q + 1)) else rOf rd i (T - (k + 1)) (k + 1) q := by
  rw [show T - k = (T - (k + 1)) + 1 by omega, rOf]
theorem vfR_step {np : Nat} {sb : Nat → Nat} {T k : Nat} (h : k < T) : vfR np sb (T - k) k = if gd np sb k = true then vfR np sb (T - (k + 1)) (k + 1) else nI k := by
  rw [show T - k = (T - (k + 1)) + 1 by omega, vfR]
theorem cntB_le (rd : Nat → Bool) : ∀ n, cntB rd n ≤ n := by
  intro n
  induction n with
  | zero => exact Nat.le_refl 0
  | succ n ih => rw [cntB]; split <;> omega
theorem recB_n {vo : Nat → Int32} {rp rl : Nat → Nat} {r j : Nat} (h : j < rl r - 6) (h2 : j < 2 ^ 31) : recB vo rp rl r (nI j) = (vo (ix (rp r + (6 + j))) &&& nI 255) := by
  rw [recB, nI_toInt h2, if_pos ⟨by omega, by omega⟩]; rfl
theorem bof_t {np : Nat} {vo : Nat → Int32} {x i : Int32} (h1 : isW np x = true) (h2 : inB i = true) : bof np vo x i = (vo (x.toInt.toNat * 64 + i.toInt.toNat) &&& nI 255) := by rw [bof, if_pos ⟨h1, h2⟩]
theorem bof_f {np : Nat} {vo : Nat → Int32} {x i : Int32} (h : isW np x = false ∨ inB i = false) : bof np vo x i = -1 := by
  rw [bof, if_neg]
  rintro ⟨h1, h2⟩
  rcases h with h | h
  · rw [h] at h1; cases h1
  · rw [h] at h2; cases h2
theorem kx_max (x : Int32) : x.toInt.toNat < 2147483648 := by
  by_cases h : 0 ≤ x.toInt
  · obtain ⟨j, hj, rfl⟩ := kx_of h
    rw [nI_tn hj]; omega
  · omega
theorem vmax (x : Int32) : (if x < nI 0 then nI 0 else x) = nI x.toInt.toNat := by
  split
  · next h => rw [nI_0, kx_lt0] at h; rw [show x.toInt.toNat = 0 by omega]
  · next h =>
    rw [nI_0, kx_lt0] at h
    obtain ⟨j, hj, rfl⟩ := kx_of (x := x) (by omega)
    rw [nI_tn hj]
theorem kx_sw (x : Int32) (n : Nat) : (x.toInt < 0 ∨ (n : Int) ≤ x.toInt) ∨ ∃ j : Nat, j < n ∧ x = nI j := by
  by_cases h : x.toInt < 0 ∨ (n : Int) ≤ x.toInt
  · exact Or.inl h
  · obtain ⟨j, hj, rfl⟩ := kx_of (x := x) (by omega)
    rw [nI_toInt hj] at h
    exact Or.inr ⟨j, by omega, rfl⟩
theorem nI_ne {x : Int32} {n j : Nat} (hn : n < 2 ^ 31) (h : x.toInt < 0 ∨ (n : Int) ≤ x.toInt) (hj : j < n) : ¬ x = nI j := by
  rintro rfl
  rw [nI_toInt (by omega)] at h
  omega
theorem cntX_out {tl np rc : Nat} {rp rl sb : Nat → Nat} {x : Int32} (h : x.toInt < 0 ∨ ((7 : Nat) : Int) ≤ x.toInt) : cntX tl np rc rp rl sb x = -1 := by
  rw [cntX, if_neg (nI_ne (by decide) h (by decide)), if_neg (nI_ne (by decide) h (by decide)), if_neg (nI_ne (by decide) h (by decide)), if_neg (nI_ne (by decide) h (by decide)), if_neg (nI_ne (by decide) h (by decide)), if_neg (nI_ne (by decide) h (by decide)), if_neg (nI_ne (by decide) h (by decide))]
theorem nI_nm1 {j : Nat} (h : j < 2 ^ 31) : ¬ nI j = -1 := by
  intro h9
  have h8 : (nI j).toInt = (-1 : Int32).toInt := by rw [h9]
  rw [nI_toInt h] at h8
  have h7 : (-1 : Int32).toInt = -1 := by decide
  omega
theorem rdW_lo {vo : Nat → Int32} {rp rl : Nat → Nat} {r : Nat} {x : Int32} (h : x.toInt < 0) : rdW vo rp rl r x = -1 := by rw [rdW, if_pos h]
theorem rdW_hi {vo : Nat → Int32} {rp rl : Nat → Nat} {r : Nat} {x : Int32} (h : 4 ≤ x.toInt) : rdW vo rp rl r x = recB vo rp rl r (x - nI 4) := by
  have h4 : x.toInt < 0 ∨ ((4 : Nat) : Int) ≤ x.toInt := Or.inr h
  rw [rdW, if_neg (by omega), if_neg (nI_ne (by decide) h4 (by decide)), if_neg (nI_ne (by decide) h4 (by decide)), if_neg (nI_ne (by decide) h4 (by decide)), if_neg (nI_ne (by decide) h4 (by decide))]
def iniV : Nat → (Nat → Int32)
  | 0 => fun _ => 0
  | k + 1 => upd (iniV k) (k * 64 + 3) (-1)
