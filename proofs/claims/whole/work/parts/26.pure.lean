/-! Pure rows: parity. -/
theorem nx_and (a b : Nat) : nI a &&& nI b = nI (a &&& b) := by
  apply Int32.toBitVec_inj.1
  show BitVec.ofNat 32 a &&& BitVec.ofNat 32 b = BitVec.ofNat 32 (a &&& b)
  apply BitVec.eq_of_getLsbD_eq
  intro i hi
  simp [hi]
/-- digits of base 16, each by itself -/
def val (F : Nat → Nat) : Nat → Nat → Nat
  | 0, _ => 0
  | n + 1, x => 16 * val F n (x / 16) + F (x % 16)
/-- n digits m -/
def msk (m : Nat) : Nat → Nat
  | 0 => 0
  | n + 1 => 16 * msk m n + m
theorem land_k (k : Nat) {a c r s : Nat} (hr : r < 2 ^ k) (hs : s < 2 ^ k) : (2 ^ k * a + r) &&& (2 ^ k * c + s) = 2 ^ k * (a &&& c) + (r &&& s) := by
  have hrs : r &&& s < 2 ^ k := Nat.lt_of_le_of_lt Nat.and_le_left hr
  apply Nat.eq_of_testBit_eq
  intro i
  rw [Nat.testBit_and, Nat.testBit_two_pow_mul_add a hr, Nat.testBit_two_pow_mul_add c hs, Nat.testBit_two_pow_mul_add (a &&& c) hrs]
  split
  · rw [Nat.testBit_and]
  · rw [Nat.testBit_and]
theorem land16 {a c r s : Nat} (hr : r < 16) (hs : s < 16) : (16 * a + r) &&& (16 * c + s) = 16 * (a &&& c) + (r &&& s) := land_k 4 hr hs
theorem land256 {a c r s : Nat} (hr : r < 256) (hs : s < 256) : (256 * a + r) &&& (256 * c + s) = 256 * (a &&& c) + (r &&& s) := land_k 8 hr hs
theorem h5 : ∀ y, y < 32 → (y / 2 &&& 5) = (y % 16 / 2 &&& 5) := by decide +kernel
theorem h3 : ∀ y, y < 64 → (y / 4 &&& 3) = (y % 16 / 4 &&& 3) := by decide +kernel
theorem val_5 : ∀ n x, (x / 2 &&& msk 5 n) = val (fun h => h / 2 &&& 5) n x := by
  intro n
  induction n with
  | zero => intro x; exact Nat.and_zero _
  | succ n ih =>
    intro x
    have e : x / 2 = 16 * (x / 16 / 2) + x % 32 / 2 := by omega
    rw [e, msk, land16 (by omega) (by decide), ih, val, h5 _ (Nat.mod_lt _ (by decide)), show x % 32 % 16 = x % 16 by omega]
theorem val_id : ∀ n x, x < 16 ^ n → x = val (fun h => h) n x := by
  intro n
  induction n with
  | zero => intro x h; rw [val]; have : (16 : Nat) ^ 0 = 1 := rfl; omega
  | succ n ih =>
    intro x h
    rw [val, ← ih (x / 16) (by rw [Nat.pow_succ] at h; omega)]
    omega
theorem val_lt {F : Nat → Nat} (hF : ∀ h, h < 16 → F h < 16) : ∀ n x, val F n x < 16 ^ n := by
  intro n
  induction n with
  | zero => intro x; exact Nat.zero_lt_one
  | succ n ih =>
    intro x
    have h1 := ih (x / 16)
    have h2 := hF (x % 16) (Nat.mod_lt _ (by decide))
    rw [val, Nat.pow_succ]
    omega
theorem val_le {F G : Nat → Nat} (hF : ∀ h, h < 16 → G h ≤ F h) : ∀ n x, val G n x ≤ val F n x := by
  intro n
  induction n with
  | zero => intro x; exact Nat.le_refl _
  | succ n ih =>
    intro x
    have h1 := ih (x / 16)
    have h2 := hF (x % 16) (Nat.mod_lt _ (by decide))
    rw [val, val]
    omega
theorem val_sub {F G : Nat → Nat} (hF : ∀ h, h < 16 → G h ≤ F h) : ∀ n x, val F n x - val G n x = val (fun h => F h - G h) n x := by
  intro n
  induction n with
  | zero => intro x; rfl
  | succ n ih =>
    intro x
    have h1 := ih (x / 16)
    have h2 := hF (x % 16) (Nat.mod_lt _ (by decide))
    have h3 := val_le hF n (x / 16)
    simp only [val]
    omega
theorem val_add {F G : Nat → Nat} : ∀ n x, val F n x + val G n x = val (fun h => F h + G h) n x := by
  intro n
  induction n with
  | zero => intro x; rfl
  | succ n ih =>
    intro x
    have h1 := ih (x / 16)
    simp only [val]
    omega
theorem val_3 {F : Nat → Nat} (hF : ∀ h, h < 16 → F h < 16) : ∀ n x, (val F n x &&& msk 3 n) = val (fun h => F h &&& 3) n x := by
  intro n
  induction n with
  | zero => intro x; exact Nat.and_zero _
  | succ n ih =>
    intro x
    rw [val, msk, land16 (hF _ (Nat.mod_lt _ (by decide))) (by decide), ih, val]
theorem val_43 {F : Nat → Nat} (hF : ∀ h, h < 16 → F h < 16) : ∀ n x, (val F n x / 4 &&& msk 3 n) = val (fun h => F h / 4 &&& 3) n x := by
  intro n
  induction n with
  | zero => intro x; exact Nat.and_zero _
  | succ n ih =>
    intro x
    have h2 := hF (x % 16) (Nat.mod_lt _ (by decide))
    rw [val, val, ← ih]
    generalize val F n (x / 16) = Y
    generalize F (x % 16) = f at *
    have e : (16 * Y + f) / 4 = 16 * (Y / 4) + (16 * (Y % 4) + f) / 4 := by omega
    rw [e, msk, land16 (by omega) (by decide), h3 _ (by omega), show (16 * (Y % 4) + f) % 16 = f by omega]
def pop (h : Nat) : Nat := (h - (h / 2 &&& 5) &&& 3) + ((h - (h / 2 &&& 5)) / 4 &&& 3)
theorem pop_b : ∀ h, h < 16 → pop h = h % 2 + h / 2 % 2 + h / 4 % 2 + h / 8 % 2 := by decide +kernel
theorem sub5 : ∀ h, h < 16 → (h / 2 &&& 5) ≤ h := by decide +kernel
theorem sub5l : ∀ h, h < 16 → h - (h / 2 &&& 5) < 16 := by decide +kernel
theorem u31 : ∀ j, j < 32 → (((nI j).toUInt32 &&& Int32.toUInt32 31).toBitVec % 32).toNat = j := by decide +kernel
theorem ushN {N j : Nat} (hN : N < 2 ^ 32) (hj : j < 32) : ush (nI N) (nI j) = nI (N / 2 ^ j) := by
  rw [ush, pk_ushrN hN _ j (u31 j hj)]
theorem sl1 : ∀ j, j < 32 → ((nI j &&& 31).toBitVec.smod 32).toNat = j := by decide +kernel
theorem bit_sh {N : Nat} (hN : N < 2 ^ 32) {j : Nat} (hj : j < 32) : (nI N >>> (nI j &&& 31)) &&& 1 = nI (N / 2 ^ j % 2) := by
  rw [shr_mod hN j 1 (sl1 j hj) (by omega) (by decide)]
/-- the JDK's bitCount, as far as its last mask -/
def swr (q : Nat) : Nat := q + q / 16 &&& 252645135
def swu (r : Nat) : Nat := r + r / 256
theorem m5_8 : (1431655765 : Int32) = nI (msk 5 8) := by decide +kernel
theorem m3_8 : (858993459 : Int32) = nI (msk 3 8) := by decide +kernel
theorem pop_le : ∀ h, h < 16 → pop h ≤ 4 := by decide +kernel
theorem val_c4 : ∀ n x, val (fun _ => 4) n x = msk 4 n := by
  intro n
  induction n with
  | zero => intro x; rfl
  | succ n ih => intro x; rw [val, msk, ih]
theorem msk48 : msk 4 8 = 1145324612 := by decide +kernel
abbrev F1 : Nat → Nat := fun h => h - (h / 2 &&& 5)
theorem bc_1 {N : Nat} (hN : N < 2 ^ 32) : nI N - (ush (nI N) 1 &&& 1431655765) = nI (val F1 8 N) := by
  have e1 : ush (nI N) 1 = nI (N / 2 ^ 1) := ushN (j := 1) hN (by decide)
  have hid := val_id 8 N (Nat.lt_of_lt_of_le hN (by decide))
  have hv := val_5 8 N
  have hs := val_sub sub5 8 N
  have hl := val_le (F := fun h => h) (G := fun h => h / 2 &&& 5) sub5 8 N
  rw [e1, m5_8, nx_and, Nat.pow_one, hv]
  rw [← hid] at hl hs
  rw [pk_sub hl, hs]
theorem bc_l1 (N : Nat) : val F1 8 N < 2 ^ 32 := Nat.lt_of_lt_of_le (val_lt sub5l 8 N) (by decide)
theorem bc_2 (N : Nat) : (nI (val F1 8 N) &&& 858993459) + (ush (nI (val F1 8 N)) 2 &&& 858993459) = nI (val pop 8 N) := by
  have e1 : ush (nI (val F1 8 N)) 2 = nI (val F1 8 N / 2 ^ 2) := ushN (j := 2) (bc_l1 N) (by decide)
  have v1 := val_3 (F := F1) sub5l 8 N
  have v2 := val_43 (F := F1) sub5l 8 N
  have v3 := val_add (F := fun h => F1 h &&& 3) (G := fun h => F1 h / 4 &&& 3) 8 N
  have p4 : (2 : Nat) ^ 2 = 4 := by decide
  rw [e1, m3_8, nx_and, nx_and, nI_add, p4, v1, v2, v3]
  have e2 : (fun h => (F1 h &&& 3) + (F1 h / 4 &&& 3)) = pop := by funext h; rfl
  rw [e2]
theorem bc_l2 (N : Nat) : val pop 8 N ≤ 1145324612 := by
  have h1 := val_le (F := fun _ => 4) (G := pop) pop_le 8 N
  rw [val_c4, msk48] at h1
  exact h1
theorem bc_3 {q : Nat} (hq : q ≤ 1145324612) : (nI q + ush (nI q) 4) &&& 252645135 = nI (swr q) := by
  have e1 : ush (nI q) 4 = nI (q / 2 ^ 4) := ushN (j := 4) (by omega) (by decide)
  have p4 : (2 : Nat) ^ 4 = 16 := by decide
  have e2 : (252645135 : Int32) = nI 252645135 := by decide +kernel
  rw [e1, e2, nI_add, nx_and, p4, swr]
theorem swr_le (q : Nat) : swr q ≤ 252645135 := Nat.and_le_right
theorem bc_4 {r : Nat} (hr : r ≤ 252645135) : nI r + ush (nI r) 8 = nI (swu r) := by
  have e1 : ush (nI r) 8 = nI (r / 2 ^ 8) := ushN (j := 8) (by omega) (by decide)
  have p4 : (2 : Nat) ^ 8 = 256 := by decide
  rw [e1, nI_add, p4, swu]
theorem bc_5 {u : Nat} (hu : u ≤ 300000000) : (nI u + ush (nI u) 16) &&& 63 = nI ((u + u / 65536) % 64) := by
  have e1 : ush (nI u) 16 = nI (u / 2 ^ 16) := ushN (j := 16) (by omega) (by decide)
  have p4 : (2 : Nat) ^ 16 = 65536 := by decide
  rw [e1, nI_add, p4, pk_andN (by omega) 6 (by decide)]
theorem bc_val {N : Nat} (hN : N < 2 ^ 32) : J6_bitCount_0f7a4_r (nI N) = nI ((swu (swr (val pop 8 N)) + swu (swr (val pop 8 N)) / 65536) % 64) := by
  have hl := swr_le (val pop 8 N)
  have hu : swu (swr (val pop 8 N)) ≤ 300000000 := by rw [swu]; omega
  rw [J6_bitCount_0f7a4_r, bc_1 hN, bc_2 N, bc_3 (bc_l2 N), bc_4 hl, bc_5 hu]
theorem by_15 {a c : Nat} (ha : a < 16) (hc : c < 16) : (16 * c + a) &&& 15 = a := by
  rw [show (15 : Nat) = 16 * 0 + 15 from rfl, land16 ha (by decide), Nat.and_zero, show (15 : Nat) = 2 ^ 4 - 1 from rfl, Nat.and_two_pow_sub_one_eq_mod]
  omega
/-- four bytes, their lower halves -/
theorem pick {a0 a1 a2 a3 a4 a5 a6 a7 : Nat} (h0 : a0 < 16) (h1 : a1 < 16) (h2 : a2 < 16) (h3 : a3 < 16) (h4 : a4 < 16) (h5 : a5 < 16) (h6 : a6 < 16) (h7 : a7 < 16) :
    (256 * (256 * (256 * (256 * 0 + (16 * a7 + a6)) + (16 * a5 + a4)) + (16 * a3 + a2)) + (16 * a1 + a0)) &&& 252645135 = 256 * (256 * (256 * a6 + a4) + a2) + a0 := by
  rw [show (252645135 : Nat) = 256 * (256 * (256 * (256 * 0 + 15) + 15) + 15) + 15 from rfl, land256 (by omega) (by decide), land256 (by omega) (by decide), land256 (by omega) (by decide), land256 (by omega) (by decide), by_15 h0 h1, by_15 h2 h3, by_15 h4 h5, by_15 h6 h7, Nat.and_zero]
  omega
theorem xor2 : ∀ a, a < 2 → ∀ b, b < 2 → nI a ^^^ nI b = nI ((a + b) % 2) := by decide +kernel
theorem xst {a b : Nat} (hb : b < 2) : nI (a % 2) ^^^ nI b = nI ((a + b) % 2) := by
  rw [xor2 _ (Nat.mod_lt _ (by decide)) _ hb]
  exact congrArg nI (by omega)
set_option maxHeartbeats 2000000 in
set_option maxRecDepth 20000 in
theorem par5 {N : Nat} (hN : N < 2 ^ 32) : X5_parity_r (nI N) = nI ((N / 2 ^ 0 % 2 + N / 2 ^ 1 % 2 + N / 2 ^ 2 % 2 + N / 2 ^ 3 % 2 + N / 2 ^ 4 % 2 + N / 2 ^ 5 % 2 + N / 2 ^ 6 % 2 + N / 2 ^ 7 % 2 + N / 2 ^ 8 % 2 + N / 2 ^ 9 % 2 + N / 2 ^ 10 % 2 + N / 2 ^ 11 % 2 + N / 2 ^ 12 % 2 + N / 2 ^ 13 % 2 + N / 2 ^ 14 % 2 + N / 2 ^ 15 % 2 + N / 2 ^ 16 % 2 + N / 2 ^ 17 % 2 + N / 2 ^ 18 % 2 + N / 2 ^ 19 % 2 + N / 2 ^ 20 % 2 + N / 2 ^ 21 % 2 + N / 2 ^ 22 % 2 + N / 2 ^ 23 % 2 + N / 2 ^ 24 % 2 + N / 2 ^ 25 % 2 + N / 2 ^ 26 % 2 + N / 2 ^ 27 % 2 + N / 2 ^ 28 % 2 + N / 2 ^ 29 % 2 + N / 2 ^ 30 % 2 + N / 2 ^ 31 % 2) % 2) := by
  have m : ∀ x : Nat, x % 2 < 2 := fun x => Nat.mod_lt _ (by decide)
  rw [X5_parity_r]
  simp only [show (nI N >>> ((0 : Int32) &&& 31)) &&& 1 = nI (N / 2 ^ 0 % 2) from bit_sh (j := 0) hN (by decide), show (nI N >>> ((1 : Int32) &&& 31)) &&& 1 = nI (N / 2 ^ 1 % 2) from bit_sh (j := 1) hN (by decide), show (nI N >>> ((2 : Int32) &&& 31)) &&& 1 = nI (N / 2 ^ 2 % 2) from bit_sh (j := 2) hN (by decide), show (nI N >>> ((3 : Int32) &&& 31)) &&& 1 = nI (N / 2 ^ 3 % 2) from bit_sh (j := 3) hN (by decide), show (nI N >>> ((4 : Int32) &&& 31)) &&& 1 = nI (N / 2 ^ 4 % 2) from bit_sh (j := 4) hN (by decide), show (nI N >>> ((5 : Int32) &&& 31)) &&& 1 = nI (N / 2 ^ 5 % 2) from bit_sh (j := 5) hN (by decide), show (nI N >>> ((6 : Int32) &&& 31)) &&& 1 = nI (N / 2 ^ 6 % 2) from bit_sh (j := 6) hN (by decide), show (nI N >>> ((7 : Int32) &&& 31)) &&& 1 = nI (N / 2 ^ 7 % 2) from bit_sh (j := 7) hN (by decide), show (nI N >>> ((8 : Int32) &&& 31)) &&& 1 = nI (N / 2 ^ 8 % 2) from bit_sh (j := 8) hN (by decide), show (nI N >>> ((9 : Int32) &&& 31)) &&& 1 = nI (N / 2 ^ 9 % 2) from bit_sh (j := 9) hN (by decide), show (nI N >>> ((10 : Int32) &&& 31)) &&& 1 = nI (N / 2 ^ 10 % 2) from bit_sh (j := 10) hN (by decide), show (nI N >>> ((11 : Int32) &&& 31)) &&& 1 = nI (N / 2 ^ 11 % 2) from bit_sh (j := 11) hN (by decide), show (nI N >>> ((12 : Int32) &&& 31)) &&& 1 = nI (N / 2 ^ 12 % 2) from bit_sh (j := 12) hN (by decide), show (nI N >>> ((13 : Int32) &&& 31)) &&& 1 = nI (N / 2 ^ 13 % 2) from bit_sh (j := 13) hN (by decide), show (nI N >>> ((14 : Int32) &&& 31)) &&& 1 = nI (N / 2 ^ 14 % 2) from bit_sh (j := 14) hN (by decide), show (nI N >>> ((15 : Int32) &&& 31)) &&& 1 = nI (N / 2 ^ 15 % 2) from bit_sh (j := 15) hN (by decide), show (nI N >>> ((16 : Int32) &&& 31)) &&& 1 = nI (N / 2 ^ 16 % 2) from bit_sh (j := 16) hN (by decide), show (nI N >>> ((17 : Int32) &&& 31)) &&& 1 = nI (N / 2 ^ 17 % 2) from bit_sh (j := 17) hN (by decide), show (nI N >>> ((18 : Int32) &&& 31)) &&& 1 = nI (N / 2 ^ 18 % 2) from bit_sh (j := 18) hN (by decide), show (nI N >>> ((19 : Int32) &&& 31)) &&& 1 = nI (N / 2 ^ 19 % 2) from bit_sh (j := 19) hN (by decide), show (nI N >>> ((20 : Int32) &&& 31)) &&& 1 = nI (N / 2 ^ 20 % 2) from bit_sh (j := 20) hN (by decide), show (nI N >>> ((21 : Int32) &&& 31)) &&& 1 = nI (N / 2 ^ 21 % 2) from bit_sh (j := 21) hN (by decide), show (nI N >>> ((22 : Int32) &&& 31)) &&& 1 = nI (N / 2 ^ 22 % 2) from bit_sh (j := 22) hN (by decide), show (nI N >>> ((23 : Int32) &&& 31)) &&& 1 = nI (N / 2 ^ 23 % 2) from bit_sh (j := 23) hN (by decide), show (nI N >>> ((24 : Int32) &&& 31)) &&& 1 = nI (N / 2 ^ 24 % 2) from bit_sh (j := 24) hN (by decide), show (nI N >>> ((25 : Int32) &&& 31)) &&& 1 = nI (N / 2 ^ 25 % 2) from bit_sh (j := 25) hN (by decide), show (nI N >>> ((26 : Int32) &&& 31)) &&& 1 = nI (N / 2 ^ 26 % 2) from bit_sh (j := 26) hN (by decide), show (nI N >>> ((27 : Int32) &&& 31)) &&& 1 = nI (N / 2 ^ 27 % 2) from bit_sh (j := 27) hN (by decide), show (nI N >>> ((28 : Int32) &&& 31)) &&& 1 = nI (N / 2 ^ 28 % 2) from bit_sh (j := 28) hN (by decide), show (nI N >>> ((29 : Int32) &&& 31)) &&& 1 = nI (N / 2 ^ 29 % 2) from bit_sh (j := 29) hN (by decide), show (nI N >>> ((30 : Int32) &&& 31)) &&& 1 = nI (N / 2 ^ 30 % 2) from bit_sh (j := 30) hN (by decide), show (nI N >>> ((31 : Int32) &&& 31)) &&& 1 = nI (N / 2 ^ 31 % 2) from bit_sh (j := 31) hN (by decide)]
  rw [show (0 : Int32) ^^^ nI (N / 2 ^ 0 % 2) = nI (N / 2 ^ 0 % 2 % 2) from by rw [show (0 : Int32) = nI (0 % 2) from rfl, xst (m _), Nat.zero_add]]
  simp only [xst (m _)]
theorem val8 (F : Nat → Nat) (N : Nat) : val F 8 N = 16 * (16 * (16 * (16 * (16 * (16 * (16 * (16 * 0 + F (N / 16 / 16 / 16 / 16 / 16 / 16 / 16 % 16)) + F (N / 16 / 16 / 16 / 16 / 16 / 16 % 16)) + F (N / 16 / 16 / 16 / 16 / 16 % 16)) + F (N / 16 / 16 / 16 / 16 % 16)) + F (N / 16 / 16 / 16 % 16)) + F (N / 16 / 16 % 16)) + F (N / 16 % 16)) + F (N % 16) := rfl
set_option maxHeartbeats 2000000 in
theorem par4 {N : Nat} (hN : N < 2 ^ 32) : X4_parity_r (nI N) = nI ((pop (N / 16 / 16 / 16 / 16 / 16 / 16 / 16 % 16) + pop (N / 16 / 16 / 16 / 16 / 16 / 16 % 16) + pop (N / 16 / 16 / 16 / 16 / 16 % 16) + pop (N / 16 / 16 / 16 / 16 % 16) + pop (N / 16 / 16 / 16 % 16) + pop (N / 16 / 16 % 16) + pop (N / 16 % 16) + pop (N % 16)) % 2) := by
  have m : ∀ x : Nat, pop (x % 16) ≤ 4 := fun x => pop_le _ (Nat.mod_lt _ (by decide))
  rw [X4_parity_r, bc_val hN, val8]
  have b7 := m (N / 16 / 16 / 16 / 16 / 16 / 16 / 16); have b6 := m (N / 16 / 16 / 16 / 16 / 16 / 16); have b5 := m (N / 16 / 16 / 16 / 16 / 16); have b4 := m (N / 16 / 16 / 16 / 16)
  have b3 := m (N / 16 / 16 / 16); have b2 := m (N / 16 / 16); have b1 := m (N / 16); have b0 := m N
  generalize pop (N / 16 / 16 / 16 / 16 / 16 / 16 / 16 % 16) = p7 at *
  generalize pop (N / 16 / 16 / 16 / 16 / 16 / 16 % 16) = p6 at *
  generalize pop (N / 16 / 16 / 16 / 16 / 16 % 16) = p5 at *
  generalize pop (N / 16 / 16 / 16 / 16 % 16) = p4 at *
  generalize pop (N / 16 / 16 / 16 % 16) = p3 at *
  generalize pop (N / 16 / 16 % 16) = p2 at *
  generalize pop (N / 16 % 16) = p1 at *
  generalize pop (N % 16) = p0 at *
  have e : 16 * (16 * (16 * (16 * (16 * (16 * (16 * (16 * 0 + p7) + p6) + p5) + p4) + p3) + p2) + p1) + p0 + (16 * (16 * (16 * (16 * (16 * (16 * (16 * (16 * 0 + p7) + p6) + p5) + p4) + p3) + p2) + p1) + p0) / 16 = 256 * (256 * (256 * (256 * 0 + (16 * p7 + (p6 + p7))) + (16 * (p5 + p6) + (p4 + p5))) + (16 * (p3 + p4) + (p2 + p3))) + (16 * (p1 + p2) + (p0 + p1)) := by omega
  have e3 : swr (16 * (16 * (16 * (16 * (16 * (16 * (16 * (16 * 0 + p7) + p6) + p5) + p4) + p3) + p2) + p1) + p0) = 256 * (256 * (256 * (p6 + p7) + (p4 + p5)) + (p2 + p3)) + (p0 + p1) := by
    rw [swr, e]
    exact pick (by omega) (by omega) (by omega) (by omega) (by omega) (by omega) (by omega) (by omega)
  rw [e3]
  have e2 : (256 * (256 * (256 * (p6 + p7) + (p4 + p5)) + (p2 + p3)) + (p0 + p1) + (256 * (256 * (256 * (p6 + p7) + (p4 + p5)) + (p2 + p3)) + (p0 + p1)) / 256) = 16777216 * (p6 + p7) + 65536 * (p4 + p5 + (p6 + p7)) + 256 * (p2 + p3 + (p4 + p5)) + (p0 + p1 + (p2 + p3)) := by omega
  rw [swu, e2]
  have e4 : (16777216 * (p6 + p7) + 65536 * (p4 + p5 + (p6 + p7)) + 256 * (p2 + p3 + (p4 + p5)) + (p0 + p1 + (p2 + p3))) / 65536 = 256 * (p6 + p7) + (p4 + p5 + (p6 + p7)) := by omega
  rw [e4, pk_andN (by omega) 1 (by decide)]
  exact congrArg nI (by omega)
theorem par_eq (wd : Int32) : X4_parity_r wd = X5_parity_r wd := by
  obtain ⟨N, hN, rfl⟩ := of32 wd
  rw [par4 hN, par5 hN]
  refine congrArg nI ?_
  have P : ∀ x : Nat, pop (x % 16) = x % 2 + x / 2 % 2 + x / 4 % 2 + x / 8 % 2 := by
    intro x
    rw [pop_b _ (Nat.mod_lt _ (by decide))]
    omega
  rw [P, P, P, P, P, P, P, P]
  simp only [Nat.div_div_eq_div_mul]
  simp only [show (2 : Nat) ^ 0 = 1 from rfl, show (2 : Nat) ^ 1 = 2 from rfl, show (2 : Nat) ^ 2 = 4 from rfl, show (2 : Nat) ^ 3 = 8 from rfl, show (2 : Nat) ^ 4 = 16 from rfl, show (2 : Nat) ^ 5 = 32 from rfl, show (2 : Nat) ^ 6 = 64 from rfl, show (2 : Nat) ^ 7 = 128 from rfl, show (2 : Nat) ^ 8 = 256 from rfl, show (2 : Nat) ^ 9 = 512 from rfl, show (2 : Nat) ^ 10 = 1024 from rfl, show (2 : Nat) ^ 11 = 2048 from rfl, show (2 : Nat) ^ 12 = 4096 from rfl, show (2 : Nat) ^ 13 = 8192 from rfl, show (2 : Nat) ^ 14 = 16384 from rfl, show (2 : Nat) ^ 15 = 32768 from rfl, show (2 : Nat) ^ 16 = 65536 from rfl, show (2 : Nat) ^ 17 = 131072 from rfl, show (2 : Nat) ^ 18 = 262144 from rfl, show (2 : Nat) ^ 19 = 524288 from rfl, show (2 : Nat) ^ 20 = 1048576 from rfl, show (2 : Nat) ^ 21 = 2097152 from rfl, show (2 : Nat) ^ 22 = 4194304 from rfl, show (2 : Nat) ^ 23 = 8388608 from rfl, show (2 : Nat) ^ 24 = 16777216 from rfl, show (2 : Nat) ^ 25 = 33554432 from rfl, show (2 : Nat) ^ 26 = 67108864 from rfl, show (2 : Nat) ^ 27 = 134217728 from rfl, show (2 : Nat) ^ 28 = 268435456 from rfl, show (2 : Nat) ^ 29 = 536870912 from rfl, show (2 : Nat) ^ 30 = 1073741824 from rfl, show (2 : Nat) ^ 31 = 2147483648 from rfl, Nat.reduceMul, Nat.div_one]
  generalize N % 2 = b0
  generalize N / 2 % 2 = b1
  generalize N / 4 % 2 = b2
  generalize N / 8 % 2 = b3
  generalize N / 16 % 2 = b4
  generalize N / 32 % 2 = b5
  generalize N / 64 % 2 = b6
  generalize N / 128 % 2 = b7
  generalize N / 256 % 2 = b8
  generalize N / 512 % 2 = b9
  generalize N / 1024 % 2 = b10
  generalize N / 2048 % 2 = b11
  generalize N / 4096 % 2 = b12
  generalize N / 8192 % 2 = b13
  generalize N / 16384 % 2 = b14
  generalize N / 32768 % 2 = b15
  generalize N / 65536 % 2 = b16
  generalize N / 131072 % 2 = b17
  generalize N / 262144 % 2 = b18
  generalize N / 524288 % 2 = b19
  generalize N / 1048576 % 2 = b20
  generalize N / 2097152 % 2 = b21
  generalize N / 4194304 % 2 = b22
  generalize N / 8388608 % 2 = b23
  generalize N / 16777216 % 2 = b24
  generalize N / 33554432 % 2 = b25
  generalize N / 67108864 % 2 = b26
  generalize N / 134217728 % 2 = b27
  generalize N / 268435456 % 2 = b28
  generalize N / 536870912 % 2 = b29
  generalize N / 1073741824 % 2 = b30
  generalize N / 2147483648 % 2 = b31
  exact congrArg (fun z => z % 2) (by omega)
