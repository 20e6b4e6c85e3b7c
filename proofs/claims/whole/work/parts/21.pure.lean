/-! Pure rows: nibbles of a number, checking, frames. -/
def tbN (c : Nat) : Nat := ([0, 13, 7, 10, 14, 3, 9, 4, 1, 12, 6, 11, 15, 2, 8, 5] : List Nat).getD c 0
def dg (D i : Nat) : Nat := D / 16 ^ i % 16
def ckF (D : Nat) : Nat → Nat → Nat
  | 0, c => c
  | m + 1, c => ckF D m (tbN c ^^^ dg D m)
def pk (w : Nat → Nat) : Nat → Nat
  | 0 => 0
  | a + 1 => pk w a * 16 + w a
theorem tb_nI : ∀ c, c < 16 → tb_f ((nI c &&& 15).toNatClampNeg) = nI (tbN c) := by decide +kernel
theorem tu_nI : ∀ c, c < 16 → X5_turned_r (nI c) = nI (tbN c) := by decide +kernel
theorem tbN_lt : ∀ c, c < 16 → tbN c < 16 := by decide +kernel
theorem xo_lt : ∀ a, a < 16 → ∀ b, b < 16 → a ^^^ b < 16 := by decide +kernel
theorem xo_nI : ∀ a, a < 16 → ∀ b, b < 16 → nI a ^^^ nI b = nI (a ^^^ b) := by decide +kernel
theorem dg_lt (D i : Nat) : dg D i < 16 := Nat.mod_lt _ (by decide)
theorem st_lt {c n : Nat} (hc : c < 16) (hn : n < 16) : tbN c ^^^ n < 16 := xo_lt _ (tbN_lt c hc) _ hn
theorem stC {c n : Nat} (hc : c < 16) (hn : n < 16) : tb_f ((nI c &&& 15).toNatClampNeg) ^^^ nI n = nI (tbN c ^^^ n) := by rw [tb_nI c hc, xo_nI _ (tbN_lt c hc) _ hn]
theorem stM {c n : Nat} (hc : c < 16) (hn : n < 16) : X5_turned_r (nI c) ^^^ nI n = nI (tbN c ^^^ n) := by rw [tu_nI c hc, xo_nI _ (tbN_lt c hc) _ hn]
theorem sh4 : ∀ m, m < 8 → (((nI (4 * m)).toUInt32 &&& Int32.toUInt32 31).toBitVec % 32).toNat = 4 * m := by decide +kernel
theorem p16 (m : Nat) : 2 ^ (4 * m) = 16 ^ m := by rw [Nat.pow_mul]
theorem ush4 {D m : Nat} (hD : D < 2 ^ 32) (hm : m < 8) : ush (nI D) (nI (4 * m)) = nI (D / 16 ^ m) := by
  rw [ush, pk_ushrN hD _ (4 * m) (sh4 m hm), p16]
theorem nibAt {D m : Nat} (hD : D < 2 ^ 32) (hm : m < 8) : X4_nibbleAt_r (nI D) (nI m) = nI (dg D m) := by
  rw [X4_nibbleAt_r, show (4 : Int32) * nI m = nI (4 * m) from pk_mul 4 m, ush4 hD hm, pk_andN (Nat.lt_of_le_of_lt (Nat.div_le_self _ _) hD) 4 (by decide)]
  rfl
theorem ck_nI {D : Nat} (hD : D < 2 ^ 32) : ∀ m c, m ≤ 8 → c < 16 → ck_lp (nI D) m (nI c) = nI (ckF D m c) ∧ ckF D m c < 16 := by
  intro m
  induction m with
  | zero => exact fun c _ h => ⟨rfl, h⟩
  | succ m ih =>
    intro c hm hc
    rw [ck_lp, nI_pred, nibAt hD (by omega), stC hc (dg_lt D m)]
    exact ih _ (by omega) (st_lt hc (dg_lt D m))
theorem chk_nI {D m : Nat} (hD : D < 2 ^ 32) (hm : m ≤ 8) : X4_checking_r (nI D) m = nI (tbN (ckF D m 5)) := by
  obtain ⟨h1, h2⟩ := ck_nI hD m 5 hm (by decide)
  rw [X4_checking_r, show ck_lp (nI D) m 5 = nI (ckF D m 5) from h1, tb_nI _ h2]
theorem pkw_lt {w : Nat → Nat} : ∀ a, (∀ i, i < a → w i < 16) → pk w a < 16 ^ a := by
  intro a
  induction a with
  | zero => intro _; exact Nat.zero_lt_one
  | succ a ih =>
    intro h
    have h1 := ih (fun i hi => h i (by omega))
    have h2 := h a (by omega)
    rw [pk, Nat.pow_succ]
    omega
theorem nx_or (a b : Nat) : nI a ||| nI b = nI (a ||| b) := by
  apply Int32.toBitVec_inj.1
  show BitVec.ofNat 32 a ||| BitVec.ofNat 32 b = BitVec.ofNat 32 (a ||| b)
  apply BitVec.eq_of_getLsbD_eq
  intro i hi
  simp [hi]
theorem or_add {n v : Nat} (k : Nat) (hv : v < 2 ^ k) : n * 2 ^ k ||| v = n * 2 ^ k + v := by
  rw [← Nat.shiftLeft_eq]
  exact (Nat.shiftLeft_add_eq_or_of_lt hv n).symm
theorem nib_add {N v : Nat} (hN : N < 16 ^ 7) (hv : v < 16) : (nI N <<< ((4 : Int32) &&& 31)) ||| nI v = nI (N * 16 + v) := by
  have h7 : (16 : Nat) ^ 7 = 268435456 := by decide
  rw [pk_shlN _ 4 (by decide) (by omega), nx_or, or_add 4 hv]
theorem bit_add {N v : Nat} (hN : N < 32768) (hv : v < 2) : (nI N <<< ((1 : Int32) &&& 31)) ||| nI v = nI (N * 2 + v) := by
  rw [pk_shlN _ 1 (by decide) (by omega), nx_or, or_add 1 hv]
/-- the six data nibbles' check -/
def ckW (w : Nat → Nat) : Nat := tbN (tbN (tbN (tbN (tbN (tbN 5 ^^^ w 1) ^^^ w 2) ^^^ w 3) ^^^ w 4) ^^^ w 5) ^^^ w 6
theorem ckW_lt {w : Nat → Nat} (h : ∀ i, i < 8 → w i < 16) : ckW w < 16 := by
  unfold ckW
  exact st_lt (st_lt (st_lt (st_lt (st_lt (st_lt (by decide) (h 1 (by decide))) (h 2 (by decide))) (h 3 (by decide))) (h 4 (by decide))) (h 5 (by decide))) (h 6 (by decide))
theorem pk8 (w : Nat → Nat) : pk w 8 = (((((((w 0 * 16 + w 1) * 16 + w 2) * 16 + w 3) * 16 + w 4) * 16 + w 5) * 16 + w 6) * 16 + w 7) := by
  simp only [pk]; omega
section FRM
variable {w : Nat → Nat}
theorem fr_lt (h : ∀ i, i < 8 → w i < 16) : pk w 8 < 2 ^ 32 := Nat.lt_of_lt_of_le (pkw_lt 8 h) (by decide)
theorem fr_dg (h : ∀ i, i < 8 → w i < 16) : dg (pk w 8) 0 = w 7 ∧ dg (pk w 8) 1 = w 6 ∧ dg (pk w 8) 2 = w 5 ∧ dg (pk w 8) 3 = w 4 ∧ dg (pk w 8) 4 = w 3 ∧ dg (pk w 8) 5 = w 2 ∧ dg (pk w 8) 6 = w 1 ∧ dg (pk w 8) 7 = w 0 := by
  have h0 := h 0 (by decide); have h1 := h 1 (by decide); have h2 := h 2 (by decide); have h3 := h 3 (by decide)
  have h4 := h 4 (by decide); have h5 := h 5 (by decide); have h6 := h 6 (by decide); have h7 := h 7 (by decide)
  rw [pk8]
  simp only [dg, show (16 : Nat) ^ 0 = 1 from rfl, show (16 : Nat) ^ 1 = 16 from rfl, show (16 : Nat) ^ 2 = 256 from rfl, show (16 : Nat) ^ 3 = 4096 from rfl, show (16 : Nat) ^ 4 = 65536 from rfl, show (16 : Nat) ^ 5 = 1048576 from rfl, show (16 : Nat) ^ 6 = 16777216 from rfl, show (16 : Nat) ^ 7 = 268435456 from rfl]
  refine ⟨?_, ?_, ?_, ?_, ?_, ?_, ?_, ?_⟩ <;> omega
theorem fr_data (h : ∀ i, i < 8 → w i < 16) : X4_dataOf_r (nI (pk w 8)) = nI (pk w 8 / 16 % 16777216) := by
  rw [X4_dataOf_r, show ush (nI (pk w 8)) 4 = nI (pk w 8 / 16 ^ 1) from ush4 (m := 1) (fr_lt h) (by decide), pk_andN (Nat.lt_of_le_of_lt (Nat.div_le_self _ _) (fr_lt h)) 24 (by decide)]
theorem fr_dnum (h : ∀ i, i < 8 → w i < 16) : pk w 8 / 16 % 16777216 = ((((w 1 * 16 + w 2) * 16 + w 3) * 16 + w 4) * 16 + w 5) * 16 + w 6 := by
  have h0 := h 0 (by decide); have h1 := h 1 (by decide); have h2 := h 2 (by decide); have h3 := h 3 (by decide)
  have h4 := h 4 (by decide); have h5 := h 5 (by decide); have h6 := h 6 (by decide); have h7 := h 7 (by decide)
  rw [pk8]
  omega
theorem fr_dd (h : ∀ i, i < 8 → w i < 16) : ckF (pk w 8 / 16 % 16777216) 6 5 = ckW w := by
  have h0 := h 0 (by decide); have h1 := h 1 (by decide); have h2 := h 2 (by decide); have h3 := h 3 (by decide)
  have h4 := h 4 (by decide); have h5 := h 5 (by decide); have h6 := h 6 (by decide); have h7 := h 7 (by decide)
  rw [fr_dnum h]
  generalize hX : ((((w 1 * 16 + w 2) * 16 + w 3) * 16 + w 4) * 16 + w 5) * 16 + w 6 = X
  have e5 : dg X 5 = w 1 := by simp only [dg, show (16 : Nat) ^ 5 = 1048576 from rfl]; omega
  have e4 : dg X 4 = w 2 := by simp only [dg, show (16 : Nat) ^ 4 = 65536 from rfl]; omega
  have e3 : dg X 3 = w 3 := by simp only [dg, show (16 : Nat) ^ 3 = 4096 from rfl]; omega
  have e2 : dg X 2 = w 4 := by simp only [dg, show (16 : Nat) ^ 2 = 256 from rfl]; omega
  have e1 : dg X 1 = w 5 := by simp only [dg, show (16 : Nat) ^ 1 = 16 from rfl]; omega
  have e0 : dg X 0 = w 6 := by simp only [dg, show (16 : Nat) ^ 0 = 1 from rfl]; omega
  simp only [ckF, e0, e1, e2, e3, e4, e5, ckW]
/-- a frame's check in the class -/
theorem fr_right (h : ∀ i, i < 8 → w i < 16) : X4_isRight_r (nI (pk w 8)) = if tbN (ckW w) = w 7 then 1 else 0 := by
  have hd : pk w 8 / 16 % 16777216 < 2 ^ 32 := Nat.lt_of_lt_of_le (Nat.mod_lt _ (by decide)) (by decide)
  have e : (nI (tbN (ckW w)) = nI (w 7)) ↔ tbN (ckW w) = w 7 := nI_eq (Nat.lt_of_lt_of_le (tbN_lt _ (ckW_lt h)) (by decide)) (Nat.lt_of_lt_of_le (h 7 (by decide)) (by decide))
  rw [X4_isRight_r, fr_data h, chk_nI hd (by decide), fr_dd h, show X4_nibbleAt_r (nI (pk w 8)) 0 = nI (dg (pk w 8) 0) from nibAt (m := 0) (fr_lt h) (by decide), (fr_dg h).1]
  by_cases c : tbN (ckW w) = w 7
  · rw [if_pos (e.mpr c), if_pos c]
  · rw [if_neg (fun q => c (e.mp q)), if_neg c]
theorem fr_status (h : ∀ i, i < 8 → w i < 16) : X4_statusOf_r (nI (pk w 8)) = nI (w 0) := by
  rw [X4_statusOf_r, show X4_nibbleAt_r (nI (pk w 8)) 7 = nI (dg (pk w 8) 7) from nibAt (m := 7) (fr_lt h) (by decide), (fr_dg h).2.2.2.2.2.2.2]
theorem fr_nib (h : ∀ i, i < 8 → w i < 16) : ∀ i, i < 8 → X4_nibbleAt_r (nI (pk w 8)) (7 - nI i) = nI (w i) := by
  intro i hi
  rw [show (7 : Int32) - nI i = nI (7 - i) from pk_sub (a := 7) (b := i) (by omega), nibAt (fr_lt h) (by omega)]
  obtain ⟨d0, d1, d2, d3, d4, d5, d6, d7⟩ := fr_dg h
  match i, hi with
  | 0, _ => rw [d7]
  | 1, _ => rw [d6]
  | 2, _ => rw [d5]
  | 3, _ => rw [d4]
  | 4, _ => rw [d3]
  | 5, _ => rw [d2]
  | 6, _ => rw [d1]
  | 7, _ => rw [d0]
/-- a frame's check in the twin -/
theorem fr_turned (h : ∀ i, i < 8 → w i < 16) {f : Nat → Int32} (hf : ∀ i, i < 8 → f i = nI (w i)) : X5_turned_r ((X5_turned_r ((X5_turned_r ((X5_turned_r ((X5_turned_r ((X5_turned_r ((X5_turned_r 5) ^^^ (f ((1 : Int32).toNatClampNeg)))) ^^^ (f ((2 : Int32).toNatClampNeg)))) ^^^ (f ((3 : Int32).toNatClampNeg)))) ^^^ (f ((4 : Int32).toNatClampNeg)))) ^^^ (f ((5 : Int32).toNatClampNeg)))) ^^^ (f ((6 : Int32).toNatClampNeg))) = nI (tbN (ckW w)) := by
  have h1 := h 1 (by decide); have h2 := h 2 (by decide); have h3 := h 3 (by decide)
  have h4 := h 4 (by decide); have h5 := h 5 (by decide); have h6 := h 6 (by decide)
  have q1 := st_lt (c := 5) (by decide) h1
  have q2 := st_lt q1 h2
  have q3 := st_lt q2 h3
  have q4 := st_lt q3 h4
  have q5 := st_lt q4 h5
  have q6 := st_lt q5 h6
  rw [show f ((1 : Int32).toNatClampNeg) = nI (w 1) from hf 1 (by decide), show f ((2 : Int32).toNatClampNeg) = nI (w 2) from hf 2 (by decide), show f ((3 : Int32).toNatClampNeg) = nI (w 3) from hf 3 (by decide), show f ((4 : Int32).toNatClampNeg) = nI (w 4) from hf 4 (by decide), show f ((5 : Int32).toNatClampNeg) = nI (w 5) from hf 5 (by decide), show f ((6 : Int32).toNatClampNeg) = nI (w 6) from hf 6 (by decide)]
  rw [show X5_turned_r 5 ^^^ nI (w 1) = nI (tbN 5 ^^^ w 1) from stM (c := 5) (by decide) h1, stM q1 h2, stM q2 h3, stM q3 h4, stM q4 h5, stM q5 h6, tu_nI _ q6]
  rfl
theorem fr_data5 (h : ∀ i, i < 8 → w i < 16) {f : Nat → Int32} (hf : ∀ i, i < 8 → f i = nI (w i)) : ((((((((((((0 : Int32) + (f ((1 : Int32).toNatClampNeg))) * 16) + (f ((2 : Int32).toNatClampNeg))) * 16) + (f ((3 : Int32).toNatClampNeg))) * 16) + (f ((4 : Int32).toNatClampNeg))) * 16) + (f ((5 : Int32).toNatClampNeg))) * 16) + (f ((6 : Int32).toNatClampNeg))) = X4_dataOf_r (nI (pk w 8)) := by
  rw [show f ((1 : Int32).toNatClampNeg) = nI (w 1) from hf 1 (by decide), show f ((2 : Int32).toNatClampNeg) = nI (w 2) from hf 2 (by decide), show f ((3 : Int32).toNatClampNeg) = nI (w 3) from hf 3 (by decide), show f ((4 : Int32).toNatClampNeg) = nI (w 4) from hf 4 (by decide), show f ((5 : Int32).toNatClampNeg) = nI (w 5) from hf 5 (by decide), show f ((6 : Int32).toNatClampNeg) = nI (w 6) from hf 6 (by decide)]
  rw [fr_data h, fr_dnum h]
  simp only [show (0 : Int32) = nI 0 from rfl, show (16 : Int32) = nI 16 from rfl, nI_add, pk_mul]
  exact congrArg nI (by omega)
end FRM
