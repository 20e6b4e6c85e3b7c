/-! Pure rows: the slow channel. -/
def pb (v : Nat → Nat) : Nat → Nat
  | 0 => 0
  | b + 1 => pb v b * 2 + v b
theorem pb_lt {v : Nat → Nat} : ∀ b, (∀ i, i < b → v i < 2) → pb v b < 2 ^ b := by
  intro b
  induction b with
  | zero => intro _; exact Nat.zero_lt_one
  | succ b ih =>
    intro h
    have h1 := ih (fun i hi => h i (by omega))
    have h2 := h b (by omega)
    rw [pb, Nat.pow_succ]
    omega
theorem pb_congr {v u : Nat → Nat} : ∀ b, (∀ i, i < b → v i = u i) → pb v b = pb u b := by
  intro b
  induction b with
  | zero => intro _; rfl
  | succ b ih => intro h; rw [pb, pb, ih (fun i hi => h i (by omega)), h b (by omega)]
theorem pb_st (v : Nat → Nat) (k : Nat) : nI (pb v k) * 2 + nI (v k) = nI (pb v (k + 1)) := by
  rw [show (2 : Int32) = nI 2 from rfl, pk_mul, nI_add]; rfl
theorem pb_s0 (v : Nat → Nat) : (0 : Int32) + nI (v 0) = nI (pb v 1) := by
  rw [show (0 : Int32) = nI 0 from rfl, nI_add]; exact congrArg nI (by simp [pb])
theorem pb_rem {v : Nat → Nat} {k : Nat} (h : pb v k < 65536) : nI (pb v k) - nI (pb v k) / 16 * 16 = nI (pb v k % 16) := pk_rem (a := pb v k) (d := 16) (by omega) (by decide) (by decide)
theorem pb_div {v : Nat → Nat} {k : Nat} (h : pb v k < 65536) : nI (pb v k) / 16 = nI (pb v k / 16) := pk_div (a := pb v k) (d := 16) (by omega) (by decide) (by decide)
/-- the check of sixteen bits -/
def ckR (v : Nat → Nat) : Nat := tbN (tbN (tbN 5 ^^^ pb v 4 % 16) ^^^ pb v 8 % 16) ^^^ pb v 12 % 16
theorem ckR_lt (v : Nat → Nat) : ckR v < 16 := by
  unfold ckR
  exact st_lt (st_lt (st_lt (by decide) (Nat.mod_lt _ (by decide))) (Nat.mod_lt _ (by decide))) (Nat.mod_lt _ (by decide))
theorem pb_q {v : Nat → Nat} (h : ∀ i, i < 16 → v i < 2) : pb v 16 / 16 = pb v 12 ∧ pb v 12 / 16 = pb v 8 ∧ pb v 8 / 16 = pb v 4 ∧ pb v 16 < 65536 ∧ pb v 12 < 65536 ∧ pb v 8 < 65536 ∧ pb v 4 < 65536 := by
  have e16 : pb v 16 = (((pb v 12 * 2 + v 12) * 2 + v 13) * 2 + v 14) * 2 + v 15 := rfl
  have e12 : pb v 12 = (((pb v 8 * 2 + v 8) * 2 + v 9) * 2 + v 10) * 2 + v 11 := rfl
  have e8 : pb v 8 = (((pb v 4 * 2 + v 4) * 2 + v 5) * 2 + v 6) * 2 + v 7 := rfl
  have l := pb_lt 16 h
  have p : (2 : Nat) ^ 16 = 65536 := rfl
  have a4 := h 4 (by decide); have a5 := h 5 (by decide); have a6 := h 6 (by decide); have a7 := h 7 (by decide)
  have a8 := h 8 (by decide); have a9 := h 9 (by decide); have a10 := h 10 (by decide); have a11 := h 11 (by decide)
  have a12 := h 12 (by decide); have a13 := h 13 (by decide); have a14 := h 14 (by decide); have a15 := h 15 (by decide)
  refine ⟨?_, ?_, ?_, ?_, ?_, ?_, ?_⟩ <;> omega
theorem ckF_row {v : Nat → Nat} (h : ∀ i, i < 16 → v i < 2) : ckF (pb v 16 / 16) 3 5 = ckR v := by
  obtain ⟨q1, q2, q3, q4, q5, q6, q7⟩ := pb_q h
  have e2 : dg (pb v 16 / 16) 2 = pb v 4 % 16 := by simp only [dg, show (16 : Nat) ^ 2 = 256 from rfl]; omega
  have e1 : dg (pb v 16 / 16) 1 = pb v 8 % 16 := by simp only [dg, show (16 : Nat) ^ 1 = 16 from rfl]; omega
  have e0 : dg (pb v 16 / 16) 0 = pb v 12 % 16 := by simp only [dg, show (16 : Nat) ^ 0 = 1 from rfl]; omega
  simp only [ckF, e0, e1, e2, ckR]
/-- the class's check of a whole row -/
theorem rowC {v : Nat → Nat} (h : ∀ i, i < 16 → v i < 2) : ((X4_checking_r (ush (nI (pb v 16)) 4) 3) = (X4_nibbleAt_r (nI (pb v 16)) 0)) ↔ tbN (ckR v) = pb v 16 % 16 := by
  obtain ⟨q1, q2, q3, q4, q5, q6, q7⟩ := pb_q h
  rw [show ush (nI (pb v 16)) 4 = nI (pb v 16 / 16 ^ 1) from ush4 (m := 1) (by omega) (by decide), show (16 : Nat) ^ 1 = 16 from rfl, chk_nI (by omega) (by decide), ckF_row h, show X4_nibbleAt_r (nI (pb v 16)) 0 = nI (dg (pb v 16) 0) from nibAt (m := 0) (by omega) (by decide)]
  rw [show dg (pb v 16) 0 = pb v 16 % 16 by simp [dg]]
  exact nI_eq (Nat.lt_of_lt_of_le (tbN_lt _ (ckR_lt v)) (by decide)) (by omega)
theorem rowU {v : Nat → Nat} (h : ∀ i, i < 16 → v i < 2) : ush (nI (pb v 16)) 4 = nI (pb v 16 / 16) := by
  obtain ⟨q1, q2, q3, q4, q5, q6, q7⟩ := pb_q h
  exact ush4 (m := 1) (by omega) (by decide)
theorem rowM {Y : Nat → Int32} {v : Nat → Nat} (h : ∀ i, i < 16 → v i < 2) (hy : ∀ i, i < 16 → Y i = nI (v i)) : ((X5_turned_r ((X5_turned_r ((X5_turned_r ((X5_turned_r 5) ^^^ (((((((((0 : Int32) + (Y ((0 : Int32).toNatClampNeg))) * 2) + (Y ((1 : Int32).toNatClampNeg))) * 2) + (Y ((2 : Int32).toNatClampNeg))) * 2) + (Y ((3 : Int32).toNatClampNeg))) - ((((((((0 : Int32) + (Y ((0 : Int32).toNatClampNeg))) * 2) + (Y ((1 : Int32).toNatClampNeg))) * 2) + (Y ((2 : Int32).toNatClampNeg))) * 2) + (Y ((3 : Int32).toNatClampNeg))) / 16 * 16))) ^^^ (((((((((((((((((0 : Int32) + (Y ((0 : Int32).toNatClampNeg))) * 2) + (Y ((1 : Int32).toNatClampNeg))) * 2) + (Y ((2 : Int32).toNatClampNeg))) * 2) + (Y ((3 : Int32).toNatClampNeg))) * 2) + (Y ((4 : Int32).toNatClampNeg))) * 2) + (Y ((5 : Int32).toNatClampNeg))) * 2) + (Y ((6 : Int32).toNatClampNeg))) * 2) + (Y ((7 : Int32).toNatClampNeg))) - ((((((((((((((((0 : Int32) + (Y ((0 : Int32).toNatClampNeg))) * 2) + (Y ((1 : Int32).toNatClampNeg))) * 2) + (Y ((2 : Int32).toNatClampNeg))) * 2) + (Y ((3 : Int32).toNatClampNeg))) * 2) + (Y ((4 : Int32).toNatClampNeg))) * 2) + (Y ((5 : Int32).toNatClampNeg))) * 2) + (Y ((6 : Int32).toNatClampNeg))) * 2) + (Y ((7 : Int32).toNatClampNeg))) / 16 * 16))) ^^^ (((((((((((((((((((((((((0 : Int32) + (Y ((0 : Int32).toNatClampNeg))) * 2) + (Y ((1 : Int32).toNatClampNeg))) * 2) + (Y ((2 : Int32).toNatClampNeg))) * 2) + (Y ((3 : Int32).toNatClampNeg))) * 2) + (Y ((4 : Int32).toNatClampNeg))) * 2) + (Y ((5 : Int32).toNatClampNeg))) * 2) + (Y ((6 : Int32).toNatClampNeg))) * 2) + (Y ((7 : Int32).toNatClampNeg))) * 2) + (Y ((8 : Int32).toNatClampNeg))) * 2) + (Y ((9 : Int32).toNatClampNeg))) * 2) + (Y ((10 : Int32).toNatClampNeg))) * 2) + (Y ((11 : Int32).toNatClampNeg))) - ((((((((((((((((((((((((0 : Int32) + (Y ((0 : Int32).toNatClampNeg))) * 2) + (Y ((1 : Int32).toNatClampNeg))) * 2) + (Y ((2 : Int32).toNatClampNeg))) * 2) + (Y ((3 : Int32).toNatClampNeg))) * 2) + (Y ((4 : Int32).toNatClampNeg))) * 2) + (Y ((5 : Int32).toNatClampNeg))) * 2) + (Y ((6 : Int32).toNatClampNeg))) * 2) + (Y ((7 : Int32).toNatClampNeg))) * 2) + (Y ((8 : Int32).toNatClampNeg))) * 2) + (Y ((9 : Int32).toNatClampNeg))) * 2) + (Y ((10 : Int32).toNatClampNeg))) * 2) + (Y ((11 : Int32).toNatClampNeg))) / 16 * 16))) = (((((((((((((((((((((((((((((((((0 : Int32) + (Y ((0 : Int32).toNatClampNeg))) * 2) + (Y ((1 : Int32).toNatClampNeg))) * 2) + (Y ((2 : Int32).toNatClampNeg))) * 2) + (Y ((3 : Int32).toNatClampNeg))) * 2) + (Y ((4 : Int32).toNatClampNeg))) * 2) + (Y ((5 : Int32).toNatClampNeg))) * 2) + (Y ((6 : Int32).toNatClampNeg))) * 2) + (Y ((7 : Int32).toNatClampNeg))) * 2) + (Y ((8 : Int32).toNatClampNeg))) * 2) + (Y ((9 : Int32).toNatClampNeg))) * 2) + (Y ((10 : Int32).toNatClampNeg))) * 2) + (Y ((11 : Int32).toNatClampNeg))) * 2) + (Y ((12 : Int32).toNatClampNeg))) * 2) + (Y ((13 : Int32).toNatClampNeg))) * 2) + (Y ((14 : Int32).toNatClampNeg))) * 2) + (Y ((15 : Int32).toNatClampNeg))) - ((((((((((((((((((((((((((((((((0 : Int32) + (Y ((0 : Int32).toNatClampNeg))) * 2) + (Y ((1 : Int32).toNatClampNeg))) * 2) + (Y ((2 : Int32).toNatClampNeg))) * 2) + (Y ((3 : Int32).toNatClampNeg))) * 2) + (Y ((4 : Int32).toNatClampNeg))) * 2) + (Y ((5 : Int32).toNatClampNeg))) * 2) + (Y ((6 : Int32).toNatClampNeg))) * 2) + (Y ((7 : Int32).toNatClampNeg))) * 2) + (Y ((8 : Int32).toNatClampNeg))) * 2) + (Y ((9 : Int32).toNatClampNeg))) * 2) + (Y ((10 : Int32).toNatClampNeg))) * 2) + (Y ((11 : Int32).toNatClampNeg))) * 2) + (Y ((12 : Int32).toNatClampNeg))) * 2) + (Y ((13 : Int32).toNatClampNeg))) * 2) + (Y ((14 : Int32).toNatClampNeg))) * 2) + (Y ((15 : Int32).toNatClampNeg))) / 16 * 16)) ↔ tbN (ckR v) = pb v 16 % 16 := by
  obtain ⟨q1, q2, q3, q4, q5, q6, q7⟩ := pb_q h
  have y0 : Y ((0 : Int32).toNatClampNeg) = nI (v 0) := hy 0 (by decide)
  have y1 : Y ((1 : Int32).toNatClampNeg) = nI (v 1) := hy 1 (by decide)
  have y2 : Y ((2 : Int32).toNatClampNeg) = nI (v 2) := hy 2 (by decide)
  have y3 : Y ((3 : Int32).toNatClampNeg) = nI (v 3) := hy 3 (by decide)
  have y4 : Y ((4 : Int32).toNatClampNeg) = nI (v 4) := hy 4 (by decide)
  have y5 : Y ((5 : Int32).toNatClampNeg) = nI (v 5) := hy 5 (by decide)
  have y6 : Y ((6 : Int32).toNatClampNeg) = nI (v 6) := hy 6 (by decide)
  have y7 : Y ((7 : Int32).toNatClampNeg) = nI (v 7) := hy 7 (by decide)
  have y8 : Y ((8 : Int32).toNatClampNeg) = nI (v 8) := hy 8 (by decide)
  have y9 : Y ((9 : Int32).toNatClampNeg) = nI (v 9) := hy 9 (by decide)
  have y10 : Y ((10 : Int32).toNatClampNeg) = nI (v 10) := hy 10 (by decide)
  have y11 : Y ((11 : Int32).toNatClampNeg) = nI (v 11) := hy 11 (by decide)
  have y12 : Y ((12 : Int32).toNatClampNeg) = nI (v 12) := hy 12 (by decide)
  have y13 : Y ((13 : Int32).toNatClampNeg) = nI (v 13) := hy 13 (by decide)
  have y14 : Y ((14 : Int32).toNatClampNeg) = nI (v 14) := hy 14 (by decide)
  have y15 : Y ((15 : Int32).toNatClampNeg) = nI (v 15) := hy 15 (by decide)
  have s1 : nI (pb v 1) * 2 + nI (v 1) = nI (pb v 2) := pb_st v 1
  have s2 : nI (pb v 2) * 2 + nI (v 2) = nI (pb v 3) := pb_st v 2
  have s3 : nI (pb v 3) * 2 + nI (v 3) = nI (pb v 4) := pb_st v 3
  have s4 : nI (pb v 4) * 2 + nI (v 4) = nI (pb v 5) := pb_st v 4
  have s5 : nI (pb v 5) * 2 + nI (v 5) = nI (pb v 6) := pb_st v 5
  have s6 : nI (pb v 6) * 2 + nI (v 6) = nI (pb v 7) := pb_st v 6
  have s7 : nI (pb v 7) * 2 + nI (v 7) = nI (pb v 8) := pb_st v 7
  have s8 : nI (pb v 8) * 2 + nI (v 8) = nI (pb v 9) := pb_st v 8
  have s9 : nI (pb v 9) * 2 + nI (v 9) = nI (pb v 10) := pb_st v 9
  have s10 : nI (pb v 10) * 2 + nI (v 10) = nI (pb v 11) := pb_st v 10
  have s11 : nI (pb v 11) * 2 + nI (v 11) = nI (pb v 12) := pb_st v 11
  have s12 : nI (pb v 12) * 2 + nI (v 12) = nI (pb v 13) := pb_st v 12
  have s13 : nI (pb v 13) * 2 + nI (v 13) = nI (pb v 14) := pb_st v 13
  have s14 : nI (pb v 14) * 2 + nI (v 14) = nI (pb v 15) := pb_st v 14
  have s15 : nI (pb v 15) * 2 + nI (v 15) = nI (pb v 16) := pb_st v 15
  simp only [y0, y1, y2, y3, y4, y5, y6, y7, y8, y9, y10, y11, y12, y13, y14, y15, pb_s0, s1, s2, s3, s4, s5, s6, s7, s8, s9, s10, s11, s12, s13, s14, s15]
  rw [pb_rem q4, pb_rem q5, pb_rem q6, pb_rem q7]
  have m4 : pb v 4 % 16 < 16 := Nat.mod_lt _ (by decide)
  have m8 : pb v 8 % 16 < 16 := Nat.mod_lt _ (by decide)
  have m12 : pb v 12 % 16 < 16 := Nat.mod_lt _ (by decide)
  have t1 := st_lt (c := 5) (by decide) m4
  have t2 := st_lt t1 m8
  have t3 := st_lt t2 m12
  rw [show X5_turned_r 5 ^^^ nI (pb v 4 % 16) = nI (tbN 5 ^^^ pb v 4 % 16) from stM (c := 5) (by decide) m4, stM t1 m8, stM t2 m12, tu_nI _ t3]
  exact nI_eq (Nat.lt_of_lt_of_le (tbN_lt _ (ckR_lt v)) (by decide)) (by omega)
theorem rowA {Y : Nat → Int32} {v : Nat → Nat} (h : ∀ i, i < 16 → v i < 2) (hy : ∀ i, i < 16 → Y i = nI (v i)) : (((((((((((((((((((((((((((((((((0 : Int32) + (Y ((0 : Int32).toNatClampNeg))) * 2) + (Y ((1 : Int32).toNatClampNeg))) * 2) + (Y ((2 : Int32).toNatClampNeg))) * 2) + (Y ((3 : Int32).toNatClampNeg))) * 2) + (Y ((4 : Int32).toNatClampNeg))) * 2) + (Y ((5 : Int32).toNatClampNeg))) * 2) + (Y ((6 : Int32).toNatClampNeg))) * 2) + (Y ((7 : Int32).toNatClampNeg))) * 2) + (Y ((8 : Int32).toNatClampNeg))) * 2) + (Y ((9 : Int32).toNatClampNeg))) * 2) + (Y ((10 : Int32).toNatClampNeg))) * 2) + (Y ((11 : Int32).toNatClampNeg))) * 2) + (Y ((12 : Int32).toNatClampNeg))) * 2) + (Y ((13 : Int32).toNatClampNeg))) * 2) + (Y ((14 : Int32).toNatClampNeg))) * 2) + (Y ((15 : Int32).toNatClampNeg))) / 16) = nI (pb v 16 / 16) := by
  obtain ⟨q1, q2, q3, q4, q5, q6, q7⟩ := pb_q h
  have y0 : Y ((0 : Int32).toNatClampNeg) = nI (v 0) := hy 0 (by decide)
  have y1 : Y ((1 : Int32).toNatClampNeg) = nI (v 1) := hy 1 (by decide)
  have y2 : Y ((2 : Int32).toNatClampNeg) = nI (v 2) := hy 2 (by decide)
  have y3 : Y ((3 : Int32).toNatClampNeg) = nI (v 3) := hy 3 (by decide)
  have y4 : Y ((4 : Int32).toNatClampNeg) = nI (v 4) := hy 4 (by decide)
  have y5 : Y ((5 : Int32).toNatClampNeg) = nI (v 5) := hy 5 (by decide)
  have y6 : Y ((6 : Int32).toNatClampNeg) = nI (v 6) := hy 6 (by decide)
  have y7 : Y ((7 : Int32).toNatClampNeg) = nI (v 7) := hy 7 (by decide)
  have y8 : Y ((8 : Int32).toNatClampNeg) = nI (v 8) := hy 8 (by decide)
  have y9 : Y ((9 : Int32).toNatClampNeg) = nI (v 9) := hy 9 (by decide)
  have y10 : Y ((10 : Int32).toNatClampNeg) = nI (v 10) := hy 10 (by decide)
  have y11 : Y ((11 : Int32).toNatClampNeg) = nI (v 11) := hy 11 (by decide)
  have y12 : Y ((12 : Int32).toNatClampNeg) = nI (v 12) := hy 12 (by decide)
  have y13 : Y ((13 : Int32).toNatClampNeg) = nI (v 13) := hy 13 (by decide)
  have y14 : Y ((14 : Int32).toNatClampNeg) = nI (v 14) := hy 14 (by decide)
  have y15 : Y ((15 : Int32).toNatClampNeg) = nI (v 15) := hy 15 (by decide)
  have s1 : nI (pb v 1) * 2 + nI (v 1) = nI (pb v 2) := pb_st v 1
  have s2 : nI (pb v 2) * 2 + nI (v 2) = nI (pb v 3) := pb_st v 2
  have s3 : nI (pb v 3) * 2 + nI (v 3) = nI (pb v 4) := pb_st v 3
  have s4 : nI (pb v 4) * 2 + nI (v 4) = nI (pb v 5) := pb_st v 4
  have s5 : nI (pb v 5) * 2 + nI (v 5) = nI (pb v 6) := pb_st v 5
  have s6 : nI (pb v 6) * 2 + nI (v 6) = nI (pb v 7) := pb_st v 6
  have s7 : nI (pb v 7) * 2 + nI (v 7) = nI (pb v 8) := pb_st v 7
  have s8 : nI (pb v 8) * 2 + nI (v 8) = nI (pb v 9) := pb_st v 8
  have s9 : nI (pb v 9) * 2 + nI (v 9) = nI (pb v 10) := pb_st v 9
  have s10 : nI (pb v 10) * 2 + nI (v 10) = nI (pb v 11) := pb_st v 10
  have s11 : nI (pb v 11) * 2 + nI (v 11) = nI (pb v 12) := pb_st v 11
  have s12 : nI (pb v 12) * 2 + nI (v 12) = nI (pb v 13) := pb_st v 12
  have s13 : nI (pb v 13) * 2 + nI (v 13) = nI (pb v 14) := pb_st v 13
  have s14 : nI (pb v 14) * 2 + nI (v 14) = nI (pb v 15) := pb_st v 14
  have s15 : nI (pb v 15) * 2 + nI (v 15) = nI (pb v 16) := pb_st v 15
  simp only [y0, y1, y2, y3, y4, y5, y6, y7, y8, y9, y10, y11, y12, y13, y14, y15, pb_s0, s1, s2, s3, s4, s5, s6, s7, s8, s9, s10, s11, s12, s13, s14, s15]
  exact pb_div q4
