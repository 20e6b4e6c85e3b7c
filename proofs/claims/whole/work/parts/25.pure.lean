/-! Pure rows: check of a row. -/
theorem of32 (x : Int32) : ∃ n : Nat, n < 2 ^ 32 ∧ x = nI n := by
  refine ⟨x.toBitVec.toNat, x.toBitVec.isLt, ?_⟩
  apply Int32.toBitVec_inj.1
  show x.toBitVec = BitVec.ofNat 32 x.toBitVec.toNat
  rw [BitVec.ofNat_toNat, BitVec.setWidth_eq]
theorem sl4 : ∀ m, m < 8 → ((nI (4 * m) &&& 31).toBitVec.smod 32).toNat = 4 * m := by decide +kernel
theorem toIntN {N : Nat} (hN : N < 2 ^ 32) : (nI N).toInt = if 2 * N < 2 ^ 32 then (N : Int) else (N : Int) - 2 ^ 32 := by
  rw [show (nI N).toInt = (nI N).toBitVec.toInt from rfl, BitVec.toInt_eq_toNat_cond, pk_tn hN]
  rfl
theorem shr_mod {N : Nat} (hN : N < 2 ^ 32) {s : Int32} (k r : Nat) (hs : (s.toBitVec.smod 32).toNat = k) (hk : k + r ≤ 32) {m : Int32} (hm : m.toBitVec.toNat = 2 ^ r - 1) : (nI N >>> s) &&& m = nI (N / 2 ^ k % 2 ^ r) := by
  rw [pk_and _ r hm]
  obtain ⟨Y, hY, e⟩ := of32 (nI N >>> s)
  have h1 := pk_shr (nI N) s k hs
  rw [e] at h1 ⊢
  rw [pk_tn hY]
  refine congrArg nI ?_
  rw [toIntN hN, toIntN hY, Int.shiftRight_eq_div_pow] at h1
  have hp : (2 : Nat) ^ 32 = 2 ^ r * (2 ^ k * 2 ^ (32 - k - r)) := by
    rw [← Nat.pow_add, ← Nat.pow_add]; congr 1; omega
  have hpr : 0 < 2 ^ r := Nat.two_pow_pos r
  have hpk : 0 < 2 ^ k := Nat.two_pow_pos k
  generalize 2 ^ (32 - k - r) = P at hp
  -- both numbers agree modulo 2^r
  have key : ((Y : Int) % (2 ^ r : Nat)) = ((N / 2 ^ k : Nat) : Int) % (2 ^ r : Nat) := by
    have hN' : ((if 2 * N < 2 ^ 32 then (N : Int) else (N : Int) - 2 ^ 32) / ((2 ^ k : Nat) : Int)) % (2 ^ r : Nat) = ((N / 2 ^ k : Nat) : Int) % (2 ^ r : Nat) := by
      split
      · rw [Int.natCast_ediv]
      · rw [show ((2 : Int) ^ 32) = ((2 ^ r * (2 ^ k * P) : Nat) : Int) by rw [← hp]; rfl]
        rw [show ((2 ^ r * (2 ^ k * P) : Nat) : Int) = ((2 ^ k : Nat) : Int) * (((2 ^ r * P : Nat)) : Int) by rw [← Int.natCast_mul]; congr 1; rw [Nat.mul_left_comm]]
        rw [Int.sub_mul_ediv_left _ _ (by omega), Int.natCast_mul, Int.sub_mul_emod_self_left, Int.natCast_ediv]
    rw [← hN', ← h1]
    split
    · rfl
    · rw [show ((2 : Int) ^ 32) = (((2 ^ r : Nat)) : Int) * ((2 ^ k * P : Nat) : Int) by rw [← Int.natCast_mul, ← hp]; rfl, Int.sub_mul_emod_self_left]
  have := congrArg Int.toNat key
  rw [← Int.natCast_emod, ← Int.natCast_emod, Int.toNat_natCast, Int.toNat_natCast] at this
  exact this
theorem nib_sh {N : Nat} (hN : N < 2 ^ 32) {k : Nat} (hk : k < 8) : (nI N >>> (nI (4 * k) &&& 31)) &&& 15 = nI (dg N k) := by
  rw [shr_mod hN (4 * k) 4 (sl4 k hk) (by omega) (by decide), p16]
  rfl
theorem cnt_val {N : Nat} (hN : N < 2 ^ 32) : ∀ f k, f + k = 9 → k ≤ 8 → (k = 0 ∨ N / 16 ^ (k - 1) ≠ 0) → ∃ c, cnt_lp (nI N) f k = c ∧ c ≤ 8 ∧ (c = 8 ∨ N / 16 ^ c = 0) ∧ (c = 0 ∨ N / 16 ^ (c - 1) ≠ 0) := by
  intro f
  induction f with
  | zero => intro k h1 h2; omega
  | succ f ih =>
    intro k h1 h2 h3
    rw [cnt_lp]
    by_cases c1 : 8 ≤ nI k
    · have : ¬ k < 8 := fun q => nI_ge (a := k) (b := 8) q (by decide) c1
      rw [if_pos c1]
      exact ⟨k, rfl, h2, Or.inl (by omega), h3⟩
    · have hk : k < 8 := by
        rcases Nat.lt_or_ge k 8 with q | q
        · exact q
        · exact absurd (show nI 8 ≤ nI k from nI_le q (by omega)) c1
      rw [if_neg c1, show (4 : Int32) * nI k = nI (4 * k) from pk_mul 4 k, ush4 hN hk]
      have e : (nI (N / 16 ^ k) = 0) ↔ N / 16 ^ k = 0 := by
        constructor
        · intro q
          have h9 := congrArg (fun z : Int32 => z.toBitVec.toNat) q
          have h8 : (nI (N / 16 ^ k)).toBitVec.toNat = N / 16 ^ k := pk_tn (Nat.lt_of_le_of_lt (Nat.div_le_self _ _) hN)
          have h7 : (0 : Int32).toBitVec.toNat = 0 := by decide
          omega
        · intro q; rw [q]; exact nI_0
      by_cases c2 : N / 16 ^ k = 0
      · rw [if_pos (e.mpr c2)]
        exact ⟨k, rfl, h2, Or.inr c2, h3⟩
      · rw [if_neg (fun q => c2 (e.mp q))]
        exact ih (k + 1) (by omega) (by omega) (Or.inr c2)
theorem le0 {d : Nat} (hd : d < 16) : (nI d ≤ 0) ↔ d = 0 := by
  rw [show (nI d ≤ 0) ↔ d ≤ 0 from nI_leI (b := 0) (by omega) (by omega)]
  omega
theorem dg_zero {N c k : Nat} (h : N / 16 ^ c = 0) (hk : c ≤ k) : dg N k = 0 := by
  have : N / 16 ^ k = 0 := by
    have h1 : N < 16 ^ c := (Nat.div_eq_zero_iff_lt (Nat.pow_pos (by decide))).mp h
    exact (Nat.div_eq_zero_iff_lt (Nat.pow_pos (by decide))).mpr (Nat.lt_of_lt_of_le h1 (Nat.pow_le_pow_right (by decide) hk))
  rw [dg, this]
theorem dg_top {N c : Nat} (h : N < 16 ^ (c + 1)) (h1 : N / 16 ^ c ≠ 0) : dg N c ≠ 0 := by
  have : N / 16 ^ c < 16 := (Nat.div_lt_iff_lt_mul (Nat.pow_pos (by decide))).mpr (by rw [Nat.pow_succ, Nat.mul_comm] at h; omega)
  rw [dg, Nat.mod_eq_of_lt this]
  exact h1
set_option maxHeartbeats 1000000 in
theorem check_eq (row : Int32) : X4_check_r row = X5_check_r row := by
  obtain ⟨N, hN, rfl⟩ := of32 row
  obtain ⟨c, h1, h2, h3, h4⟩ := cnt_val hN 9 0 (by omega) (by omega) (Or.inl rfl)
  rw [X4_check_r, X5_check_r]
  simp only [show (nI N >>> ((0 : Int32) &&& 31)) &&& 15 = nI (dg N 0) from nib_sh (k := 0) hN (by decide), show (nI N >>> ((4 : Int32) &&& 31)) &&& 15 = nI (dg N 1) from nib_sh (k := 1) hN (by decide), show (nI N >>> ((8 : Int32) &&& 31)) &&& 15 = nI (dg N 2) from nib_sh (k := 2) hN (by decide), show (nI N >>> ((12 : Int32) &&& 31)) &&& 15 = nI (dg N 3) from nib_sh (k := 3) hN (by decide), show (nI N >>> ((16 : Int32) &&& 31)) &&& 15 = nI (dg N 4) from nib_sh (k := 4) hN (by decide), show (nI N >>> ((20 : Int32) &&& 31)) &&& 15 = nI (dg N 5) from nib_sh (k := 5) hN (by decide), show (nI N >>> ((24 : Int32) &&& 31)) &&& 15 = nI (dg N 6) from nib_sh (k := 6) hN (by decide), show (nI N >>> ((28 : Int32) &&& 31)) &&& 15 = nI (dg N 7) from nib_sh (k := 7) hN (by decide)]
  match c, h2 with
  | 0, _ =>
    have hz : N / 16 ^ 0 = 0 := h3.resolve_left (by decide)
    have z7 : nI (dg N 7) ≤ 0 := (le0 (dg_lt N 7)).mpr (dg_zero hz (by decide))
    have z6 : nI (dg N 6) ≤ 0 := (le0 (dg_lt N 6)).mpr (dg_zero hz (by decide))
    have z5 : nI (dg N 5) ≤ 0 := (le0 (dg_lt N 5)).mpr (dg_zero hz (by decide))
    have z4 : nI (dg N 4) ≤ 0 := (le0 (dg_lt N 4)).mpr (dg_zero hz (by decide))
    have z3 : nI (dg N 3) ≤ 0 := (le0 (dg_lt N 3)).mpr (dg_zero hz (by decide))
    have z2 : nI (dg N 2) ≤ 0 := (le0 (dg_lt N 2)).mpr (dg_zero hz (by decide))
    have z1 : nI (dg N 1) ≤ 0 := (le0 (dg_lt N 1)).mpr (dg_zero hz (by decide))
    have z0 : nI (dg N 0) ≤ 0 := (le0 (dg_lt N 0)).mpr (dg_zero hz (by decide))
    rw [h1, chk_nI hN (by decide), if_pos z7, if_pos z6, if_pos z5, if_pos z4, if_pos z3, if_pos z2, if_pos z1, if_pos z0]
    rw [show X5_turned_r 5 = nI (tbN 5) from tu_nI 5 (by decide)]
    rfl
  | 1, _ =>
    have hz : N / 16 ^ 1 = 0 := h3.resolve_left (by decide)
    have z7 : nI (dg N 7) ≤ 0 := (le0 (dg_lt N 7)).mpr (dg_zero hz (by decide))
    have z6 : nI (dg N 6) ≤ 0 := (le0 (dg_lt N 6)).mpr (dg_zero hz (by decide))
    have z5 : nI (dg N 5) ≤ 0 := (le0 (dg_lt N 5)).mpr (dg_zero hz (by decide))
    have z4 : nI (dg N 4) ≤ 0 := (le0 (dg_lt N 4)).mpr (dg_zero hz (by decide))
    have z3 : nI (dg N 3) ≤ 0 := (le0 (dg_lt N 3)).mpr (dg_zero hz (by decide))
    have z2 : nI (dg N 2) ≤ 0 := (le0 (dg_lt N 2)).mpr (dg_zero hz (by decide))
    have z1 : nI (dg N 1) ≤ 0 := (le0 (dg_lt N 1)).mpr (dg_zero hz (by decide))
    have t0 : ¬ nI (dg N 0) ≤ 0 := fun q => dg_top (c := 0) ((Nat.div_eq_zero_iff_lt (Nat.pow_pos (by decide))).mp hz) (h4.resolve_left (by decide)) ((le0 (dg_lt N 0)).mp q)
    rw [h1, chk_nI hN (by decide), if_pos z7, if_pos z6, if_pos z5, if_pos z4, if_pos z3, if_pos z2, if_pos z1, if_neg t0]
    have q0 := st_lt (by decide : (5 : Nat) < 16) (dg_lt N 0)
    rw [show X5_turned_r 5 ^^^ nI (dg N 0) = nI (tbN 5 ^^^ dg N 0) from stM (c := 5) (by decide) (dg_lt N 0), tu_nI _ q0]
    rfl
  | 2, _ =>
    have hz : N / 16 ^ 2 = 0 := h3.resolve_left (by decide)
    have z7 : nI (dg N 7) ≤ 0 := (le0 (dg_lt N 7)).mpr (dg_zero hz (by decide))
    have z6 : nI (dg N 6) ≤ 0 := (le0 (dg_lt N 6)).mpr (dg_zero hz (by decide))
    have z5 : nI (dg N 5) ≤ 0 := (le0 (dg_lt N 5)).mpr (dg_zero hz (by decide))
    have z4 : nI (dg N 4) ≤ 0 := (le0 (dg_lt N 4)).mpr (dg_zero hz (by decide))
    have z3 : nI (dg N 3) ≤ 0 := (le0 (dg_lt N 3)).mpr (dg_zero hz (by decide))
    have z2 : nI (dg N 2) ≤ 0 := (le0 (dg_lt N 2)).mpr (dg_zero hz (by decide))
    have t1 : ¬ nI (dg N 1) ≤ 0 := fun q => dg_top (c := 1) ((Nat.div_eq_zero_iff_lt (Nat.pow_pos (by decide))).mp hz) (h4.resolve_left (by decide)) ((le0 (dg_lt N 1)).mp q)
    rw [h1, chk_nI hN (by decide), if_pos z7, if_pos z6, if_pos z5, if_pos z4, if_pos z3, if_pos z2, if_neg t1]
    have q0 := st_lt (by decide : (5 : Nat) < 16) (dg_lt N 1)
    have q1 := st_lt q0 (dg_lt N 0)
    rw [show X5_turned_r 5 ^^^ nI (dg N 1) = nI (tbN 5 ^^^ dg N 1) from stM (c := 5) (by decide) (dg_lt N 1), stM q0 (dg_lt N 0), tu_nI _ q1]
    rfl
  | 3, _ =>
    have hz : N / 16 ^ 3 = 0 := h3.resolve_left (by decide)
    have z7 : nI (dg N 7) ≤ 0 := (le0 (dg_lt N 7)).mpr (dg_zero hz (by decide))
    have z6 : nI (dg N 6) ≤ 0 := (le0 (dg_lt N 6)).mpr (dg_zero hz (by decide))
    have z5 : nI (dg N 5) ≤ 0 := (le0 (dg_lt N 5)).mpr (dg_zero hz (by decide))
    have z4 : nI (dg N 4) ≤ 0 := (le0 (dg_lt N 4)).mpr (dg_zero hz (by decide))
    have z3 : nI (dg N 3) ≤ 0 := (le0 (dg_lt N 3)).mpr (dg_zero hz (by decide))
    have t2 : ¬ nI (dg N 2) ≤ 0 := fun q => dg_top (c := 2) ((Nat.div_eq_zero_iff_lt (Nat.pow_pos (by decide))).mp hz) (h4.resolve_left (by decide)) ((le0 (dg_lt N 2)).mp q)
    rw [h1, chk_nI hN (by decide), if_pos z7, if_pos z6, if_pos z5, if_pos z4, if_pos z3, if_neg t2]
    have q0 := st_lt (by decide : (5 : Nat) < 16) (dg_lt N 2)
    have q1 := st_lt q0 (dg_lt N 1)
    have q2 := st_lt q1 (dg_lt N 0)
    rw [show X5_turned_r 5 ^^^ nI (dg N 2) = nI (tbN 5 ^^^ dg N 2) from stM (c := 5) (by decide) (dg_lt N 2), stM q0 (dg_lt N 1), stM q1 (dg_lt N 0), tu_nI _ q2]
    rfl
  | 4, _ =>
    have hz : N / 16 ^ 4 = 0 := h3.resolve_left (by decide)
    have z7 : nI (dg N 7) ≤ 0 := (le0 (dg_lt N 7)).mpr (dg_zero hz (by decide))
    have z6 : nI (dg N 6) ≤ 0 := (le0 (dg_lt N 6)).mpr (dg_zero hz (by decide))
    have z5 : nI (dg N 5) ≤ 0 := (le0 (dg_lt N 5)).mpr (dg_zero hz (by decide))
    have z4 : nI (dg N 4) ≤ 0 := (le0 (dg_lt N 4)).mpr (dg_zero hz (by decide))
    have t3 : ¬ nI (dg N 3) ≤ 0 := fun q => dg_top (c := 3) ((Nat.div_eq_zero_iff_lt (Nat.pow_pos (by decide))).mp hz) (h4.resolve_left (by decide)) ((le0 (dg_lt N 3)).mp q)
    rw [h1, chk_nI hN (by decide), if_pos z7, if_pos z6, if_pos z5, if_pos z4, if_neg t3]
    have q0 := st_lt (by decide : (5 : Nat) < 16) (dg_lt N 3)
    have q1 := st_lt q0 (dg_lt N 2)
    have q2 := st_lt q1 (dg_lt N 1)
    have q3 := st_lt q2 (dg_lt N 0)
    rw [show X5_turned_r 5 ^^^ nI (dg N 3) = nI (tbN 5 ^^^ dg N 3) from stM (c := 5) (by decide) (dg_lt N 3), stM q0 (dg_lt N 2), stM q1 (dg_lt N 1), stM q2 (dg_lt N 0), tu_nI _ q3]
    rfl
  | 5, _ =>
    have hz : N / 16 ^ 5 = 0 := h3.resolve_left (by decide)
    have z7 : nI (dg N 7) ≤ 0 := (le0 (dg_lt N 7)).mpr (dg_zero hz (by decide))
    have z6 : nI (dg N 6) ≤ 0 := (le0 (dg_lt N 6)).mpr (dg_zero hz (by decide))
    have z5 : nI (dg N 5) ≤ 0 := (le0 (dg_lt N 5)).mpr (dg_zero hz (by decide))
    have t4 : ¬ nI (dg N 4) ≤ 0 := fun q => dg_top (c := 4) ((Nat.div_eq_zero_iff_lt (Nat.pow_pos (by decide))).mp hz) (h4.resolve_left (by decide)) ((le0 (dg_lt N 4)).mp q)
    rw [h1, chk_nI hN (by decide), if_pos z7, if_pos z6, if_pos z5, if_neg t4]
    have q0 := st_lt (by decide : (5 : Nat) < 16) (dg_lt N 4)
    have q1 := st_lt q0 (dg_lt N 3)
    have q2 := st_lt q1 (dg_lt N 2)
    have q3 := st_lt q2 (dg_lt N 1)
    have q4 := st_lt q3 (dg_lt N 0)
    rw [show X5_turned_r 5 ^^^ nI (dg N 4) = nI (tbN 5 ^^^ dg N 4) from stM (c := 5) (by decide) (dg_lt N 4), stM q0 (dg_lt N 3), stM q1 (dg_lt N 2), stM q2 (dg_lt N 1), stM q3 (dg_lt N 0), tu_nI _ q4]
    rfl
  | 6, _ =>
    have hz : N / 16 ^ 6 = 0 := h3.resolve_left (by decide)
    have z7 : nI (dg N 7) ≤ 0 := (le0 (dg_lt N 7)).mpr (dg_zero hz (by decide))
    have z6 : nI (dg N 6) ≤ 0 := (le0 (dg_lt N 6)).mpr (dg_zero hz (by decide))
    have t5 : ¬ nI (dg N 5) ≤ 0 := fun q => dg_top (c := 5) ((Nat.div_eq_zero_iff_lt (Nat.pow_pos (by decide))).mp hz) (h4.resolve_left (by decide)) ((le0 (dg_lt N 5)).mp q)
    rw [h1, chk_nI hN (by decide), if_pos z7, if_pos z6, if_neg t5]
    have q0 := st_lt (by decide : (5 : Nat) < 16) (dg_lt N 5)
    have q1 := st_lt q0 (dg_lt N 4)
    have q2 := st_lt q1 (dg_lt N 3)
    have q3 := st_lt q2 (dg_lt N 2)
    have q4 := st_lt q3 (dg_lt N 1)
    have q5 := st_lt q4 (dg_lt N 0)
    rw [show X5_turned_r 5 ^^^ nI (dg N 5) = nI (tbN 5 ^^^ dg N 5) from stM (c := 5) (by decide) (dg_lt N 5), stM q0 (dg_lt N 4), stM q1 (dg_lt N 3), stM q2 (dg_lt N 2), stM q3 (dg_lt N 1), stM q4 (dg_lt N 0), tu_nI _ q5]
    rfl
  | 7, _ =>
    have hz : N / 16 ^ 7 = 0 := h3.resolve_left (by decide)
    have z7 : nI (dg N 7) ≤ 0 := (le0 (dg_lt N 7)).mpr (dg_zero hz (by decide))
    have t6 : ¬ nI (dg N 6) ≤ 0 := fun q => dg_top (c := 6) ((Nat.div_eq_zero_iff_lt (Nat.pow_pos (by decide))).mp hz) (h4.resolve_left (by decide)) ((le0 (dg_lt N 6)).mp q)
    rw [h1, chk_nI hN (by decide), if_pos z7, if_neg t6]
    have q0 := st_lt (by decide : (5 : Nat) < 16) (dg_lt N 6)
    have q1 := st_lt q0 (dg_lt N 5)
    have q2 := st_lt q1 (dg_lt N 4)
    have q3 := st_lt q2 (dg_lt N 3)
    have q4 := st_lt q3 (dg_lt N 2)
    have q5 := st_lt q4 (dg_lt N 1)
    have q6 := st_lt q5 (dg_lt N 0)
    rw [show X5_turned_r 5 ^^^ nI (dg N 6) = nI (tbN 5 ^^^ dg N 6) from stM (c := 5) (by decide) (dg_lt N 6), stM q0 (dg_lt N 5), stM q1 (dg_lt N 4), stM q2 (dg_lt N 3), stM q3 (dg_lt N 2), stM q4 (dg_lt N 1), stM q5 (dg_lt N 0), tu_nI _ q6]
    rfl
  | 8, _ =>
    have t7 : ¬ nI (dg N 7) ≤ 0 := fun q => dg_top (c := 7) (Nat.lt_of_lt_of_le hN (by decide)) (h4.resolve_left (by decide)) ((le0 (dg_lt N 7)).mp q)
    rw [h1, chk_nI hN (by decide), if_neg t7]
    have q0 := st_lt (by decide : (5 : Nat) < 16) (dg_lt N 7)
    have q1 := st_lt q0 (dg_lt N 6)
    have q2 := st_lt q1 (dg_lt N 5)
    have q3 := st_lt q2 (dg_lt N 4)
    have q4 := st_lt q3 (dg_lt N 3)
    have q5 := st_lt q4 (dg_lt N 2)
    have q6 := st_lt q5 (dg_lt N 1)
    have q7 := st_lt q6 (dg_lt N 0)
    rw [show X5_turned_r 5 ^^^ nI (dg N 7) = nI (tbN 5 ^^^ dg N 7) from stM (c := 5) (by decide) (dg_lt N 7), stM q0 (dg_lt N 6), stM q1 (dg_lt N 5), stM q2 (dg_lt N 4), stM q3 (dg_lt N 3), stM q4 (dg_lt N 2), stM q5 (dg_lt N 1), stM q6 (dg_lt N 0), tu_nI _ q7]
    rfl
