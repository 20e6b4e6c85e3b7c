/-! Pure rows: a calibration, and a nibble's length. -/
theorem lN_sub_toInt {a b : Nat} (ha : a < 2 ^ 40) (hb : b < 2 ^ 40) : (lN a - lN b).toInt = (a : Int) - b := by
  rw [Int64.toInt_sub, pk_lT (by omega), pk_lT (by omega)]
  exact Int.bmod_eq_of_le (by omega) (by omega)
theorem lN_sub_neg {a b : Nat} (h : a < b) (hb : b < 2 ^ 40) : lN a - lN b < 0 := by
  rw [Int64.lt_iff_toInt_lt, lN_sub_toInt (by omega) hb]
  have : (0 : Int64).toInt = 0 := rfl
  omega
theorem lN_sub_npos {a b : Nat} (h : a < b) (hb : b < 2 ^ 40) : ¬ 0 < lN a - lN b := by
  rw [Int64.lt_iff_toInt_lt, lN_sub_toInt (by omega) hb]
  have : (0 : Int64).toInt = 0 := rfl
  omega
/-- the last calibration's length: none, or 56 to 56000 -/
def CalI (m : Nat) : Prop := m = 0 ∨ (56 ≤ m ∧ m ≤ 56000)
theorem fits_rng {t : Nat} {m : Nat} {len : Int64} (h : ¬ X4_isTaken_r (nI t) (lN m) len = 0) : ∃ n : Nat, len = lN n ∧ 56 ≤ n ∧ n ≤ 56000 := by
  rw [X4_isTaken_r] at h
  by_cases c1 : len < 56
  · rw [if_pos c1] at h; exact absurd rfl h
  · rw [if_neg c1] at h
    by_cases c2 : len ≤ 56000
    · have c0 : ¬ len < 0 := fun q => c1 (by
        rw [Int64.lt_iff_toInt_lt] at q ⊢
        have e0 : (0 : Int64).toInt = 0 := rfl
        have e1 : (56 : Int64).toInt = 56 := rfl
        omega)
      obtain ⟨n, hn, rfl⟩ := pk_lOf c0
      have d1 : ¬ n < 56 := fun q => c1 ((pk_lLT (a := n) (b := 56) hn (by omega)).mpr q)
      have d2 : n ≤ 56000 := (pk_lLE (a := n) (b := 56000) hn (by omega)).mp c2
      exact ⟨n, rfl, by omega, d2⟩
    · rw [if_neg c2] at h; exact absurd rfl h
theorem fits_eq {t m : Nat} (ht : 1 ≤ t ∧ t ≤ 30) (hm : CalI m) (len : Int64) : X4_isTaken_r (nI t) (lN m) len = X5_fits_r (lN t) (lN m) len := by
  rw [X4_isTaken_r, X5_fits_r]
  by_cases c1 : len < 56
  · rw [if_pos c1, if_pos c1]
  · rw [if_neg c1, if_neg c1]
    by_cases c2 : len ≤ 56000
    · rw [if_pos c2, if_pos c2]
      have c0 : ¬ len < 0 := fun q => c1 (by
        rw [Int64.lt_iff_toInt_lt] at q ⊢
        have e0 : (0 : Int64).toInt = 0 := rfl
        have e1 : (56 : Int64).toInt = 56 := rfl
        omega)
      obtain ⟨n, hn, rfl⟩ := pk_lOf c0
      have d2 : n ≤ 56000 := (pk_lLE (a := n) (b := 56000) hn (by omega)).mp c2
      have hm2 : m ≤ 56000 := by rcases hm with h | h <;> omega
      have ez : (lN m = 0) ↔ m = 0 := pk_lEQ (a := m) (b := 0) (by omega) (by omega)
      by_cases c3 : lN m = 0
      · rw [if_pos c3, if_pos c3, if_pos c3]
        by_cases c4 : lN m ≤ lN n
        · rw [if_pos c4]
        · rw [if_neg c4]
      · rw [if_neg c3, if_neg c3, if_neg c3, nI_l (by omega), lN_mul, lN_mul, Nat.mul_comm t m]
        by_cases c4 : lN m ≤ lN n
        · rw [if_pos c4]
          have d4 : m ≤ n := (pk_lLE (by omega) hn).mp c4
          rw [lN_sub d4]
          by_cases c5 : 0 < lN (n - m)
          · rw [if_pos c5, Int64.mul_comm]
          · have d5 : n - m = 0 := by
              have : ¬ 0 < n - m := fun q => c5 ((pk_lLT (a := 0) (b := n - m) (by omega) (by omega)).mpr q)
              omega
            rw [if_neg c5, d5]
            rfl
        · rw [if_neg c4]
          have d4 : n < m := by
            have : ¬ m ≤ n := fun q => c4 ((pk_lLE (a := m) (b := n) (by omega) hn).mpr q)
            omega
          rw [if_neg (lN_sub_npos d4 (by omega)), Int64.neg_sub, Int64.mul_comm]
    · rw [if_neg c2, if_neg c2]
theorem ed_cond {n m k : Nat} (hn : n ≤ 56000) (hm : m ≤ 56000) (hk : k ≤ 16) : (56 * lN n + lN m / 2 < (nI k + 13).toInt64 * lN m) ↔ 56 * n + m / 2 < (k + 13) * m := by
  have hx : (k + 13) * m ≤ 29 * 56000 := Nat.mul_le_mul (by omega) hm
  rw [show (56 : Int64) * lN n = lN (56 * n) from lN_mul 56 n, show lN m / 2 = lN (m / 2) from pk_lDiv (a := m) (b := 2) (by omega) (by decide) (by omega), lN_add, show nI k + 13 = nI (k + 13) from nI_add k 13, nI_l (by omega), lN_mul]
  exact pk_lLT (by omega) (by omega)
theorem ed_val {n m : Nat} (hn : n ≤ 56000) (hm : 56 ≤ m ∧ m ≤ 56000) : ∀ f k, f + k = 17 → k ≤ 16 → k ≤ (56 * n + m / 2) / m - 12 → ed_lp (lN n) (lN m) f k = min 16 ((56 * n + m / 2) / m - 12) := by
  intro f
  induction f with
  | zero => intro k h1 h2; omega
  | succ f ih =>
    intro k h1 h2 h3
    rw [ed_lp]
    by_cases c1 : 16 ≤ nI k
    · rw [if_pos c1]
      have : ¬ k < 16 := fun q => nI_ge (a := k) (b := 16) q (by decide) c1
      omega
    · rw [if_neg c1]
      have hk : k < 16 := nI_k16 h2 c1
      have c2 : ¬ 56000 < lN n := fun q => absurd ((pk_lLT (a := 56000) (b := n) (by omega) (by omega)).mp q) (by omega)
      rw [if_neg c2]
      have hd : (56 * n + m / 2 < (k + 13) * m) ↔ (56 * n + m / 2) / m < k + 13 := (Nat.div_lt_iff_lt_mul (by omega)).symm
      by_cases c3 : 56 * lN n + lN m / 2 < (nI k + 13).toInt64 * lN m
      · rw [if_pos c3]
        have := hd.mp ((ed_cond hn hm.2 h2).mp c3)
        omega
      · rw [if_neg c3]
        have : ¬ (56 * n + m / 2) / m < k + 13 := fun q => c3 ((ed_cond hn hm.2 h2).mpr (hd.mpr q))
        exact ih (k + 1) (by omega) (by omega) (by omega)
theorem nm1 : ∀ v, v < 16 → ¬ nI v = (-1) := by decide +kernel
/-- a nibble's length: both take it with one value, or both don't -/
theorem nib_eq {n m : Nat} (hn : 1 ≤ n ∧ n ≤ 1152921504606846976) (hm : 56 ≤ m ∧ m ≤ 56000) :
    (∃ v : Nat, v < 16 ∧ X4_nibbleOf_r (lN n) (lN m) = nI v ∧ ed_lp (lN n) (lN m) 17 0 = v ∧ ¬ 56000 < lN n ∧ ¬ 56 * lN n + lN m / 2 < 12 * lN m ∧ ¬ nI (ed_lp (lN n) (lN m) 17 0) = 16) ∨
    (X4_nibbleOf_r (lN n) (lN m) = (-1) ∧ (56000 < lN n ∨ (¬ 56000 < lN n ∧ 56 * lN n + lN m / 2 < 12 * lN m) ∨ (¬ 56000 < lN n ∧ ¬ 56 * lN n + lN m / 2 < 12 * lN m ∧ nI (ed_lp (lN n) (lN m) 17 0) = 16))) := by
  have hp : ¬ lN m ≤ 0 := fun q => absurd ((pk_lLE (a := m) (b := 0) (by omega) (by omega)).mp q) (by omega)
  have i1 : (56000 < lN n) ↔ 56000 < n := pk_lLT (a := 56000) (b := n) (by omega) (by omega)
  have i2 : (lN n < lN m) ↔ n < m := pk_lLT (by omega) (by omega)
  by_cases c1 : 56000 < n
  · right
    refine ⟨?_, Or.inl (i1.mpr c1)⟩
    rw [X4_nibbleOf_r, if_neg hp, if_neg (fun q => absurd (i2.mp q) (by omega))]
  · have n1 : ¬ 56000 < lN n := fun q => c1 (i1.mp q)
    have hx : 56 * lN n + lN m / 2 = lN (56 * n + m / 2) := by
      rw [show (56 : Int64) * lN n = lN (56 * n) from lN_mul 56 n, show lN m / 2 = lN (m / 2) from pk_lDiv (a := m) (b := 2) (by omega) (by decide) (by omega), lN_add]
    have i3 : (56 * lN n + lN m / 2 < 12 * lN m) ↔ (56 * n + m / 2) / m < 12 := by
      rw [hx, show (12 : Int64) * lN m = lN (12 * m) from lN_mul 12 m, pk_lLT (by omega) (by omega), Nat.div_lt_iff_lt_mul (by omega)]
    have hv := ed_val (n := n) (m := m) (by omega) hm 17 0 (by omega) (by omega) (by omega)
    have i4 : (nI (ed_lp (lN n) (lN m) 17 0) = 16) ↔ 28 ≤ (56 * n + m / 2) / m := by
      rw [hv, show (nI (min 16 ((56 * n + m / 2) / m - 12)) = 16) ↔ min 16 ((56 * n + m / 2) / m - 12) = 16 from nI_eq (b := 16) (by omega) (by omega)]
      omega
    have hq : lN (56 * n + m / 2) / lN m = lN ((56 * n + m / 2) / m) := pk_lDiv (by omega) (by omega) (by omega)
    have hqs : (56 * n + m / 2) / m < 2 ^ 30 := Nat.lt_of_le_of_lt (Nat.div_le_self _ _) (by omega)
    by_cases c2 : n < m
    · have e1 : X4_nibbleOf_r (lN n) (lN m) = if lN ((56 * n + m / 2) / m) - 12 < 0 then (-1) else (if lN ((56 * n + m / 2) / m) - 12 ≤ 15 then (lN ((56 * n + m / 2) / m) - 12).toInt32 else (-1)) := by
        rw [X4_nibbleOf_r, if_neg hp, if_pos (i2.mpr c2), hx, hq]
      generalize (56 * n + m / 2) / m = Q at *
      by_cases c3 : Q < 12
      · right
        refine ⟨?_, Or.inr (Or.inl ⟨n1, i3.mpr c3⟩)⟩
        rw [e1, if_pos (show lN Q - 12 < 0 from lN_sub_neg (a := Q) (b := 12) c3 (by omega))]
      · have n3 : ¬ 56 * lN n + lN m / 2 < 12 * lN m := fun q => c3 (i3.mp q)
        have e2 : lN Q - 12 = lN (Q - 12) := lN_sub (a := Q) (b := 12) (by omega)
        rw [e2, if_neg (lN_nn (by omega))] at e1
        by_cases c4 : 28 ≤ Q
        · right
          refine ⟨?_, Or.inr (Or.inr ⟨n1, n3, i4.mpr c4⟩)⟩
          rw [e1, if_neg (show ¬ lN (Q - 12) ≤ 15 from fun q => absurd ((pk_lLE (a := Q - 12) (b := 15) (by omega) (by omega)).mp q) (by omega))]
        · left
          refine ⟨Q - 12, by omega, ?_, by rw [hv]; omega, n1, n3, fun q => c4 (i4.mp q)⟩
          rw [e1, if_pos (show lN (Q - 12) ≤ 15 from (pk_lLE (a := Q - 12) (b := 15) (by omega) (by omega)).mpr (by omega)), lN_i]
    · right
      have hQ : 56 ≤ (56 * n + m / 2) / m := (Nat.le_div_iff_mul_le (by omega)).mpr (by
        have : 56 * m ≤ 56 * n := Nat.mul_le_mul_left 56 (by omega)
        omega)
      refine ⟨?_, Or.inr (Or.inr ⟨n1, fun q => absurd (i3.mp q) (by omega), i4.mpr (by omega)⟩)⟩
      rw [X4_nibbleOf_r, if_neg hp, if_neg (fun q => c2 (i2.mp q))]
/-- calibrate -/
theorem cal_eq {t m : Nat} (ht : 1 ≤ t ∧ t ≤ 30) (hm : CalI m) (len : Int64) : X4_calibrate_r (nI t) (lN m) len = X5_calibrate_r (lN t) (lN m) len ∧ X4_calibrate_t len = X5_calibrate_code len := by
  constructor
  · rw [X4_calibrate_r, X5_calibrate_r, fits_eq ht hm]
  · rw [X4_calibrate_t, X5_calibrate_code]
