/-! Pure rows: nibble, slow, row. -/
theorem ix_of {x : Int32} {k : Nat} (h0 : ¬ x < 0) (h1 : x < nI k) (hk : k < 2 ^ 31) : ∃ i : Nat, i < k ∧ x = nI i := by
  obtain ⟨i, hi, rfl⟩ := nI_of h0
  exact ⟨i, (nI_ltI hi hk).mp h1, rfl⟩
theorem has_k {k : Nat} (hk : k ≤ 60) : X4_hasFrame_r (nI k) (nI k - 1) = if k = 0 then 0 else 1 := by
  rcases k with _ | k
  · rw [X4_hasFrame_r, if_pos (by decide), if_pos rfl]
  · rw [nI_pred, X4_hasFrame_r, if_neg (nI_pos (by omega)), if_neg (nI_ge (a := k) (b := k + 1) (by omega) (by omega)), if_neg (show ¬ 64 ≤ nI k from nI_ge (a := k) (b := 64) (by omega) (by decide)), if_neg (by omega)]
theorem nibble_eq {k : Nat} (hk : k ≤ 60) {ff stf daf rif : Nat → Int32} {sm : Int32} {laf : Nat → Int32} (h : FRM k ff stf daf rif sm laf) (ix : Int32) : X4_nibble_t (nI k) ix = X5_nibble_code sm ix ∧ (X4_nibble_t (nI k) ix = 0 → X4_nibble_r (nI k) ff ix = X5_nibble_r sm laf ix) := by
  obtain ⟨h1, h2, h3⟩ := h
  have hh := has_k hk
  have n10 : ¬ (1 : Int32) = 0 := by decide
  by_cases c0 : k = 0
  · subst c0
    rw [if_pos rfl] at hh
    have hs := h2 rfl
    subst hs
    rw [X4_nibble_t, X5_nibble_code, if_pos hh, if_pos rfl]
    constructor
    · by_cases c1 : ix < 0
      · rw [if_pos c1]
      · rw [if_neg c1]
        by_cases c2 : 8 ≤ ix
        · rw [if_pos c2]
        · rw [if_neg c2]
    · intro q
      exfalso
      revert q
      by_cases c1 : ix < 0
      · rw [if_pos c1]; exact n10
      · rw [if_neg c1]
        by_cases c2 : 8 ≤ ix
        · rw [if_pos c2]; exact n10
        · rw [if_neg c2]; exact n10
  · rw [if_neg c0] at hh
    obtain ⟨rfl, h5⟩ := h3 (by omega)
    have hn : ¬ X4_hasFrame_r (nI k) (nI k - 1) = 0 := by rw [hh]; exact n10
    have e87 : (8 ≤ ix) ↔ ¬ ix ≤ 7 := by
      rw [Int32.le_iff_toInt_le, Int32.le_iff_toInt_le]
      have a : (8 : Int32).toInt = 8 := rfl
      have b : (7 : Int32).toInt = 7 := rfl
      omega
    by_cases c1 : ix < 0
    · refine ⟨?_, fun q => ?_⟩
      · rw [X4_nibble_t, X5_nibble_code, if_pos c1, if_neg n10, if_pos c1]
      · rw [X4_nibble_t, if_pos c1] at q; exact absurd q n10
    · by_cases c2 : ix ≤ 7
      · have c3 : ¬ 8 ≤ ix := fun q => e87.mp q c2
        refine ⟨?_, fun _ => ?_⟩
        · rw [X4_nibble_t, X5_nibble_code, if_neg c1, if_neg n10, if_neg c1, if_pos c2, if_neg c3, if_neg hn]
        · obtain ⟨i, hi, rfl⟩ := nI_of2 (n := 7) rfl c1 c2
          rw [X4_nibble_r, X5_nibble_r, if_neg c1, if_neg n10, if_neg c1, if_pos c2, if_neg c3, if_neg hn, nI_clamp (by omega), h5 i (by omega)]
          obtain ⟨k', rfl⟩ : ∃ k', k = k' + 1 := ⟨k - 1, by omega⟩
          rw [nI_pred, nI_clamp (by omega), show k' + 1 - 1 = k' by omega]
      · have c3 : 8 ≤ ix := e87.mpr c2
        refine ⟨?_, fun q => ?_⟩
        · rw [X4_nibble_t, X5_nibble_code, if_neg c1, if_neg n10, if_neg c1, if_neg c2, if_pos c3]
        · rw [X4_nibble_t, if_neg c1, if_pos c3] at q; exact absurd q n10
theorem slow_eq {q : Nat} (hq : q ≤ 4) {mf mef : Nat → Int32} (h : ∀ i, i < q → mf i = mef i) (ix : Int32) : X4_slow_r (nI q) mf ix = X5_slow_r (nI q) mef ix := by
  rw [X4_slow_r, X5_slow_r]
  by_cases c0 : ix = (-1)
  · rw [if_pos c0, if_pos c0, X2_size_r]
  · rw [if_neg c0, if_neg c0, X2_messageAt_r]
    by_cases c1 : ix < 0
    · rw [if_pos c1, if_pos c1]
    · rw [if_neg c1, if_neg c1]
      by_cases c2 : ix < nI q
      · obtain ⟨i, hi, rfl⟩ := ix_of c1 c2 (by omega)
        rw [if_pos c2, if_neg (nI_ge (a := i) (b := q) hi (by omega)), if_neg (show ¬ 4 ≤ nI i from nI_ge (a := i) (b := 4) (by omega) (by decide)), nI_clamp (by omega), h i hi]
      · rw [if_neg c2, if_pos (Int32.not_lt.mp c2)]
theorem row_eq {k : Nat} (hk : k ≤ 60) {ff stf daf rif : Nat → Int32} {sm : Int32} {laf : Nat → Int32} (h : FRM k ff stf daf rif sm laf) (ix wt : Int32) : X4_row_r (nI k) ff ix wt = X5_row_r (nI k) stf daf rif ix wt := by
  obtain ⟨h1, -, -⟩ := h
  have n10 : ¬ (1 : Int32) = 0 := by decide
  rw [X4_row_r, X5_row_r]
  by_cases c0 : ix = (-1)
  · subst c0
    rw [if_pos rfl, if_pos rfl]
    by_cases c1 : wt = 0
    · rw [if_pos c1, if_pos c1]
    · have c2 : X4_hasFrame_r (nI k) (-1) = 0 := by rw [X4_hasFrame_r, if_pos (by decide)]
      rw [if_neg c1, if_neg c1, if_pos c2, if_pos (show (-1 : Int32) < 0 by decide)]
  · rw [if_neg c0, if_neg c0]
    by_cases c1 : ix < 0
    · have c2 : X4_hasFrame_r (nI k) ix = 0 := by rw [X4_hasFrame_r, if_pos c1]
      rw [if_pos c2, if_pos c1]
    · by_cases c3 : ix < nI k
      · obtain ⟨i, hi, rfl⟩ := ix_of c1 c3 (by omega)
        have c2 : ¬ X4_hasFrame_r (nI k) (nI i) = 0 := by
          rw [X4_hasFrame_r, if_neg c1, if_neg (nI_ge (a := i) (b := k) hi (by omega)), if_neg (show ¬ 64 ≤ nI i from nI_ge (a := i) (b := 64) (by omega) (by decide))]
          exact n10
        obtain ⟨e1, e2, e3⟩ := h1 i hi
        rw [if_neg c2, if_neg c1, if_pos c3, nI_clamp (by omega), e1, e2, e3]
        by_cases w0 : wt = 0
        · rw [if_pos w0, w0, if_neg (show ¬ (0 : Int32) < 0 by decide), if_pos (show (0 : Int32) ≤ 2 by decide), if_pos rfl]
        · by_cases w1 : wt = 1
          · rw [if_neg w0, if_pos w1, w1, if_neg (show ¬ (1 : Int32) < 0 by decide), if_pos (show (1 : Int32) ≤ 2 by decide), if_neg n10, if_pos rfl]
          · by_cases w2 : wt = 2
            · rw [if_neg w0, if_neg w1, if_pos w2, w2, if_neg (show ¬ (2 : Int32) < 0 by decide), if_pos (show (2 : Int32) ≤ 2 by decide), if_neg (show ¬ (2 : Int32) = 0 by decide), if_neg (show ¬ (2 : Int32) = 1 by decide)]
            · rw [if_neg w0, if_neg w1, if_neg w2]
              rcases tsw2 w0 w1 w2 with z | z
              · have z1 : wt < 0 := by
                  rw [Int32.lt_iff_toInt_lt]
                  have a : (0 : Int32).toInt = 0 := rfl
                  omega
                rw [if_pos z1]
              · have z1 : ¬ wt < 0 := by
                  rw [Int32.lt_iff_toInt_lt]
                  have a : (0 : Int32).toInt = 0 := rfl
                  omega
                have z2 : ¬ wt ≤ 2 := by
                  rw [Int32.le_iff_toInt_le]
                  have a : (2 : Int32).toInt = 2 := rfl
                  omega
                rw [if_neg z1, if_neg z2]
      · have c2 : X4_hasFrame_r (nI k) ix = 0 := by rw [X4_hasFrame_r, if_neg c1, if_pos (Int32.not_lt.mp c3)]
        rw [if_pos c2, if_neg c1, if_neg c3]
