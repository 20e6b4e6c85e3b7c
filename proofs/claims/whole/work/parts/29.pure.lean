/-! Pure rows: what the law's loop keeps. -/
theorem turn_all {j : Nat} {cnt str mk ta tbk sp pa pb : Int32} (hI : FI j str mk) (hj : j ≤ 520) (h1 : z01 ta) (h2 : z01 tbk) (h3 : z01 pa) (h4 : z01 pb) : X4_turn_r ta tbk sp pa pb = X5_turn_r ta tbk sp pa pb ∧ X5_turn_faults cnt ta tbk pa pb = X4_turn_count cnt ta tbk pa pb ∧ X5_turn_behind str ta tbk pa pb = X4_turn_streak str ta tbk pa pb ∧ X5_turn_marked str mk ta tbk pa pb = X4_turn_mark str mk ta tbk pa pb ∧ X5_turn_first pa = X4_turn_trackA pa ∧ X5_turn_second pb = X4_turn_trackB pb ∧ X5_turn_steps ta tbk sp pa pb = X4_turn_steps ta tbk sp pa pb ∧ FI (j + 1) (X4_turn_streak str ta tbk pa pb) (X4_turn_mark str mk ta tbk pa pb) := by
  obtain ⟨e1, e2, e3⟩ := turn_eq (sp := sp) h1 h2 h3 h4
  obtain ⟨a1, a2⟩ := hI.add (by omega)
  by_cases c : X3_moveTo_r ta tbk pa pb = 0
  · have c5 := e3.mp c
    refine ⟨e1, ?_, ?_, ?_, rfl, rfl, e2.symm, ?_⟩
    · rw [X5_turn_faults, X4_turn_count, if_pos c, if_pos c5]; rfl
    · rw [X5_turn_behind, X4_turn_streak, if_pos c, if_pos c5]; rfl
    · rw [X5_turn_marked, X4_turn_mark, if_pos c, if_pos c5]; exact a1.symm
    · rw [X4_turn_streak, X4_turn_mark, if_pos c, if_pos c]; exact a2
  · have c5 : ¬ ((X5_place_r pa pb) - (X5_place_r ta tbk)) &&& 3 = 2 := fun q => c (e3.mpr q)
    refine ⟨e1, ?_, ?_, ?_, rfl, rfl, e2.symm, ?_⟩
    · rw [X5_turn_faults, X4_turn_count, if_neg c, if_neg c5]
    · rw [X5_turn_behind, X4_turn_streak, if_neg c, if_neg c5]
    · rw [X5_turn_marked, X4_turn_mark, if_neg c, if_neg c5]
    · rw [X4_turn_streak, X4_turn_mark, if_neg c, if_neg c]; exact hI.mono (by omega)
section RLS
variable {j : Nat} {tol fc : Int32} {le cal : Int64} {inf nib nc str mk mcn bts bc : Int32} {mf ff : Nat → Int32} {tl : Int64} {ed : Int32} {eg : Int64} {aw sm : Int32} {nwf laf stf daf rif btf mef : Nat → Int32}
theorem RLX.mono (h : RLX j tol fc le cal inf nib nc str mk mcn bts bc mf ff tl ed eg aw sm nwf laf stf daf rif btf mef) : RLX (j + 1) tol fc le cal inf nib nc str mk mcn bts bc mf ff tl ed eg aw sm nwf laf stf daf rif btf mef := by
  obtain ⟨t, k, m, h1, h2, h3, h4, h5, h6, h7, h8, h9, h10⟩ := h
  exact ⟨t, k, m, h1, h2, h3, h4, h5, h6, h7.mono, h8, h9, h10.mono (by omega)⟩
theorem RLX.marks {str' mk' : Int32} (h : RLX j tol fc le cal inf nib nc str mk mcn bts bc mf ff tl ed eg aw sm nwf laf stf daf rif btf mef) (hI : FI (j + 1) str' mk') : RLX (j + 1) tol fc le cal inf nib nc str' mk' mcn bts bc mf ff tl ed eg aw sm nwf laf stf daf rif btf mef := by
  obtain ⟨t, k, m, h1, h2, h3, h4, h5, h6, h7, h8, h9, h10⟩ := h
  exact ⟨t, k, m, h1, h2, h3, h4, h5, h6, h7.mono, h8, h9, hI⟩
theorem RLX.FI (h : RLX j tol fc le cal inf nib nc str mk mcn bts bc mf ff tl ed eg aw sm nwf laf stf daf rif btf mef) : FI j str mk := by
  obtain ⟨t, k, m, h1, h2, h3, h4, h5, h6, h7, h8, h9, h10⟩ := h
  exact h10
theorem RLX.hyps (h : RLX j tol fc le cal inf nib nc str mk mcn bts bc mf ff tl ed eg aw sm nwf laf stf daf rif btf mef) (hj : j ≤ 520) : ¬ fc < 0 ∧ ¬ mcn < 0 ∧ ¬ 8 ≤ aw ∧ ¬ bc < 0 ∧ ¬ 16 ≤ bc ∧ ¬ mcn < 0 ∧ ¬ 520 ≤ mcn ∧ ¬ fc < 0 ∧ ¬ 520 ≤ fc ∧ ¬ 520 < mcn ∧ ¬ 520 < fc ∧ z01 mk := by
  obtain ⟨t, k, m, rfl, rfl, ht, rfl, rfl, hm, hE, hF, ⟨b, q, v, rfl, hb, hv, rfl, rfl, hq, hmm⟩, ⟨s, rfl, hs, hz, -⟩⟩ := h
  have hk : k ≤ 60 := by have := hE.1; omega
  have haw : ¬ 8 ≤ aw := by
    obtain ⟨-, ⟨-, -, -, -, rfl, -⟩ | ⟨-, e, -, -, -, ⟨-, rfl⟩ | ⟨-, a, w, ha, rfl, -⟩⟩⟩ := hE
    · decide
    · decide
    · exact nI_ge (a := a) (b := 8) ha (by decide)
  refine ⟨nI_pos (by omega), nI_pos (by omega), haw, nI_pos (by omega), nI_ge (a := b) (b := 16) hb (by decide), nI_pos (by omega), nI_ge (a := q) (b := 520) (by omega) (by decide), nI_pos (by omega), nI_ge (a := k) (b := 520) (by omega) (by decide), ?_, ?_, hz⟩
  · exact nI_nlt (a := 520) (b := q) (by omega) (by decide)
  · exact nI_nlt (a := 520) (b := k) (by omega) (by decide)
theorem RLX.reads (h : RLX j tol fc le cal inf nib nc str mk mcn bts bc mf ff tl ed eg aw sm nwf laf stf daf rif btf mef) (hj : j ≤ 520) : (∀ ix, X4_nibble_t fc ix = X5_nibble_code sm ix ∧ (X4_nibble_t fc ix = 0 → X4_nibble_r fc ff ix = X5_nibble_r sm laf ix)) ∧ (∀ ix, X4_slow_r mcn mf ix = X5_slow_r mcn mef ix) ∧ (∀ ix wt, X4_row_r fc ff ix wt = X5_row_r fc stf daf rif ix wt) ∧ (∀ len, X4_calibrate_r tol cal len = X5_calibrate_r tl cal len ∧ X4_calibrate_t len = X5_calibrate_code len) := by
  obtain ⟨t, k, m, rfl, rfl, ht, rfl, rfl, hm, hE, hF, ⟨b, q, v, rfl, hb, hv, rfl, rfl, hq, hmm⟩, hI⟩ := h
  have hk : k ≤ 60 := by have := hE.1; omega
  exact ⟨fun ix => nibble_eq hk hF ix, fun ix => slow_eq (by omega) hmm ix, fun ix wt => row_eq hk hF ix wt, fun len => cal_eq ht hm len⟩
end RLS
theorem tsw10 {x : Int32} (h0 : ¬ x = 0) (h1 : ¬ x = 1) (h2 : ¬ x = 2) (h3 : ¬ x = 3) (h4 : ¬ x = 4) (h5 : ¬ x = 5) (h6 : ¬ x = 6) (h7 : ¬ x = 7) (h8 : ¬ x = 8) (h9 : ¬ x = 9) (h10 : ¬ x = 10) : x.toInt < 0 ∨ 10 < x.toInt := by
  rw [← Int32.toInt_inj] at h0 h1 h2 h3 h4 h5 h6 h7 h8 h9 h10
  have e0 : (0 : Int32).toInt = 0 := rfl
  have e1 : (1 : Int32).toInt = 1 := rfl
  have e2 : (2 : Int32).toInt = 2 := rfl
  have e3 : (3 : Int32).toInt = 3 := rfl
  have e4 : (4 : Int32).toInt = 4 := rfl
  have e5 : (5 : Int32).toInt = 5 := rfl
  have e6 : (6 : Int32).toInt = 6 := rfl
  have e7 : (7 : Int32).toInt = 7 := rfl
  have e8 : (8 : Int32).toInt = 8 := rfl
  have e9 : (9 : Int32).toInt = 9 := rfl
  have e10 : (10 : Int32).toInt = 10 := rfl
  omega
theorem law_go {L j : Nat} {x4 : Int32} (hx : x4 = nI (1 + 4 * j)) (hL : L ≤ 2049) (hj : j ≤ 512) (h : ¬ Int32.ofNat L - 4 < x4) : 4 * j + 5 ≤ L := by
  have e := pk_sub_toInt (a := L) (b := 4) (by omega) (by omega)
  rw [hx, Int32.lt_iff_toInt_lt, show Int32.ofNat L - 4 = nI L - nI 4 from rfl, e, nI_toInt (by omega)] at h
  omega
theorem law_ix {L j : Nat} {x4 : Int32} (hx : x4 = nI (1 + 4 * j)) (hL : L ≤ 2049) (h : 4 * j + 5 ≤ L) : vp_in x4 L ∧ vp_in (x4 + 1) L ∧ vp_in (x4 + 2) L ∧ vp_in (x4 + 3) L := by
  rw [hx, show nI (1 + 4 * j) + 1 = nI (1 + 4 * j + 1) from nI_add _ 1, show nI (1 + 4 * j) + 2 = nI (1 + 4 * j + 2) from nI_add _ 2, show nI (1 + 4 * j) + 3 = nI (1 + 4 * j + 3) from nI_add _ 3]
  exact ⟨vp_in_nI (by omega) (by omega), vp_in_nI (by omega) (by omega), vp_in_nI (by omega) (by omega), vp_in_nI (by omega) (by omega)⟩
theorem law_x4 {j : Nat} {x4 : Int32} (hx : x4 = nI (1 + 4 * j)) : x4 + 4 = nI (1 + 4 * (j + 1)) := by
  rw [hx, show nI (1 + 4 * j) + 4 = nI (1 + 4 * j + 4) from nI_add _ 4]
  exact congrArg nI (by omega)
