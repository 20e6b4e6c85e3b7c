/-! Pure rows: faults, wheel, switch: the class's answers and its twin's. -/
theorem nI_lt' {a : Nat} (b : Nat) (ha : a < 2 ^ 31) (hb : b < 2 ^ 31) : (nI a < nI b) ↔ a < b := nI_ltI ha hb
/-- the faults in a row, s of them, and the mark -/
def FI (j : Nat) (str mk : Int32) : Prop := ∃ s : Nat, str = nI s ∧ s ≤ j ∧ z01 mk ∧ (3 ≤ s → mk = 1)
theorem FI.mono {j k : Nat} {str mk : Int32} (h : FI j str mk) (hk : j ≤ k) : FI k str mk := by
  obtain ⟨s, h1, h2, h3, h4⟩ := h
  exact ⟨s, h1, by omega, h3, h4⟩
theorem FI.zero {j : Nat} {str mk : Int32} (h : FI j str mk) : FI j 0 mk := by
  obtain ⟨s, h1, h2, h3, h4⟩ := h
  exact ⟨0, nI_0.symm, by omega, h3, fun h => absurd h (by omega)⟩
theorem FI.add {j : Nat} {str mk : Int32} (h : FI j str mk) (hj : j ≤ 2000) : X1_add_mark str mk = X5_fault_marked str mk ∧ FI (j + 1) (X1_add_streak str) (X1_add_mark str mk) := by
  obtain ⟨s, rfl, h2, h3, h4⟩ := h
  have e3 : (nI (s + 1) < 3) ↔ s + 1 < 3 := nI_ltI (a := s + 1) (b := 3) (by omega) (by omega)
  have e4 : (nI (s + 1) = 3) ↔ s + 1 = 3 := nI_eq (a := s + 1) (b := 3) (by omega) (by omega)
  have hm : X1_add_mark (nI s) mk = if s + 1 < 3 then mk else 1 := by
    rw [X1_add_mark, nI_1]
    by_cases c : s + 1 < 3
    · rw [if_pos (e3.mpr c), if_pos c]
    · rw [if_neg (fun q => c (e3.mp q)), if_neg c]
  have hm5 : X5_fault_marked (nI s) mk = if mk = 0 then (if s + 1 = 3 then 1 else 0) else 1 := by
    rw [X5_fault_marked, nI_1]
    by_cases c : s + 1 = 3
    · rw [if_pos (e4.mpr c), if_pos c]
    · rw [if_neg (fun q => c (e4.mp q)), if_neg c]
  constructor
  · rw [hm, hm5]
    rcases h3 with rfl | rfl
    · have : ¬ 3 ≤ s := fun q => absurd (h4 q) (by decide)
      rw [if_pos rfl]
      by_cases c : s + 1 < 3
      · rw [if_pos c, if_neg (by omega)]
      · rw [if_neg c, if_pos (by omega)]
    · rw [if_neg (by decide : ¬ (1 : Int32) = 0)]
      by_cases c : s + 1 < 3
      · rw [if_pos c]
      · rw [if_neg c]
  · refine ⟨s + 1, by rw [X1_add_streak, nI_1], by omega, ?_, ?_⟩
    · rw [hm]
      by_cases c : s + 1 < 3
      · rw [if_pos c]; exact h3
      · rw [if_neg c]; exact z01_1
    · intro q
      rw [hm, if_neg (by omega)]
theorem fault_cnt (c : Int32) : X1_add_count c = X5_fault_faults c := rfl
theorem fault_str (c : Int32) : X1_add_streak c = X5_fault_behind c := rfl
/-- the wheel -/
theorem turn_eq {ta tbk sp pa pb : Int32} (h1 : z01 ta) (h2 : z01 tbk) (h3 : z01 pa) (h4 : z01 pb) : X4_turn_r ta tbk sp pa pb = X5_turn_r ta tbk sp pa pb ∧ X4_turn_steps ta tbk sp pa pb = X5_turn_steps ta tbk sp pa pb ∧ (X3_moveTo_r ta tbk pa pb = 0 ↔ ((X5_place_r pa pb) - (X5_place_r ta tbk)) &&& 3 = 2) := by
  have e1 : sp + (-1) = sp - 1 := (Int32.sub_eq_add_neg sp 1).symm
  rcases h1 with rfl | rfl <;> rcases h2 with rfl | rfl <;> rcases h3 with rfl | rfl <;> rcases h4 with rfl | rfl <;>
    refine ⟨?_, ?_, by decide⟩ <;>
    simp [X4_turn_r, X4_turn_steps, X3_position_r, X3_moveTo_steps, X5_turn_r, X5_turn_steps, X5_place_r, e1, show (1 : Int32) &&& 3 = 1 from by decide, show (2 : Int32) &&& 3 = 2 from by decide, show (3 : Int32) &&& 3 = 3 from by decide, show (-1 : Int32) &&& 3 = 3 from by decide, show (-2 : Int32) &&& 3 = 2 from by decide, show (-3 : Int32) &&& 3 = 1 from by decide]
/-- the switch -/
theorem lN_neg {t : Int64} {n : Nat} (h : t < 0) (hn : n < 2 ^ 63) : t < lN n := by
  rw [Int64.lt_iff_toInt_lt] at h ⊢
  rw [pk_lT hn]
  have : (0 : Int64).toInt = 0 := rfl
  omega
theorem out_neg {t : Int64} (h : t < 0) : X4_isOutsideTime_r t = 1 := by rw [X4_isOutsideTime_r, if_pos h]
theorem lN_nn {n : Nat} (h : n < 2 ^ 63) : ¬ lN n < 0 := by
  rw [Int64.lt_iff_toInt_lt, pk_lT h]
  have : (0 : Int64).toInt = 0 := rfl
  omega
theorem lN_top {n : Nat} (h : n < 2 ^ 63) : (lN n ≤ 1152921504606846976) ↔ n ≤ 1152921504606846976 := pk_lLE (a := n) (b := 1152921504606846976) h (by omega)
theorem lN_topg {n : Nat} (h : n < 2 ^ 63) : (1152921504606846976 < lN n) ↔ 1152921504606846976 < n := pk_lLT (a := 1152921504606846976) (b := n) (by omega) h
theorem out_lN {n : Nat} (h : n < 2 ^ 63) : X4_isOutsideTime_r (lN n) = if n ≤ 1152921504606846976 then 0 else 1 := by
  rw [X4_isOutsideTime_r, if_neg (lN_nn h)]
  by_cases c : n ≤ 1152921504606846976
  · rw [if_pos ((lN_top h).mpr c), if_pos c]
  · rw [if_neg (fun q => c ((lN_top h).mp q)), if_neg c]
def BI (snc tld : Int64) : Prop := ∃ a b : Nat, snc = lN a ∧ tld = lN b ∧ a ≤ b ∧ b ≤ 1152921504606846976
set_option maxHeartbeats 1000000 in
theorem bounce_eq {sta lvl lev : Int32} {snc tld tm : Int64} (h : BI snc tld) (hl : z01 lev) : X4_bounce_r sta lvl snc tld lev tm = X5_bounce_r sta lvl snc tld lev tm ∧ X4_bounce_state sta lvl snc tld lev tm = X5_bounce_state sta lvl snc tld lev tm ∧ X4_bounce_lastLevel lvl tld lev tm = X5_bounce_level lvl tld lev tm ∧ X4_bounce_levelSince lvl snc tld lev tm = X5_bounce_since lvl snc tld lev tm ∧ X4_bounce_toldLast tld tm = X5_bounce_told tld tm ∧ BI (X4_bounce_levelSince lvl snc tld lev tm) (X4_bounce_toldLast tld tm) := by
  obtain ⟨a, b, rfl, rfl, hab, hb⟩ := h
  by_cases c : tm < 0
  · have e1 := out_neg c
    have e2 : tm < lN b := lN_neg c (by omega)
    have n1 : ¬ X4_isOutsideTime_r tm = 0 := by rw [e1]; decide
    refine ⟨?_, ?_, ?_, ?_, ?_, ?_⟩
    · rw [X4_bounce_r, X5_bounce_r, if_neg n1, if_pos e2]
    · rw [X4_bounce_state, X5_bounce_state, if_neg n1, if_pos e2]
    · rw [X4_bounce_lastLevel, X5_bounce_level, if_neg n1, if_pos e2]
    · rw [X4_bounce_levelSince, X5_bounce_since, if_neg n1, if_pos e2]
    · rw [X4_bounce_toldLast, X5_bounce_told, if_neg n1, if_pos e2]
    · rw [X4_bounce_levelSince, X4_bounce_toldLast, if_neg n1, if_neg n1]
      exact ⟨a, b, rfl, rfl, hab, hb⟩
  · obtain ⟨n, hn, rfl⟩ := pk_lOf c
    have eo := out_lN hn
    by_cases c1 : n ≤ 1152921504606846976
    · rw [if_pos c1] at eo
      have p1 : lN n ≤ 1152921504606846976 := (lN_top hn).mpr c1
      by_cases c2 : b ≤ n
      · have p2 : lN b ≤ lN n := (pk_lLE (by omega) hn).mpr c2
        have p3 : ¬ lN n < lN b := fun q => absurd ((pk_lLT hn (by omega)).mp q) (by omega)
        have q1 : (10 ≤ lN n - lN a) ↔ ¬ lN n < lN a + 10 := by
          rw [lN_sub (by omega), show (lN a + 10 : Int64) = lN (a + 10) from lN_add a 10]
          rw [show (10 ≤ lN (n - a)) ↔ 10 ≤ n - a from pk_lLE (a := 10) (b := n - a) (by omega) (by omega), pk_lLT hn (by omega)]
          omega
        have q2 : ¬ 10 ≤ lN n - lN n := by
          rw [lN_sub (Nat.le_refl n), Nat.sub_self]; decide
        have q3 : lN n < lN n + 10 := by
          rw [show (lN n + 10 : Int64) = lN (n + 10) from lN_add n 10, pk_lLT hn (by omega)]; omega
        have u1 : ∀ x : Int32, (if lN n < lN a + 10 then x else lev) = if 10 ≤ lN n - lN a then lev else x := by
          intro x
          by_cases z : lN n < lN a + 10
          · rw [if_pos z, if_neg (fun w => q1.mp w z)]
          · rw [if_neg z, if_pos (q1.mpr z)]
        refine ⟨?_, ?_, ?_, ?_, ?_, ?_⟩
        · rw [X4_bounce_r, X5_bounce_r, if_pos eo, if_neg p3, if_pos p1, X0_lastTime_r, if_pos p2, X0_tell_r]
          by_cases d1 : lev = lvl
          · rw [if_pos d1, if_pos d1]
            by_cases d2 : lev = sta
            · rw [if_pos d2, if_pos d2, if_pos rfl]
            · rw [if_neg d2, if_neg d2]
              by_cases z : lN n < lN a + 10
              · rw [if_pos z, if_neg (fun w => q1.mp w z), if_pos rfl]
              · rw [if_neg z, if_pos (q1.mpr z), if_neg (by decide)]
          · rw [if_neg d1, if_neg d1]
            by_cases d2 : lev = sta
            · rw [if_pos d2, if_pos d2, if_pos rfl]
            · rw [if_neg d2, if_neg d2, if_pos q3, if_neg q2, if_pos rfl]
        · rw [X4_bounce_state, X5_bounce_state, if_pos eo, if_neg p3, if_pos p1, X0_lastTime_r, if_pos p2, X0_tell_state, u1, if_pos q3, if_neg q2]
        · rw [X4_bounce_lastLevel, X5_bounce_level, if_pos eo, if_neg p3, if_pos p1, X0_lastTime_r, if_pos p2, X0_tell_lastLevel]
          by_cases d1 : lev = lvl
          · rw [if_pos d1, d1]
          · rw [if_neg d1]
        · rw [X4_bounce_levelSince, X5_bounce_since, if_pos eo, if_neg p3, if_pos p1, X0_lastTime_r, if_pos p2, X0_tell_levelSince]
        · rw [X4_bounce_toldLast, X5_bounce_told, if_pos eo, if_neg p3, if_pos p1, X0_lastTime_r, if_pos p2, X0_tell_toldLast]
        · rw [X4_bounce_levelSince, X4_bounce_toldLast, if_pos eo, if_pos eo, X0_lastTime_r, if_pos p2, if_pos p2, X0_tell_levelSince, X0_tell_toldLast]
          by_cases d1 : lev = lvl
          · rw [if_pos d1]; exact ⟨a, n, rfl, rfl, by omega, c1⟩
          · rw [if_neg d1]; exact ⟨n, n, rfl, rfl, by omega, c1⟩
      · have p2 : ¬ lN b ≤ lN n := fun q => c2 ((pk_lLE (by omega) hn).mp q)
        have p3 : lN n < lN b := (pk_lLT hn (by omega)).mpr (by omega)
        refine ⟨?_, ?_, ?_, ?_, ?_, ?_⟩
        · rw [X4_bounce_r, X5_bounce_r, if_pos eo, if_pos p3, X0_lastTime_r, if_neg p2]
        · rw [X4_bounce_state, X5_bounce_state, if_pos eo, if_pos p3, X0_lastTime_r, if_neg p2]
        · rw [X4_bounce_lastLevel, X5_bounce_level, if_pos eo, if_pos p3, X0_lastTime_r, if_neg p2]
        · rw [X4_bounce_levelSince, X5_bounce_since, if_pos eo, if_pos p3, X0_lastTime_r, if_neg p2]
        · rw [X4_bounce_toldLast, X5_bounce_told, if_pos eo, if_pos p3, X0_lastTime_r, if_neg p2]
        · rw [X4_bounce_levelSince, X4_bounce_toldLast, if_pos eo, if_pos eo, X0_lastTime_r, if_neg p2, if_neg p2]
          exact ⟨a, b, rfl, rfl, hab, hb⟩
    · rw [if_neg c1] at eo
      have n1 : ¬ X4_isOutsideTime_r (lN n) = 0 := by rw [eo]; decide
      have p1 : ¬ lN n ≤ 1152921504606846976 := fun q => c1 ((lN_top hn).mp q)
      have p3 : ¬ lN n < lN b := fun q => absurd ((pk_lLT hn (by omega)).mp q) (by omega)
      refine ⟨?_, ?_, ?_, ?_, ?_, ?_⟩
      · rw [X4_bounce_r, X5_bounce_r, if_neg n1, if_neg p3, if_neg p1]
      · rw [X4_bounce_state, X5_bounce_state, if_neg n1, if_neg p3, if_neg p1]
      · rw [X4_bounce_lastLevel, X5_bounce_level, if_neg n1, if_neg p3, if_neg p1]
      · rw [X4_bounce_levelSince, X5_bounce_since, if_neg n1, if_neg p3, if_neg p1]
      · rw [X4_bounce_toldLast, X5_bounce_told, if_neg n1, if_neg p3, if_neg p1]
      · rw [X4_bounce_levelSince, X4_bounce_toldLast, if_neg n1, if_neg n1]
        exact ⟨a, b, rfl, rfl, hab, hb⟩
