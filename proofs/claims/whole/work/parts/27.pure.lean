/-! Pure rows: an edge, in the class and in its twin. -/
theorem xc_ (c : Int32) : X1_add_count c = X5_fault_faults c := rfl
theorem xs_ (c : Int32) : X1_add_streak c = X5_fault_behind c := rfl
def ED (j k m : Nat) (le : Int64) (ed : Int32) (eg : Int64) (inf aw nib nc : Int32) (nwf : Nat → Int32) : Prop := 9 * k ≤ j ∧ ((ed = 0 ∧ le = (-1) ∧ eg = 0 ∧ inf = 0 ∧ aw = (-1) ∧ nc = 0) ∨ (ed = 1 ∧ ∃ e : Nat, le = lN e ∧ eg = lN e ∧ e ≤ 1152921504606846976 ∧ ((inf = 0 ∧ aw = (-1)) ∨ (inf = 1 ∧ ∃ (a : Nat) (w : Nat → Nat), a < 8 ∧ aw = nI a ∧ nc = nI a ∧ 56 ≤ m ∧ (∀ i, i < a → w i < 16 ∧ nwf i = nI (w i)) ∧ nib = nI (pk w a) ∧ 9 * k + a + 1 ≤ j))))
def FRM (k : Nat) (ff stf daf rif : Nat → Int32) (sm : Int32) (laf : Nat → Int32) : Prop := (∀ i, i < k → stf i = X4_statusOf_r (ff i) ∧ daf i = X4_dataOf_r (ff i) ∧ rif i = X4_isRight_r (ff i)) ∧ (k = 0 → sm = 0) ∧ (0 < k → sm = 1 ∧ ∀ i, i < 8 → laf i = X4_nibbleAt_r (ff (k - 1)) (7 - nI i))
theorem pk_congr {w u : Nat → Nat} : ∀ a, (∀ i, i < a → w i = u i) → pk w a = pk u a := by
  intro a
  induction a with
  | zero => intro _; rfl
  | succ a ih => intro h; rw [pk, pk, ih (fun i hi => h i (by omega)), h a (by omega)]
theorem SL.mono {k : Nat} {bts bc mcn : Int32} {btf mf mef : Nat → Int32} (h : SL k bts bc mcn btf mf mef) : SL k bts bc mcn btf mf mef := h
def RLX (j : Nat) (tol fc : Int32) (le cal : Int64) (inf nib nc str mk mcn bts bc : Int32) (mf ff : Nat → Int32) (tl : Int64) (ed : Int32) (eg : Int64) (aw sm : Int32) (nwf laf stf daf rif btf mef : Nat → Int32) : Prop := ∃ t k m : Nat, tol = nI t ∧ tl = lN t ∧ (1 ≤ t ∧ t ≤ 30) ∧ fc = nI k ∧ cal = lN m ∧ CalI m ∧ ED j k m le ed eg inf aw nib nc nwf ∧ FRM k ff stf daf rif sm laf ∧ SL k bts bc mcn btf mf mef ∧ FI j str mk
theorem ED.mono {j k m : Nat} {le : Int64} {ed : Int32} {eg : Int64} {inf aw nib nc : Int32} {nwf : Nat → Int32} (h : ED j k m le ed eg inf aw nib nc nwf) : ED (j + 1) k m le ed eg inf aw nib nc nwf := by
  obtain ⟨h0, h | ⟨h1, e, h2, h3, h4, h | ⟨h5, a, w, h6, h7, h8, h9, h10, h11, h12⟩⟩⟩ := h
  · exact ⟨by omega, Or.inl h⟩
  · exact ⟨by omega, Or.inr ⟨h1, e, h2, h3, h4, Or.inl h⟩⟩
  · exact ⟨by omega, Or.inr ⟨h1, e, h2, h3, h4, Or.inr ⟨h5, a, w, h6, h7, h8, h9, h10, h11, by omega⟩⟩⟩
theorem FRM.add {k : Nat} {ff stf daf rif : Nat → Int32} {sm : Int32} {laf : Nat → Int32} (h : FRM k ff stf daf rif sm laf) (hk : k < 100) {F s d r : Int32} {laf' : Nat → Int32} (hs : s = X4_statusOf_r F) (hd : d = X4_dataOf_r F) (hr : r = X4_isRight_r F) (hl : ∀ i, i < 8 → laf' i = X4_nibbleAt_r F (7 - nI i)) : FRM (k + 1) (upd ff ((nI k).toNatClampNeg) F) (upd stf ((nI k).toNatClampNeg) s) (upd daf ((nI k).toNatClampNeg) d) (upd rif ((nI k).toNatClampNeg) r) 1 laf' := by
  obtain ⟨h1, h2, h3⟩ := h
  rw [nI_clamp (by omega)]
  refine ⟨?_, fun q => absurd q (by omega), fun _ => ⟨rfl, ?_⟩⟩
  · intro i hi
    rcases Nat.lt_or_ge i k with q | q
    · rw [pk_un (by omega), pk_un (by omega), pk_un (by omega), pk_un (by omega)]; exact h1 i q
    · rw [show i = k by omega, pk_us, pk_us, pk_us, pk_us]; exact ⟨hs, hd, hr⟩
  · rw [show k + 1 - 1 = k by omega, pk_us]; exact hl
theorem lafd {f laf : Nat → Int32} : ∀ i, i < 8 → X5_frameDone_a_laf f laf i = f i := by
  intro i hi
  rw [X5_frameDone_a_laf]
  simp only [show ((0 : Int32).toNatClampNeg) = 0 from rfl, show ((1 : Int32).toNatClampNeg) = 1 from rfl, show ((2 : Int32).toNatClampNeg) = 2 from rfl, show ((3 : Int32).toNatClampNeg) = 3 from rfl, show ((4 : Int32).toNatClampNeg) = 4 from rfl, show ((5 : Int32).toNatClampNeg) = 5 from rfl, show ((6 : Int32).toNatClampNeg) = 6 from rfl, show ((7 : Int32).toNatClampNeg) = 7 from rfl]
  match i, hi with
  | 0, _ => simp [upd]
  | 1, _ => simp [upd]
  | 2, _ => simp [upd]
  | 3, _ => simp [upd]
  | 4, _ => simp [upd]
  | 5, _ => simp [upd]
  | 6, _ => simp [upd]
  | 7, _ => simp [upd]
set_option maxHeartbeats 4000000 in
set_option maxRecDepth 20000 in
theorem edge_eq {j : Nat} {tol fc : Int32} {le cal : Int64} {inf nib nc cnt str mk mcn bts bc : Int32} {mf ff : Nat → Int32} {tl : Int64} {ed : Int32} {eg : Int64} {aw sm : Int32} {nwf laf stf daf rif btf mef : Nat → Int32} (hj : j ≤ 520) (h : RLX j tol fc le cal inf nib nc str mk mcn bts bc mf ff tl ed eg aw sm nwf laf stf daf rif btf mef) (tm : Int64) :
    X4_edge_r le cal inf nc tm = X5_edge_r ed eg aw cal tm ∧ X5_edge_frames ed eg aw cal fc tm = X4_edge_frameCount fc le cal inf nc tm ∧ X5_edge_taken tl ed eg aw cal tm = X4_edge_calibration tol le cal inf tm ∧ X5_edge_faults tl ed eg aw cal fc bc cnt nwf rif btf tm = X4_edge_count tol le cal inf nib nc cnt bts bc tm ∧ X5_edge_behind tl ed eg aw cal fc bc str nwf rif btf tm = X4_edge_streak tol le cal inf nib nc str bts bc tm ∧ X5_edge_marked tl ed eg aw cal fc bc str mk nwf rif btf tm = X4_edge_mark tol le cal inf nib nc str mk bts bc tm ∧ X5_edge_messages ed eg aw cal fc bc mcn nwf rif btf tm = X4_edge_messageCount le cal inf nib nc mcn bts bc tm ∧ X5_edge_bits ed eg aw cal fc bc nwf rif tm = X4_edge_bitCount le cal inf nib nc bc tm ∧ RLX (j + 1) tol (X4_edge_frameCount fc le cal inf nc tm) (X4_edge_lastEdge le tm) (X4_edge_calibration tol le cal inf tm) (X4_edge_inFrame tol le cal inf nc tm) (X4_edge_nibbles le cal inf nib tm) (X4_edge_nibbleCount le cal inf nc tm) (X4_edge_streak tol le cal inf nib nc str bts bc tm) (X4_edge_mark tol le cal inf nib nc str mk bts bc tm) (X4_edge_messageCount le cal inf nib nc mcn bts bc tm) (X4_edge_bits le cal inf nib nc bts bc tm) (X4_edge_bitCount le cal inf nib nc bc tm) (X4_edge_a_mf le cal inf nib nc mcn bts bc mf tm) (X4_edge_a_ff fc le cal inf nib nc ff tm) tl (X5_edge_edged ed tm) (X5_edge_edge ed eg tm) (X5_edge_awaited tl ed eg aw cal tm) (X5_edge_some ed eg aw cal sm tm) (X5_edge_a_nwf ed eg aw cal nwf tm) (X5_edge_a_laf ed eg aw cal nwf laf tm) (X5_edge_a_stf ed eg aw cal fc nwf stf tm) (X5_edge_a_daf ed eg aw cal fc nwf daf tm) (X5_edge_a_rif ed eg aw cal fc nwf rif tm) (X5_edge_a_btf ed eg aw cal fc bc nwf rif btf tm) (X5_edge_a_mef ed eg aw cal fc bc mcn nwf rif btf mef tm) := by
  obtain ⟨t, k, m, rfl, rfl, ht, rfl, rfl, hm, hE, hF, hL, hI⟩ := h
  by_cases c0 : tm < 0
  · have o1 : ¬ X4_isOutsideTime_r tm = 0 := by rw [out_neg c0]; decide
    simp only [X4_edge_frameCount, X4_edge_lastEdge, X4_edge_calibration, X4_edge_inFrame, X4_edge_nibbles, X4_edge_nibbleCount, X4_edge_count, X4_edge_streak, X4_edge_mark, X4_edge_messageCount, X4_edge_bits, X4_edge_bitCount, X4_edge_a_mf, X4_edge_a_ff, X4_edge_r, X5_edge_edged, X5_edge_edge, X5_edge_awaited, X5_edge_taken, X5_edge_some, X5_edge_frames, X5_edge_bits, X5_edge_messages, X5_edge_faults, X5_edge_behind, X5_edge_marked, X5_edge_a_nwf, X5_edge_a_laf, X5_edge_a_stf, X5_edge_a_daf, X5_edge_a_rif, X5_edge_a_btf, X5_edge_a_mef, X5_edge_r, o1, c0, eq_self, if_true, if_false]
    exact ⟨trivial, trivial, trivial, trivial, trivial, trivial, trivial, trivial, t, k, m, rfl, rfl, ht, rfl, rfl, hm, hE.mono, hF, hL.mono, hI.mono (by omega)⟩
  obtain ⟨n, hn, rfl⟩ := pk_lOf c0
  by_cases c1 : 1152921504606846976 < n
  · have o1 : ¬ X4_isOutsideTime_r (lN n) = 0 := by rw [out_lN hn, if_neg (by omega)]; decide
    have o2 : 1152921504606846976 < lN n := (lN_topg hn).mpr c1
    simp only [X4_edge_frameCount, X4_edge_lastEdge, X4_edge_calibration, X4_edge_inFrame, X4_edge_nibbles, X4_edge_nibbleCount, X4_edge_count, X4_edge_streak, X4_edge_mark, X4_edge_messageCount, X4_edge_bits, X4_edge_bitCount, X4_edge_a_mf, X4_edge_a_ff, X4_edge_r, X5_edge_edged, X5_edge_edge, X5_edge_awaited, X5_edge_taken, X5_edge_some, X5_edge_frames, X5_edge_bits, X5_edge_messages, X5_edge_faults, X5_edge_behind, X5_edge_marked, X5_edge_a_nwf, X5_edge_a_laf, X5_edge_a_stf, X5_edge_a_daf, X5_edge_a_rif, X5_edge_a_btf, X5_edge_a_mef, X5_edge_r, o1, o2, c0, eq_self, if_true, if_false]
    exact ⟨trivial, trivial, trivial, trivial, trivial, trivial, trivial, trivial, t, k, m, rfl, rfl, ht, rfl, rfl, hm, hE.mono, hF, hL.mono, hI.mono (by omega)⟩
  have o1 : X4_isOutsideTime_r (lN n) = 0 := by rw [out_lN hn, if_pos (by omega)]
  have o2 : ¬ 1152921504606846976 < lN n := fun q => c1 ((lN_topg hn).mp q)
  obtain ⟨hE0, ⟨rfl, rfl, rfl, rfl, rfl, rfl⟩ | ⟨rfl, e, rfl, rfl, he, hE2⟩⟩ := hE
  · have q1 : (-1 : Int64) < lN n := lN_neg (by decide) hn
    have q2 : (-1 : Int64) < 0 := by decide
    simp only [X4_edge_frameCount, X4_edge_lastEdge, X4_edge_calibration, X4_edge_inFrame, X4_edge_nibbles, X4_edge_nibbleCount, X4_edge_count, X4_edge_streak, X4_edge_mark, X4_edge_messageCount, X4_edge_bits, X4_edge_bitCount, X4_edge_a_mf, X4_edge_a_ff, X4_edge_r, X5_edge_edged, X5_edge_edge, X5_edge_awaited, X5_edge_taken, X5_edge_some, X5_edge_frames, X5_edge_bits, X5_edge_messages, X5_edge_faults, X5_edge_behind, X5_edge_marked, X5_edge_a_nwf, X5_edge_a_laf, X5_edge_a_stf, X5_edge_a_daf, X5_edge_a_rif, X5_edge_a_btf, X5_edge_a_mef, X5_edge_r, o1, o2, c0, q1, q2, eq_self, if_true, if_false]
    exact ⟨trivial, trivial, trivial, trivial, trivial, trivial, trivial, trivial, t, k, m, rfl, rfl, ht, rfl, rfl, hm, ⟨by omega, Or.inr ⟨rfl, n, rfl, rfl, by omega, Or.inl ⟨rfl, rfl⟩⟩⟩, hF, hL.mono, hI.mono (by omega)⟩
  have n10 : ¬ (1 : Int32) = 0 := by decide
  by_cases c2 : e < n
  rotate_left
  · have q1 : ¬ lN e < lN n := fun q => c2 ((pk_lLT (by omega) hn).mp q)
    simp only [X4_edge_frameCount, X4_edge_lastEdge, X4_edge_calibration, X4_edge_inFrame, X4_edge_nibbles, X4_edge_nibbleCount, X4_edge_count, X4_edge_streak, X4_edge_mark, X4_edge_messageCount, X4_edge_bits, X4_edge_bitCount, X4_edge_a_mf, X4_edge_a_ff, X4_edge_r, X5_edge_edged, X5_edge_edge, X5_edge_awaited, X5_edge_taken, X5_edge_some, X5_edge_frames, X5_edge_bits, X5_edge_messages, X5_edge_faults, X5_edge_behind, X5_edge_marked, X5_edge_a_nwf, X5_edge_a_laf, X5_edge_a_stf, X5_edge_a_daf, X5_edge_a_rif, X5_edge_a_btf, X5_edge_a_mef, X5_edge_r, o1, o2, c0, q1, n10, eq_self, if_true, if_false]
    exact ⟨trivial, trivial, trivial, trivial, trivial, trivial, trivial, trivial, t, k, m, rfl, rfl, ht, rfl, rfl, hm, (show ED j k m (lN e) 1 (lN e) inf aw nib nc nwf from ⟨hE0, Or.inr ⟨rfl, e, rfl, rfl, he, hE2⟩⟩).mono, hF, hL.mono, hI.mono (by omega)⟩
  have q1 : lN e < lN n := (pk_lLT (by omega) hn).mpr c2
  have q2 : ¬ lN e < 0 := lN_nn (by omega)
  have q3 : lN n - lN e = lN (n - e) := lN_sub (by omega)
  obtain ⟨hadd1, hadd2⟩ := hI.add (by omega)
  rcases hE2 with ⟨rfl, rfl⟩ | ⟨rfl, a, w, ha, rfl, rfl, hm2, hw, rfl, hka⟩
  · have q4 : ¬ (0 : Int32) ≤ (-1) := by decide
    have f1 := fits_eq ht hm (lN (n - e))
    by_cases c3 : X4_isTaken_r (nI t) (lN m) (lN (n - e)) = 0
    · have c3m : X5_fits_r (lN t) (lN m) (lN (n - e)) = 0 := f1.symm.trans c3
      simp only [X4_edge_frameCount, X4_edge_lastEdge, X4_edge_calibration, X4_edge_inFrame, X4_edge_nibbles, X4_edge_nibbleCount, X4_edge_count, X4_edge_streak, X4_edge_mark, X4_edge_messageCount, X4_edge_bits, X4_edge_bitCount, X4_edge_a_mf, X4_edge_a_ff, X4_edge_r, X5_edge_edged, X5_edge_edge, X5_edge_awaited, X5_edge_taken, X5_edge_some, X5_edge_frames, X5_edge_bits, X5_edge_messages, X5_edge_faults, X5_edge_behind, X5_edge_marked, X5_edge_a_nwf, X5_edge_a_laf, X5_edge_a_stf, X5_edge_a_daf, X5_edge_a_rif, X5_edge_a_btf, X5_edge_a_mef, X5_edge_r, X4_takeCalibration_calibration, X4_takeCalibration_inFrame, X4_takeCalibration_count, X4_takeCalibration_streak, X4_takeCalibration_mark, o1, o2, c0, q1, q2, q3, q4, n10, c3, c3m, eq_self, if_true, if_false]
      exact ⟨trivial, trivial, trivial, rfl, rfl, hadd1.symm, trivial, trivial, t, k, m, rfl, rfl, ht, rfl, rfl, hm, ⟨by omega, Or.inr ⟨rfl, n, rfl, rfl, by omega, Or.inl ⟨rfl, rfl⟩⟩⟩, hF, hL.mono, hadd2⟩
    · have c3m : ¬ X5_fits_r (lN t) (lN m) (lN (n - e)) = 0 := fun q => c3 (f1.trans q)
      obtain ⟨d, hd1, hd2, hd3⟩ := fits_rng c3
      have z1 : X4_isTaken_r (nI t) (lN m) (lN (n - e)) = 1 := (X4_isTaken_r_z (nI t) (lN m) (lN (n - e))).resolve_left c3
      have hde : n - e = d := (pk_lEQ (by omega) (by omega)).mp hd1
      simp only [X4_edge_frameCount, X4_edge_lastEdge, X4_edge_calibration, X4_edge_inFrame, X4_edge_nibbles, X4_edge_nibbleCount, X4_edge_count, X4_edge_streak, X4_edge_mark, X4_edge_messageCount, X4_edge_bits, X4_edge_bitCount, X4_edge_a_mf, X4_edge_a_ff, X4_edge_r, X5_edge_edged, X5_edge_edge, X5_edge_awaited, X5_edge_taken, X5_edge_some, X5_edge_frames, X5_edge_bits, X5_edge_messages, X5_edge_faults, X5_edge_behind, X5_edge_marked, X5_edge_a_nwf, X5_edge_a_laf, X5_edge_a_stf, X5_edge_a_daf, X5_edge_a_rif, X5_edge_a_btf, X5_edge_a_mef, X5_edge_r, X4_takeCalibration_calibration, X4_takeCalibration_inFrame, X4_takeCalibration_count, X4_takeCalibration_streak, X4_takeCalibration_mark, o1, o2, c0, q1, q2, q3, q4, n10, z1, c3m, eq_self, if_true, if_false]
      exact ⟨trivial, trivial, trivial, trivial, trivial, trivial, trivial, trivial, t, k, n - e, rfl, rfl, ht, rfl, rfl, Or.inr ⟨by omega, by omega⟩, ⟨by omega, Or.inr ⟨rfl, n, rfl, rfl, by omega, Or.inr ⟨rfl, 0, fun _ => 0, by omega, nI_0.symm, nI_0.symm, by omega, fun i hi => absurd hi (by omega), nI_0.symm, by omega⟩⟩⟩, hF, hL.mono, hI.mono (by omega)⟩
  · have q4 : 0 ≤ nI a := nI_pos' (by omega)
    have hm3 : 56 ≤ m ∧ m ≤ 56000 := by rcases hm with h | h <;> omega
    rcases nib_eq (n := n - e) (m := m) ⟨by omega, by omega⟩ hm3 with ⟨v, hv, hv1, hv2, hv3, hv4, hv5⟩ | ⟨hb1, hb2⟩
    rotate_left
    · have hbad : ED (j + 1) k m (lN n) 1 (lN n) 0 (-1) (nI (pk w a)) 0 nwf := ⟨by omega, Or.inr ⟨rfl, n, rfl, rfl, by omega, Or.inl ⟨rfl, rfl⟩⟩⟩
      rcases hb2 with b1 | ⟨b1, b2⟩ | ⟨b1, b2, b3⟩
      · simp only [X4_edge_frameCount, X4_edge_lastEdge, X4_edge_calibration, X4_edge_inFrame, X4_edge_nibbles, X4_edge_nibbleCount, X4_edge_count, X4_edge_streak, X4_edge_mark, X4_edge_messageCount, X4_edge_bits, X4_edge_bitCount, X4_edge_a_mf, X4_edge_a_ff, X4_edge_r, X5_edge_edged, X5_edge_edge, X5_edge_awaited, X5_edge_taken, X5_edge_some, X5_edge_frames, X5_edge_bits, X5_edge_messages, X5_edge_faults, X5_edge_behind, X5_edge_marked, X5_edge_a_nwf, X5_edge_a_laf, X5_edge_a_stf, X5_edge_a_daf, X5_edge_a_rif, X5_edge_a_btf, X5_edge_a_mef, X5_edge_r, X4_takeNibble_frameCount, X4_takeNibble_inFrame, X4_takeNibble_nibbles, X4_takeNibble_nibbleCount, X4_takeNibble_count, X4_takeNibble_streak, X4_takeNibble_mark, X4_takeNibble_messageCount, X4_takeNibble_bits, X4_takeNibble_bitCount, X4_takeNibble_a_mf, X4_takeNibble_a_ff, o1, o2, c0, q1, q2, q3, q4, n10, hb1, b1, eq_self, if_true, if_false]
        exact ⟨trivial, trivial, trivial, rfl, rfl, hadd1.symm, trivial, trivial, t, k, m, rfl, rfl, ht, rfl, rfl, hm, hbad, hF, hL.mono, hadd2⟩
      · simp only [X4_edge_frameCount, X4_edge_lastEdge, X4_edge_calibration, X4_edge_inFrame, X4_edge_nibbles, X4_edge_nibbleCount, X4_edge_count, X4_edge_streak, X4_edge_mark, X4_edge_messageCount, X4_edge_bits, X4_edge_bitCount, X4_edge_a_mf, X4_edge_a_ff, X4_edge_r, X5_edge_edged, X5_edge_edge, X5_edge_awaited, X5_edge_taken, X5_edge_some, X5_edge_frames, X5_edge_bits, X5_edge_messages, X5_edge_faults, X5_edge_behind, X5_edge_marked, X5_edge_a_nwf, X5_edge_a_laf, X5_edge_a_stf, X5_edge_a_daf, X5_edge_a_rif, X5_edge_a_btf, X5_edge_a_mef, X5_edge_r, X4_takeNibble_frameCount, X4_takeNibble_inFrame, X4_takeNibble_nibbles, X4_takeNibble_nibbleCount, X4_takeNibble_count, X4_takeNibble_streak, X4_takeNibble_mark, X4_takeNibble_messageCount, X4_takeNibble_bits, X4_takeNibble_bitCount, X4_takeNibble_a_mf, X4_takeNibble_a_ff, o1, o2, c0, q1, q2, q3, q4, n10, hb1, b1, b2, eq_self, if_true, if_false]
        exact ⟨trivial, trivial, trivial, rfl, rfl, hadd1.symm, trivial, trivial, t, k, m, rfl, rfl, ht, rfl, rfl, hm, hbad, hF, hL.mono, hadd2⟩
      · simp only [X4_edge_frameCount, X4_edge_lastEdge, X4_edge_calibration, X4_edge_inFrame, X4_edge_nibbles, X4_edge_nibbleCount, X4_edge_count, X4_edge_streak, X4_edge_mark, X4_edge_messageCount, X4_edge_bits, X4_edge_bitCount, X4_edge_a_mf, X4_edge_a_ff, X4_edge_r, X5_edge_edged, X5_edge_edge, X5_edge_awaited, X5_edge_taken, X5_edge_some, X5_edge_frames, X5_edge_bits, X5_edge_messages, X5_edge_faults, X5_edge_behind, X5_edge_marked, X5_edge_a_nwf, X5_edge_a_laf, X5_edge_a_stf, X5_edge_a_daf, X5_edge_a_rif, X5_edge_a_btf, X5_edge_a_mef, X5_edge_r, X4_takeNibble_frameCount, X4_takeNibble_inFrame, X4_takeNibble_nibbles, X4_takeNibble_nibbleCount, X4_takeNibble_count, X4_takeNibble_streak, X4_takeNibble_mark, X4_takeNibble_messageCount, X4_takeNibble_bits, X4_takeNibble_bitCount, X4_takeNibble_a_mf, X4_takeNibble_a_ff, o1, o2, c0, q1, q2, q3, q4, n10, hb1, b1, b2, b3, eq_self, if_true, if_false]
        exact ⟨trivial, trivial, trivial, rfl, rfl, hadd1.symm, trivial, trivial, t, k, m, rfl, rfl, ht, rfl, rfl, hm, hbad, hF, hL.mono, hadd2⟩
    obtain ⟨u, hu⟩ : ∃ u : Nat → Nat, u = fun i => if i = a then v else w i := ⟨_, rfl⟩
    have hua : u a = v := by rw [hu]; exact if_pos rfl
    have hui : ∀ i, i < a → u i = w i := fun i hi => by rw [hu]; exact if_neg (by omega)
    have hpu : pk u (a + 1) = pk w a * 16 + v := by rw [pk, hua, pk_congr a hui]
    have hu16 : ∀ i, i < a + 1 → u i < 16 := by
      intro i hi
      rcases Nat.lt_or_ge i a with z | z
      · rw [hui i z]; exact (hw i z).1
      · rw [show i = a by omega, hua]; exact hv
    have hNw : pk w a < 16 ^ 7 := Nat.lt_of_lt_of_le (pkw_lt a (fun i hi => (hw i hi).1)) (Nat.pow_le_pow_right (by decide) (by omega))
    have hfr : (nI (pk w a) <<< ((4 : Int32) &&& 31)) ||| nI v = nI (pk u (a + 1)) := by rw [hpu]; exact nib_add hNw hv
    have hnf : ∀ i, i < a + 1 → (upd nwf ((nI a).toNatClampNeg) (nI v)) i = nI (u i) := by
      intro i hi
      rw [nI_clamp (by omega)]
      rcases Nat.lt_or_ge i a with z | z
      · rw [pk_un (by omega), (hw i z).2, hui i z]
      · rw [show i = a by omega, pk_us, hua]
    have hv6 : ¬ nI v = (-1) := nm1 v hv
    have hv7 : ¬ nI v = 16 := by rw [← hv2]; exact hv5
    have ea1 : nI a + 1 = nI (a + 1) := nI_1 a
    by_cases c4 : a + 1 = 8
    rotate_left
    · have d1 : ¬ nI (a + 1) = 8 := fun q => c4 ((nI_eq (a := a + 1) (b := 8) (by omega) (by omega)).mp q)
      have d2 : ¬ 8 ≤ nI (a + 1) := nI_ge (a := a + 1) (b := 8) (by omega) (by decide)
      simp only [X4_edge_frameCount, X4_edge_lastEdge, X4_edge_calibration, X4_edge_inFrame, X4_edge_nibbles, X4_edge_nibbleCount, X4_edge_count, X4_edge_streak, X4_edge_mark, X4_edge_messageCount, X4_edge_bits, X4_edge_bitCount, X4_edge_a_mf, X4_edge_a_ff, X4_edge_r, X5_edge_edged, X5_edge_edge, X5_edge_awaited, X5_edge_taken, X5_edge_some, X5_edge_frames, X5_edge_bits, X5_edge_messages, X5_edge_faults, X5_edge_behind, X5_edge_marked, X5_edge_a_nwf, X5_edge_a_laf, X5_edge_a_stf, X5_edge_a_daf, X5_edge_a_rif, X5_edge_a_btf, X5_edge_a_mef, X5_edge_r, X4_takeNibble_frameCount, X4_takeNibble_inFrame, X4_takeNibble_nibbles, X4_takeNibble_nibbleCount, X4_takeNibble_count, X4_takeNibble_streak, X4_takeNibble_mark, X4_takeNibble_messageCount, X4_takeNibble_bits, X4_takeNibble_bitCount, X4_takeNibble_a_mf, X4_takeNibble_a_ff, o1, o2, c0, q1, q2, q3, q4, n10, hv1, hv2, hv3, hv4, hv6, hv7, ea1, d1, d2, hfr, eq_self, if_true, if_false]
      exact ⟨trivial, trivial, trivial, trivial, trivial, trivial, trivial, trivial, t, k, m, rfl, rfl, ht, rfl, rfl, hm, ⟨by omega, Or.inr ⟨rfl, n, rfl, rfl, by omega, Or.inr ⟨rfl, a + 1, u, by omega, rfl, rfl, hm2, fun i hi => ⟨hu16 i hi, hnf i hi⟩, rfl, by omega⟩⟩⟩, hF, hL.mono, hI.mono (by omega)⟩
    have ha7 : a = 7 := by omega
    subst ha7
    have d1 : nI (7 + 1) = 8 := by decide
    have d2 : (8 : Int32) ≤ 8 := by decide
    have k64 : ¬ 64 ≤ nI k := nI_ge (a := k) (b := 64) (by omega) (by decide)
    have ek1 : nI k + 1 = nI (k + 1) := nI_1 k
    have hsta := fr_status hu16
    have hrig := fr_right hu16
    have htur := fr_turned hu16 hnf
    have hdat := fr_data5 hu16 hnf
    have hn0 : (upd nwf ((nI 7).toNatClampNeg) (nI v)) ((0 : Int32).toNatClampNeg) = nI (u 0) := hnf 0 (by decide)
    have hn7 : (upd nwf ((nI 7).toNatClampNeg) (nI v)) ((7 : Int32).toNatClampNeg) = nI (u 7) := hnf 7 (by decide)
    have ekk : nI (k + 1) - 1 = nI k := nI_pred k
    have hlaf : ∀ i, i < 8 → X5_frameDone_a_laf (upd nwf ((nI 7).toNatClampNeg) (nI v)) laf i = X4_nibbleAt_r (nI (pk u (7 + 1))) (7 - nI i) := fun i hi => by rw [lafd i hi, hnf i hi, fr_nib hu16 i hi]
    have hEd : ED (j + 1) (k + 1) m (lN n) 1 (lN n) 0 (-1) (nI (pk u (7 + 1))) 8 (upd nwf ((nI 7).toNatClampNeg) (nI v)) := ⟨by omega, Or.inr ⟨rfl, n, rfl, rfl, by omega, Or.inl ⟨rfl, rfl⟩⟩⟩
    have hu0 : u 0 < 16 := hu16 0 (by decide)
    have e7 : (nI (tbN (ckW u)) = nI (u 7)) ↔ tbN (ckW u) = u 7 := nI_eq (Nat.lt_of_lt_of_le (tbN_lt _ (ckW_lt hu16)) (by decide)) (Nat.lt_of_lt_of_le (hu16 7 (by decide)) (by decide))
    have us1 : (upd rif ((nI k).toNatClampNeg) 1) ((nI k).toNatClampNeg) = 1 := pk_us
    have us0 : (upd rif ((nI k).toNatClampNeg) 0) ((nI k).toNatClampNeg) = 0 := pk_us
    by_cases c5 : tbN (ckW u) = u 7
    · have r1 : X4_isRight_r (nI (pk u (7 + 1))) = 1 := by rw [hrig, if_pos c5]
      have r2 : nI (tbN (ckW u)) = nI (u 7) := e7.mpr c5
      obtain ⟨s1, s2, s3, s4, s5, s6⟩ := slow_step hL (by omega) hu0 cnt 0 mk
      obtain ⟨z1, z2⟩ := (hI.zero).add (by omega)
      have FM := hF.add (k := k) (by omega) (F := nI (pk u (7 + 1))) (s := nI (u 0)) (r := 1) (laf' := X5_frameDone_a_laf (upd nwf ((nI 7).toNatClampNeg) (nI v)) laf) hsta.symm hdat r1.symm hlaf
      simp only [X4_edge_frameCount, X4_edge_lastEdge, X4_edge_calibration, X4_edge_inFrame, X4_edge_nibbles, X4_edge_nibbleCount, X4_edge_count, X4_edge_streak, X4_edge_mark, X4_edge_messageCount, X4_edge_bits, X4_edge_bitCount, X4_edge_a_mf, X4_edge_a_ff, X4_edge_r, X5_edge_edged, X5_edge_edge, X5_edge_awaited, X5_edge_taken, X5_edge_some, X5_edge_frames, X5_edge_bits, X5_edge_messages, X5_edge_faults, X5_edge_behind, X5_edge_marked, X5_edge_a_nwf, X5_edge_a_laf, X5_edge_a_stf, X5_edge_a_daf, X5_edge_a_rif, X5_edge_a_btf, X5_edge_a_mef, X5_edge_r, X4_takeNibble_frameCount, X4_takeNibble_inFrame, X4_takeNibble_nibbles, X4_takeNibble_nibbleCount, X4_takeNibble_count, X4_takeNibble_streak, X4_takeNibble_mark, X4_takeNibble_messageCount, X4_takeNibble_bits, X4_takeNibble_bitCount, X4_takeNibble_a_mf, X4_takeNibble_a_ff, X4_finishFrame_frameCount, X4_finishFrame_a_ff, X4_keepFrame_frameCount, X4_keepFrame_a_ff, X4_finishFrame_count, X4_finishFrame_streak, X4_finishFrame_mark, X4_finishFrame_messageCount, X4_finishFrame_bits, X4_finishFrame_bitCount, X4_finishFrame_a_mf, X5_frameDone_frames, X5_frameDone_bits, X5_frameDone_messages, X5_frameDone_faults, X5_frameDone_behind, X5_frameDone_marked, X5_frameDone_a_stf, X5_frameDone_a_daf, X5_frameDone_a_rif, X5_frameDone_a_btf, X5_frameDone_a_mef, o1, o2, c0, q1, q2, q3, q4, n10, hv1, hv2, hv3, hv4, hv6, hv7, ea1, d1, d2, hfr, k64, ek1, ekk, hsta, r1, htur, hn0, hn7, r2, us1, s1, s2, s3, s4, s5, eq_self, if_true, if_false]
      refine ⟨trivial, trivial, trivial, ?_, ?_, ?_, trivial, trivial, t, k + 1, m, rfl, rfl, ht, rfl, rfl, hm, hEd, FM, s6, ?_⟩
      · rfl
      · rfl
      · by_cases c6 : X2_take_r bts bc (nI (u 0)) = 0
        · rw [if_pos c6, if_pos c6]; exact z1.symm
        · rw [if_neg c6, if_neg c6]
      · by_cases c6 : X2_take_r bts bc (nI (u 0)) = 0
        · rw [if_pos c6, if_pos c6]; exact z2
        · rw [if_neg c6, if_neg c6]; exact (hI.zero).mono (by omega)
    · have r1 : X4_isRight_r (nI (pk u (7 + 1))) = 0 := by rw [hrig, if_neg c5]
      have r2 : ¬ nI (tbN (ckW u)) = nI (u 7) := fun q => c5 (e7.mp q)
      have FM := hF.add (k := k) (by omega) (F := nI (pk u (7 + 1))) (s := nI (u 0)) (r := 0) (laf' := X5_frameDone_a_laf (upd nwf ((nI 7).toNatClampNeg) (nI v)) laf) hsta.symm hdat r1.symm hlaf
      simp only [X4_edge_frameCount, X4_edge_lastEdge, X4_edge_calibration, X4_edge_inFrame, X4_edge_nibbles, X4_edge_nibbleCount, X4_edge_count, X4_edge_streak, X4_edge_mark, X4_edge_messageCount, X4_edge_bits, X4_edge_bitCount, X4_edge_a_mf, X4_edge_a_ff, X4_edge_r, X5_edge_edged, X5_edge_edge, X5_edge_awaited, X5_edge_taken, X5_edge_some, X5_edge_frames, X5_edge_bits, X5_edge_messages, X5_edge_faults, X5_edge_behind, X5_edge_marked, X5_edge_a_nwf, X5_edge_a_laf, X5_edge_a_stf, X5_edge_a_daf, X5_edge_a_rif, X5_edge_a_btf, X5_edge_a_mef, X5_edge_r, X4_takeNibble_frameCount, X4_takeNibble_inFrame, X4_takeNibble_nibbles, X4_takeNibble_nibbleCount, X4_takeNibble_count, X4_takeNibble_streak, X4_takeNibble_mark, X4_takeNibble_messageCount, X4_takeNibble_bits, X4_takeNibble_bitCount, X4_takeNibble_a_mf, X4_takeNibble_a_ff, X4_finishFrame_frameCount, X4_finishFrame_a_ff, X4_keepFrame_frameCount, X4_keepFrame_a_ff, X4_finishFrame_count, X4_finishFrame_streak, X4_finishFrame_mark, X4_finishFrame_messageCount, X4_finishFrame_bits, X4_finishFrame_bitCount, X4_finishFrame_a_mf, X5_frameDone_frames, X5_frameDone_bits, X5_frameDone_messages, X5_frameDone_faults, X5_frameDone_behind, X5_frameDone_marked, X5_frameDone_a_stf, X5_frameDone_a_daf, X5_frameDone_a_rif, X5_frameDone_a_btf, X5_frameDone_a_mef, o1, o2, c0, q1, q2, q3, q4, n10, hv1, hv2, hv3, hv4, hv6, hv7, ea1, d1, d2, hfr, k64, ek1, ekk, hsta, r1, htur, hn0, hn7, r2, us0, eq_self, if_true, if_false]
      exact ⟨trivial, trivial, trivial, rfl, rfl, hadd1.symm, trivial, trivial, t, k + 1, m, rfl, rfl, ht, rfl, rfl, hm, hEd, FM, hL.drop, hadd2⟩
