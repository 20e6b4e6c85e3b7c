/-! From the law's entry to its loop. -/
theorem start_tb {s : State} {b : Nat} (hgv : (Jvm.Cond.and given_1 narrow_1).before #[Value.ref b] s = true) (j : Nat) (hj : j < 16) : (Term.elem (.static "PulseRows" "CHECK_TABLE" "[I") (.int (Int32.ofNat j))).eval #[Value.ref b] s none [] s = some (.int (tb_f j)) := by
  have hs := flat_of_before _ hgv
  rcases (show j = 0 ∨ j = 1 ∨ j = 2 ∨ j = 3 ∨ j = 4 ∨ j = 5 ∨ j = 6 ∨ j = 7 ∨ j = 8 ∨ j = 9 ∨ j = 10 ∨ j = 11 ∨ j = 12 ∨ j = 13 ∨ j = 14 ∨ j = 15 by omega) with rfl | rfl | rfl | rfl | rfl | rfl | rfl | rfl | rfl | rfl | rfl | rfl | rfl | rfl | rfl | rfl
  · exact va_eqt (hs (.eq (.elem (.static "PulseRows" "CHECK_TABLE" "[I") (.int (Int32.ofNat 0))) (.int (tb_f 0))) (by decide +kernel))
  · exact va_eqt (hs (.eq (.elem (.static "PulseRows" "CHECK_TABLE" "[I") (.int (Int32.ofNat 1))) (.int (tb_f 1))) (by decide +kernel))
  · exact va_eqt (hs (.eq (.elem (.static "PulseRows" "CHECK_TABLE" "[I") (.int (Int32.ofNat 2))) (.int (tb_f 2))) (by decide +kernel))
  · exact va_eqt (hs (.eq (.elem (.static "PulseRows" "CHECK_TABLE" "[I") (.int (Int32.ofNat 3))) (.int (tb_f 3))) (by decide +kernel))
  · exact va_eqt (hs (.eq (.elem (.static "PulseRows" "CHECK_TABLE" "[I") (.int (Int32.ofNat 4))) (.int (tb_f 4))) (by decide +kernel))
  · exact va_eqt (hs (.eq (.elem (.static "PulseRows" "CHECK_TABLE" "[I") (.int (Int32.ofNat 5))) (.int (tb_f 5))) (by decide +kernel))
  · exact va_eqt (hs (.eq (.elem (.static "PulseRows" "CHECK_TABLE" "[I") (.int (Int32.ofNat 6))) (.int (tb_f 6))) (by decide +kernel))
  · exact va_eqt (hs (.eq (.elem (.static "PulseRows" "CHECK_TABLE" "[I") (.int (Int32.ofNat 7))) (.int (tb_f 7))) (by decide +kernel))
  · exact va_eqt (hs (.eq (.elem (.static "PulseRows" "CHECK_TABLE" "[I") (.int (Int32.ofNat 8))) (.int (tb_f 8))) (by decide +kernel))
  · exact va_eqt (hs (.eq (.elem (.static "PulseRows" "CHECK_TABLE" "[I") (.int (Int32.ofNat 9))) (.int (tb_f 9))) (by decide +kernel))
  · exact va_eqt (hs (.eq (.elem (.static "PulseRows" "CHECK_TABLE" "[I") (.int (Int32.ofNat 10))) (.int (tb_f 10))) (by decide +kernel))
  · exact va_eqt (hs (.eq (.elem (.static "PulseRows" "CHECK_TABLE" "[I") (.int (Int32.ofNat 11))) (.int (tb_f 11))) (by decide +kernel))
  · exact va_eqt (hs (.eq (.elem (.static "PulseRows" "CHECK_TABLE" "[I") (.int (Int32.ofNat 12))) (.int (tb_f 12))) (by decide +kernel))
  · exact va_eqt (hs (.eq (.elem (.static "PulseRows" "CHECK_TABLE" "[I") (.int (Int32.ofNat 13))) (.int (tb_f 13))) (by decide +kernel))
  · exact va_eqt (hs (.eq (.elem (.static "PulseRows" "CHECK_TABLE" "[I") (.int (Int32.ofNat 14))) (.int (tb_f 14))) (by decide +kernel))
  · exact va_eqt (hs (.eq (.elem (.static "PulseRows" "CHECK_TABLE" "[I") (.int (Int32.ofNat 15))) (.int (tb_f 15))) (by decide +kernel))
theorem start_en {s : State} {b : Nat} (hts : ∀ w ∈ lw_tbl, w.before #[Value.ref b] s = true) (hgv : (Jvm.Cond.and given_1 narrow_1).before #[Value.ref b] s = true) : ∃ tb : Nat, en tb (fun q : Nat => s.heap.size ≤ q) s s.heap := by
  have hs := flat_of_before _ hgv
  have hA : ∀ a : Nat, a < s.heap.size → ¬ (fun q : Nat => s.heap.size ≤ q) a := fun a h => Nat.not_le.mpr h
  obtain ⟨tb, h1, h2⟩ := va_Tof (tm := (.static "PulseRows" "CHECK_TABLE" "[I")) (ty := .int) (N := 16) (f := fun j => .int (tb_f j)) (by decide) (hs (.arrayOf (.static "PulseRows" "CHECK_TABLE" "[I") .int) (by decide +kernel)) (va_eqt (hs (.eq (.length (.static "PulseRows" "CHECK_TABLE" "[I")) (.int (Int32.ofNat 16))) (by decide +kernel))) (start_tb hgv) hA
  exact ⟨tb, va_Zref (hts (.laysStatic "PulseRows" "CHECK_TABLE" "[I") (by decide +kernel)) (hts (.initialized "PulseRows") (by decide +kernel)) h1 hA, h2, va_Nw.of rfl (hts (.methodLinkNest RX2 32 yX4_checking "PulseRows") (by decide +kernel)), va_Nw.of rfl (hts (.methodLinkNest RX2 36 yX4_nibbleAt "PulseRows") (by decide +kernel))⟩
theorem xaN_in : ∀ w ∈ xa 80 eN nsN, w ∈ lw_tbl := by decide +kernel
theorem xaC_in : ∀ w ∈ xa 111 eC nsC, w ∈ lw_tbl := by decide +kernel
theorem start_exN {s : State} {b : Nat} (hts : ∀ w ∈ lw_tbl, w.before #[Value.ref b] s = true) (hgv : (Jvm.Cond.and given_1 narrow_1).before #[Value.ref b] s = true) : ∃ sa : Nat, ex 80 78 eN "no such nibble" nsN sa (fun q : Nat => s.heap.size ≤ q) s s.heap := by
  have hs := flat_of_before _ hgv
  have hA : ∀ a : Nat, a < s.heap.size → ¬ (fun q : Nat => s.heap.size ≤ q) a := fun a h => Nat.not_le.mpr h
  have hini := hts (.initialized Bundle.tN) (by decide +kernel)
  obtain ⟨a, c, cA, kA, q1, q2, q3, q4, q5, q6, -⟩ := Cond.exactly_spec (args := #[Value.ref b]) (first := s) (o := none) (s := s) (idx := []) (t := .string RX4 78) (cls := "java/lang/String") (hs (.exactly (.string RX4 78) "java/lang/String") (by decide +kernel))
  exact ⟨a, fun w hw => va_Nw.of (isDC_tab (List.all_eq_true.mp dcN w hw)) (hts w (xaN_in w hw)), vx_Zqof (hts (.laysStatic Bundle.tN "UNASSIGNED_STACK" Bundle.steD) (by decide +kernel)) hini (hs (.isRef (.static Bundle.tN "UNASSIGNED_STACK" Bundle.steD)) (by decide +kernel)) hA, vx_Zqof (hts (.laysStatic Bundle.tN "SUPPRESSED_SENTINEL" Bundle.listD) (by decide +kernel)) hini (hs (.isRef (.static Bundle.tN "SUPPRESSED_SENTINEL" Bundle.listD)) (by decide +kernel)) hA, vk_R.of (hts (.stringRef RX4 78 "no such nibble") (by decide +kernel)) q1⟩
theorem start_exC {s : State} {b : Nat} (hts : ∀ w ∈ lw_tbl, w.before #[Value.ref b] s = true) (hgv : (Jvm.Cond.and given_1 narrow_1).before #[Value.ref b] s = true) : ∃ sa : Nat, ex 111 109 eC "a calibration of length 0" nsC sa (fun q : Nat => s.heap.size ≤ q) s s.heap := by
  have hs := flat_of_before _ hgv
  have hA : ∀ a : Nat, a < s.heap.size → ¬ (fun q : Nat => s.heap.size ≤ q) a := fun a h => Nat.not_le.mpr h
  have hini := hts (.initialized Bundle.tN) (by decide +kernel)
  obtain ⟨a, c, cA, kA, q1, q2, q3, q4, q5, q6, -⟩ := Cond.exactly_spec (args := #[Value.ref b]) (first := s) (o := none) (s := s) (idx := []) (t := .string RX4 109) (cls := "java/lang/String") (hs (.exactly (.string RX4 109) "java/lang/String") (by decide +kernel))
  exact ⟨a, fun w hw => va_Nw.of (isDC_tab (List.all_eq_true.mp dcC w hw)) (hts w (xaC_in w hw)), vx_Zqof (hts (.laysStatic Bundle.tN "UNASSIGNED_STACK" Bundle.steD) (by decide +kernel)) hini (hs (.isRef (.static Bundle.tN "UNASSIGNED_STACK" Bundle.steD)) (by decide +kernel)) hA, vx_Zqof (hts (.laysStatic Bundle.tN "SUPPRESSED_SENTINEL" Bundle.listD) (by decide +kernel)) hini (hs (.isRef (.static Bundle.tN "SUPPRESSED_SENTINEL" Bundle.listD)) (by decide +kernel)) hA, vk_R.of (hts (.stringRef RX4 109 "a calibration of length 0") (by decide +kernel)) q1⟩
theorem start_K {s : State} {b : Nat} (hts : ∀ w ∈ lw_tbl, w.before #[Value.ref b] s = true) : ∃ (dC : Nat → ClassId) (dI : Nat → Nat → Nat), va_K (dC, dI) vwCl [] s := by
  obtain ⟨c0, i0, h0⟩ := u_known (C := RJx00060) (T := TJx00060) (N := 6) (n := 6) hts inJx00060 (hts (.instantiable RJx00060 6) (by decide +kernel))
  obtain ⟨c1, i1, h1⟩ := u_known (C := RX0) (T := TX0) (N := 4) (n := 4) hts inX0 (hts (.instantiable RX0 4) (by decide +kernel))
  obtain ⟨c2, i2, h2⟩ := u_known (C := RX1) (T := TX1) (N := 3) (n := 3) hts inX1 (hts (.instantiable RX1 3) (by decide +kernel))
  obtain ⟨c3, i3, h3⟩ := u_known (C := RX2) (T := TX2) (N := 4) (n := 4) hts inX2 (hts (.instantiable RX2 4) (by decide +kernel))
  obtain ⟨c4, i4, h4⟩ := u_known (C := RX3) (T := TX3) (N := 3) (n := 3) hts inX3 (hts (.instantiable RX3 3) (by decide +kernel))
  obtain ⟨c5, i5, h5⟩ := u_known (C := RX4) (T := TX4) (N := 12) (n := 12) hts inX4 (hts (.instantiable RX4 12) (by decide +kernel))
  obtain ⟨c6, i6, h6⟩ := u_known (C := RX5) (T := TX5) (N := 28) (n := 28) hts inX5 (hts (.instantiable RX5 28) (by decide +kernel))
  refine ⟨fun k => match k with | 0 => c0 | 1 => c1 | 2 => c2 | 3 => c3 | 4 => c4 | 5 => c5 | _ => c6, fun k => match k with | 0 => i0 | 1 => i1 | 2 => i2 | 3 => i3 | 4 => i4 | 5 => i5 | _ => i6, fun k q hq => ?_, fun k q h => by simp at h⟩
  match k, hq with
  | 0, hq => cases hq; exact h0
  | 1, hq => cases hq; exact h1
  | 2, hq => cases hq; exact h2
  | 3, hq => cases hq; exact h3
  | 4, hq => cases hq; exact h4
  | 5, hq => cases hq; exact h5
  | 6, hq => cases hq; exact h6
  | k + 7, hq => simp [vwCl] at hq
theorem start_tol (x : Int32) : ∃ t : Nat, X4_init_tolerance x = nI t ∧ X5_init_tolerance x = lN t ∧ 1 ≤ t ∧ t ≤ 30 := by
  rw [X4_init_tolerance, X5_init_tolerance]
  have a0 : (0 : Int32).toInt = 0 := rfl
  have a1 : (1 : Int32).toInt = 1 := rfl
  have a30 : (30 : Int32).toInt = 30 := rfl
  have a31 : (31 : Int32).toInt = 31 := rfl
  by_cases c1 : x < 1
  · have c2 : x ≤ 0 := by
      rw [Int32.lt_iff_toInt_lt] at c1
      rw [Int32.le_iff_toInt_le]
      omega
    rw [if_pos c1, if_pos c2]
    exact ⟨20, rfl, rfl, by omega, by omega⟩
  · have c2 : ¬ x ≤ 0 := by
      rw [Int32.lt_iff_toInt_lt] at c1
      rw [Int32.le_iff_toInt_le]
      omega
    rw [if_neg c1, if_neg c2]
    by_cases c3 : 30 < x
    · have c4 : 31 ≤ x := by
        rw [Int32.lt_iff_toInt_lt] at c3
        rw [Int32.le_iff_toInt_le]
        omega
      rw [if_pos c3, if_pos c4]
      exact ⟨20, rfl, rfl, by omega, by omega⟩
    · have c4 : ¬ 31 ≤ x := by
        rw [Int32.lt_iff_toInt_lt] at c3
        rw [Int32.le_iff_toInt_le]
        omega
      rw [if_neg c3, if_neg c4]
      have c5 : ¬ x < 0 := by
        rw [Int32.lt_iff_toInt_lt] at c1 ⊢
        omega
      obtain ⟨t, ht, rfl⟩ := nI_of c5
      rw [Int32.lt_iff_toInt_lt, nI_toInt ht] at c1 c3
      exact ⟨t, rfl, nI_l ht, by omega, by omega⟩
theorem start_RLX {tol : Int32} {tl : Int64} {t : Nat} (h1 : tol = nI t) (h2 : tl = lN t) (h3 : 1 ≤ t) (h4 : t ≤ 30) : RLX 0 tol 0 (-1) 0 0 0 0 0 0 0 0 0 (fun _ => 0) (fun _ => 0) tl 0 0 (-1) 0 (fun _ => 0) (fun _ => 0) (fun _ => 0) (fun _ => 0) (fun _ => 0) (fun _ => 0) (fun _ => 0) :=
  ⟨t, 0, 0, h1, h2, ⟨h3, h4⟩, rfl, rfl, Or.inl rfl, ⟨by omega, Or.inl ⟨rfl, rfl, rfl, rfl, rfl, rfl⟩⟩, ⟨fun i hi => absurd hi (Nat.not_lt_zero i), fun _ => rfl, fun h => absurd h (Nat.not_lt_zero 0)⟩, ⟨0, 0, fun _ => 0, rfl, by omega, fun i hi => absurd hi (Nat.not_lt_zero i), rfl, rfl, by omega, fun i hi => absurd hi (Nat.not_lt_zero i)⟩, ⟨0, rfl, by omega, z01_0, fun h => absurd h (by omega)⟩⟩
theorem start_BI : BI 0 0 := ⟨0, 0, rfl, rfl, by omega, by omega⟩
theorem start_blind {D : va_G} {sz b L : Nat} {xs : Nat → Int32} {av : List Value} : FrameBlind (va_Pc av (fun U => pr D [] [] sz U ∧ va_X b L xs U U.heap ∧ b < sz)) :=
  fun a U g mk q => ⟨q.1, (pr.blind (av := av) a U g mk ⟨q.1, q.2.1⟩).2, va_X.moved (u := U) (U := U.calling g mk a) (Vm.Alike.refl U.vm) q.2.2.1, q.2.2.2⟩
set_option maxHeartbeats 4000000 in
set_option maxRecDepth 100000 in
theorem whole_start {p : Program} {e : Env} {s : State} {m : MethodId} {below : List Frame} {meth : Method} {c : Code} (l : Launch) (hst : l.stackTraces = false) {b L : Nat} {xs : Nat → Int32} (hL : L ≤ 2049) (C0 : lw_At p s m meth c b L xs) : W p l e room_1 s m #[Value.ref b] below meth c s.heap [] 0 0 (lw_Z below #[Value.ref b] s) (entryFrame m ([Value.ref b] : List Value).toArray 7) := by
  obtain ⟨hx, hb, hr, hml, hown, htsT, hX, hbl, hlocks, hgv⟩ := id C0
  have hts : ∀ w ∈ wsL_law, w.before #[Value.ref b] s = true := fun w h => htsT w (wsL_law_in w h)
  obtain ⟨tb, hE⟩ := start_en htsT hgv
  obtain ⟨saN, hXN⟩ := start_exN htsT hgv
  obtain ⟨saC, hXC⟩ := start_exC htsT hgv
  obtain ⟨dC, dI, hK⟩ := start_K htsT
  have hA : ∀ q : Nat, s.heap.size ≤ q → (fun q : Nat => s.heap.size ≤ q) q := fun _ h => h
  have hbA : ¬ (fun q : Nat => s.heap.size ≤ q) b := Nat.not_le.mpr hbl
  have hS : va_S (fun q : Nat => s.heap.size ≤ q) s.heap s.heap [] := va_S.rf
  have hP : va_P (dC, dI) vwCl [] s.heap := fun k q h => by simp at h
  have hD : va_D (fun q : Nat => s.heap.size ≤ q) [] := ⟨fun i j p q h => by simp at h, fun k q h => by simp at h⟩
  have hl := lv_entry ([.ref b]) (n := 7) (Nat.le_of_ble_eq_true rfl)
  rw [lg_entry_eq]
  generalize (lg_sl ([.ref b]) ++ List.replicate (7 - (lg_sl ([.ref b])).length) Slot.unset).toArray = ls at hl ⊢
  have hl : lv_has ls 7 [(0, .ref b)] := hl
  refine va_new (ci := 5) (fs := [.int 0, .null, .null, .null, .null, .null, .int 0, .long 0, .long 0, .int 0, .int 0, .int 0]) (C := RX4) (T := TX4) (N := 12) hx hb htsT inX4 tyX4 tyX4_ok hown (htsT (.classLink RL 8 RX4) (by decide +kernel)) (htsT (.instantiable RX4 12) (by decide +kernel)) (htsT (.initialized RX4) (by decide +kernel)) hK hP hD hS hA rfl (fun j hj => by rcases (show j = 0 ∨ j = 1 ∨ j = 2 ∨ j = 3 ∨ j = 4 ∨ j = 5 ∨ j = 6 ∨ j = 7 ∨ j = 8 ∨ j = 9 ∨ j = 10 ∨ j = 11 by omega) with rfl | rfl | rfl | rfl | rfl | rfl | rfl | rfl | rfl | rfl | rfl | rfl <;> rfl) (Nat.le_of_ble_eq_true rfl) (Nat.le_of_ble_eq_true rfl) dL_law_0 (fun h0 H hP hD hS => ?_)
  have hP : va_P (dC, dI) vwCl [(h0, .inr (5, [.int 0, .null, .null, .null, .null, .null, .int 0, .long 0, .long 0, .int 0, .int 0, .int 0]))] H := hP
  have hD : va_D (fun q : Nat => s.heap.size ≤ q) [(h0, .inr (5, [.int 0, .null, .null, .null, .null, .null, .int 0, .long 0, .long 0, .int 0, .int 0, .int 0]))] := hD
  refine W.widen (k := 1) (n := 12) (Nat.le_of_ble_eq_true rfl) (Nat.le_of_ble_eq_true rfl) ?_
  refine lv_dup hx hb dL_law_3 rfl ?_
  refine lv_aload_n hx hb dL_law_4 rfl (lv_at hl 0 rfl) ?_
  refine lv_iconst (v := 0) hx hb dL_law_5 (by decide) ?_
  have hPc := hP.sub (ws' := []) [] rfl
  have hDc := hD.sub (ws' := []) [] (by decide) rfl
  have hKc := hK.sub (tys' := []) [] rfl
  have hFc := va_free (wc := []) hD hS hA [] rfl
  have hXc : ∀ U : State, U.heap = H → s.WarmedH U.vm → va_X b L xs U U.heap := fun U hU hW => by rw [hU]; exact va_X.moved hW.alike (hX.kept (hS.2.1 b hbl hbA))
  refine va_calli (va_runS (As := [.ref b, .int 0]) (rest := [.ref h0, .ref h0]) ⟨hx, hb, hml, hown, hts⟩ (k_L_cell l dC dI H.size b L xs (by omega)) (va_cwS 2 hts gL_law_L_cell rfl rfl rfl (by decide +kernel) ⟨Nat.le_of_ble_eq_true rfl, Nat.le_of_ble_eq_true rfl⟩) ⟨start_blind, fun U hU hW => ⟨rfl, pr.call hU hW hPc hKc hDc, hXc U hU hW, Nat.lt_of_lt_of_le hbl hS.1⟩⟩ rfl rfl hl.1 rfl (lv_room (Nat.le_of_ble_eq_true rfl)) dL_law_6 ⟨Nat.le_of_ble_eq_true rfl, Nat.le_of_ble_eq_true rfl⟩) hS (fun q _ h => hFc q h) hFc (fun r0 u t H1 locs ht hvm hw hB hz1 hk1 hS => ?_)
  have hw0 : r0 = if 0 < L then xs 0 else 0 := hw
  obtain ⟨hP, hD⟩ := po.join (wr := [(h0, .inr (5, [.int 0, .null, .null, .null, .null, .null, .int 0, .long 0, .long 0, .int 0, .int 0, .int 0]))]) hP hD [] [0] rfl rfl (by decide) (by decide) hk1 hFc ht hB
  generalize H1 = H at hP hS ⊢
  clear ht hvm hB hz1 hk1 hPc hDc hKc hFc hXc
  have hP : va_P (dC, dI) vwCl [(h0, .inr (5, [.int 0, .null, .null, .null, .null, .null, .int 0, .long 0, .long 0, .int 0, .int 0, .int 0]))] H := hP
  have hD : va_D (fun q : Nat => s.heap.size ≤ q) [(h0, .inr (5, [.int 0, .null, .null, .null, .null, .null, .int 0, .long 0, .long 0, .int 0, .int 0, .int 0]))] := hD
  refine W.widen (k := 1) (n := 12) (Nat.le_of_ble_eq_true rfl) (Nat.le_of_ble_eq_true rfl) ?_
  have hPc := hP.sub (ws' := [(h0, .inr (5, [.int 0, .null, .null, .null, .null, .null, .int 0, .long 0, .long 0, .int 0, .int 0, .int 0]))]) [0] rfl
  have hDc := hD.sub (ws' := [(h0, .inr (5, [.int 0, .null, .null, .null, .null, .null, .int 0, .long 0, .long 0, .int 0, .int 0, .int 0]))]) [0] (by decide) rfl
  have hKc := hK.sub (tys' := []) [] rfl
  have hFc := va_free (wc := [(h0, .inr (5, [.int 0, .null, .null, .null, .null, .null, .int 0, .long 0, .long 0, .int 0, .int 0, .int 0]))]) hD hS hA [0] rfl
  have hN15 : va_Nw (.methodLinkNest RX4 15 yX1_init "PulseRows") s := va_Nw.of rfl (htsT (.methodLinkNest RX4 15 yX1_init "PulseRows") (by decide +kernel))
  have hN22 : va_Nw (.methodLinkNest RX4 22 yX2_init "PulseRows") s := va_Nw.of rfl (htsT (.methodLinkNest RX4 22 yX2_init "PulseRows") (by decide +kernel))
  have hN29 : va_Nw (.methodLinkNest RX4 29 yX0_init "PulseRows") s := va_Nw.of rfl (htsT (.methodLinkNest RX4 29 yX0_init "PulseRows") (by decide +kernel))
  have hN36 : va_Nw (.methodLinkNest RX4 36 yX3_init "PulseRows") s := va_Nw.of rfl (htsT (.methodLinkNest RX4 36 yX3_init "PulseRows") (by decide +kernel))
  refine va_callv (va_runI (As := [.int r0]) (rest := [.ref h0]) ⟨hx, hb, hml, hown, hts⟩ (k_X4_init l dC dI H.size h0 r0) (cwI 1 hts gL_law_X4_init rfl rfl rfl (htsT (.initialized RX4) (by decide +kernel)) (htsT (.methodLink RL 27 yX4_init) (by decide +kernel)) (htsT (.instanceMethod yX4_init) (by decide +kernel)) rfl (by decide +kernel) ⟨Nat.le_of_ble_eq_true rfl, Nat.le_of_ble_eq_true rfl⟩) ⟨prI.blind, fun U hU hW => ⟨rfl, pr.call hU hW hPc hKc hDc, hN15.warmM hW, hN22.warmM hW, hN29.warmM hW, hN36.warmM hW⟩⟩ rfl rfl hl.1 rfl (lv_room (Nat.le_of_ble_eq_true rfl)) dL_law_9 ⟨Nat.le_of_ble_eq_true rfl, Nat.le_of_ble_eq_true rfl⟩) hS (fun q _ h => hFc q h) hFc (fun u t H1 locs ht hvm hw hB hz1 hk1 hS => ?_)
  obtain ⟨a1, a2, a6, a3, a4, a5, cA6, cA5, hB⟩ := hB
  have hK : va_K (dC, dI) vwCl [(cA6, .int), (cA5, .int)] s := hK.app (va_K.moved hvm.symm hB.2.1)
  obtain ⟨hP, hD⟩ := po.join (wr := []) hP hD [0] [] rfl rfl (by decide) (by decide) hk1 hFc ht hB
  generalize H1 = H at hP hS ⊢
  clear ht hvm hB hz1 hk1 hPc hDc hKc hFc
  have hP : va_P (dC, dI) vwCl [(h0, .inr (5, [.int (X4_init_tolerance r0), .ref a1, .ref a2, .ref a3, .ref a4, .ref a5, .int 0, .long (-1), .long 0, .int 0, .int 0, .int 0])), (a1, .inr (2, [.int 0, .int 0, .int 0])), (a2, .inr (3, [.ref a6, .int 0, .int 0, .int 0])), (a6, .inl (cA6, 4, .inl (fun _ => 0))), (a3, .inr (1, [.int 0, .int 0, .long 0, .long 0])), (a4, .inr (4, [.int 0, .int 0, .int 0])), (a5, .inl (cA5, 64, .inl (fun _ => 0)))] H := hP
  have hD : va_D (fun q : Nat => s.heap.size ≤ q) [(h0, .inr (5, [.int (X4_init_tolerance r0), .ref a1, .ref a2, .ref a3, .ref a4, .ref a5, .int 0, .long (-1), .long 0, .int 0, .int 0, .int 0])), (a1, .inr (2, [.int 0, .int 0, .int 0])), (a2, .inr (3, [.ref a6, .int 0, .int 0, .int 0])), (a6, .inl (cA6, 4, .inl (fun _ => 0))), (a3, .inr (1, [.int 0, .int 0, .long 0, .long 0])), (a4, .inr (4, [.int 0, .int 0, .int 0])), (a5, .inl (cA5, 64, .inl (fun _ => 0)))] := hD
  refine W.widen (k := 7) (n := 94) (Nat.le_of_ble_eq_true rfl) (Nat.le_of_ble_eq_true rfl) ?_
  refine lv_astore_n (lv' := [(1, .ref h0), (0, .ref b)]) hx hb dL_law_12 rfl hl (by decide) rfl (fun ls hl => ?_)
  refine va_new (ci := 6) (fs := [.int 0, .long 0, .int 0, .long 0, .int 0, .long 0, .long 0, .null, .int 0, .null, .int 0, .null, .null, .null, .int 0, .null, .int 0, .null, .int 0, .int 0, .int 0, .int 0, .int 0, .long 0, .long 0, .int 0, .int 0, .int 0]) (C := RX5) (T := TX5) (N := 28) hx hb htsT inX5 tyX5 tyX5_ok hown (htsT (.classLink RL 30 RX5) (by decide +kernel)) (htsT (.instantiable RX5 28) (by decide +kernel)) (htsT (.initialized RX5) (by decide +kernel)) hK hP hD hS hA rfl (fun j hj => by rcases (show j = 0 ∨ j = 1 ∨ j = 2 ∨ j = 3 ∨ j = 4 ∨ j = 5 ∨ j = 6 ∨ j = 7 ∨ j = 8 ∨ j = 9 ∨ j = 10 ∨ j = 11 ∨ j = 12 ∨ j = 13 ∨ j = 14 ∨ j = 15 ∨ j = 16 ∨ j = 17 ∨ j = 18 ∨ j = 19 ∨ j = 20 ∨ j = 21 ∨ j = 22 ∨ j = 23 ∨ j = 24 ∨ j = 25 ∨ j = 26 ∨ j = 27 by omega) with rfl | rfl | rfl | rfl | rfl | rfl | rfl | rfl | rfl | rfl | rfl | rfl | rfl | rfl | rfl | rfl | rfl | rfl | rfl | rfl | rfl | rfl | rfl | rfl | rfl | rfl | rfl | rfl <;> rfl) (Nat.le_of_ble_eq_true rfl) (Nat.le_of_ble_eq_true rfl) dL_law_13 (fun m0 H hP hD hS => ?_)
  have hP : va_P (dC, dI) vwCl [(h0, .inr (5, [.int (X4_init_tolerance r0), .ref a1, .ref a2, .ref a3, .ref a4, .ref a5, .int 0, .long (-1), .long 0, .int 0, .int 0, .int 0])), (a1, .inr (2, [.int 0, .int 0, .int 0])), (a2, .inr (3, [.ref a6, .int 0, .int 0, .int 0])), (a6, .inl (cA6, 4, .inl (fun _ => 0))), (a3, .inr (1, [.int 0, .int 0, .long 0, .long 0])), (a4, .inr (4, [.int 0, .int 0, .int 0])), (a5, .inl (cA5, 64, .inl (fun _ => 0))), (m0, .inr (6, [.int 0, .long 0, .int 0, .long 0, .int 0, .long 0, .long 0, .null, .int 0, .null, .int 0, .null, .null, .null, .int 0, .null, .int 0, .null, .int 0, .int 0, .int 0, .int 0, .int 0, .long 0, .long 0, .int 0, .int 0, .int 0]))] H := hP
  have hD : va_D (fun q : Nat => s.heap.size ≤ q) [(h0, .inr (5, [.int (X4_init_tolerance r0), .ref a1, .ref a2, .ref a3, .ref a4, .ref a5, .int 0, .long (-1), .long 0, .int 0, .int 0, .int 0])), (a1, .inr (2, [.int 0, .int 0, .int 0])), (a2, .inr (3, [.ref a6, .int 0, .int 0, .int 0])), (a6, .inl (cA6, 4, .inl (fun _ => 0))), (a3, .inr (1, [.int 0, .int 0, .long 0, .long 0])), (a4, .inr (4, [.int 0, .int 0, .int 0])), (a5, .inl (cA5, 64, .inl (fun _ => 0))), (m0, .inr (6, [.int 0, .long 0, .int 0, .long 0, .int 0, .long 0, .long 0, .null, .int 0, .null, .int 0, .null, .null, .null, .int 0, .null, .int 0, .null, .int 0, .int 0, .int 0, .int 0, .int 0, .long 0, .long 0, .int 0, .int 0, .int 0]))] := hD
  refine W.widen (k := 8) (n := 122) (Nat.le_of_ble_eq_true rfl) (Nat.le_of_ble_eq_true rfl) ?_
  refine lv_dup hx hb dL_law_16 rfl ?_
  refine lv_aload_n hx hb dL_law_17 rfl (lv_at hl 1 rfl) ?_
  refine lv_iconst (v := 0) hx hb dL_law_18 (by decide) ?_
  have hPc := hP.sub (ws' := []) [] rfl
  have hDc := hD.sub (ws' := []) [] (by decide) rfl
  have hKc := hK.sub (tys' := []) [] rfl
  have hFc := va_free (wc := []) hD hS hA [] rfl
  have hXc : ∀ U : State, U.heap = H → s.WarmedH U.vm → va_X b L xs U U.heap := fun U hU hW => by rw [hU]; exact va_X.moved hW.alike (hX.kept (hS.2.1 b hbl hbA))
  refine va_calli (va_runS (As := [.ref b, .int 0]) (rest := [.ref m0, .ref m0]) ⟨hx, hb, hml, hown, hts⟩ (k_L_cell l dC dI H.size b L xs (by omega)) (va_cwS 2 hts gL_law_L_cell rfl rfl rfl (by decide +kernel) ⟨Nat.le_of_ble_eq_true rfl, Nat.le_of_ble_eq_true rfl⟩) ⟨start_blind, fun U hU hW => ⟨rfl, pr.call hU hW hPc hKc hDc, hXc U hU hW, Nat.lt_of_lt_of_le hbl hS.1⟩⟩ rfl rfl hl.1 rfl (lv_room (Nat.le_of_ble_eq_true rfl)) dL_law_19 ⟨Nat.le_of_ble_eq_true rfl, Nat.le_of_ble_eq_true rfl⟩) hS (fun q _ h => hFc q h) hFc (fun r1 u t H1 locs ht hvm hw hB hz1 hk1 hS => ?_)
  have hr0 : r1 = r0 := hw.trans hw0.symm
  subst hr0
  obtain ⟨hP, hD⟩ := po.join (wr := [(h0, .inr (5, [.int (X4_init_tolerance r1), .ref a1, .ref a2, .ref a3, .ref a4, .ref a5, .int 0, .long (-1), .long 0, .int 0, .int 0, .int 0])), (a1, .inr (2, [.int 0, .int 0, .int 0])), (a2, .inr (3, [.ref a6, .int 0, .int 0, .int 0])), (a6, .inl (cA6, 4, .inl (fun _ => 0))), (a3, .inr (1, [.int 0, .int 0, .long 0, .long 0])), (a4, .inr (4, [.int 0, .int 0, .int 0])), (a5, .inl (cA5, 64, .inl (fun _ => 0))), (m0, .inr (6, [.int 0, .long 0, .int 0, .long 0, .int 0, .long 0, .long 0, .null, .int 0, .null, .int 0, .null, .null, .null, .int 0, .null, .int 0, .null, .int 0, .int 0, .int 0, .int 0, .int 0, .long 0, .long 0, .int 0, .int 0, .int 0]))]) hP hD [] [0, 1, 2, 3, 4, 5, 6, 7] rfl rfl (by decide) (by decide) hk1 hFc ht hB
  generalize H1 = H at hP hS ⊢
  clear ht hvm hB hz1 hk1 hPc hDc hKc hFc hXc
  have hP : va_P (dC, dI) vwCl [(h0, .inr (5, [.int (X4_init_tolerance r1), .ref a1, .ref a2, .ref a3, .ref a4, .ref a5, .int 0, .long (-1), .long 0, .int 0, .int 0, .int 0])), (a1, .inr (2, [.int 0, .int 0, .int 0])), (a2, .inr (3, [.ref a6, .int 0, .int 0, .int 0])), (a6, .inl (cA6, 4, .inl (fun _ => 0))), (a3, .inr (1, [.int 0, .int 0, .long 0, .long 0])), (a4, .inr (4, [.int 0, .int 0, .int 0])), (a5, .inl (cA5, 64, .inl (fun _ => 0))), (m0, .inr (6, [.int 0, .long 0, .int 0, .long 0, .int 0, .long 0, .long 0, .null, .int 0, .null, .int 0, .null, .null, .null, .int 0, .null, .int 0, .null, .int 0, .int 0, .int 0, .int 0, .int 0, .long 0, .long 0, .int 0, .int 0, .int 0]))] H := hP
  have hD : va_D (fun q : Nat => s.heap.size ≤ q) [(h0, .inr (5, [.int (X4_init_tolerance r1), .ref a1, .ref a2, .ref a3, .ref a4, .ref a5, .int 0, .long (-1), .long 0, .int 0, .int 0, .int 0])), (a1, .inr (2, [.int 0, .int 0, .int 0])), (a2, .inr (3, [.ref a6, .int 0, .int 0, .int 0])), (a6, .inl (cA6, 4, .inl (fun _ => 0))), (a3, .inr (1, [.int 0, .int 0, .long 0, .long 0])), (a4, .inr (4, [.int 0, .int 0, .int 0])), (a5, .inl (cA5, 64, .inl (fun _ => 0))), (m0, .inr (6, [.int 0, .long 0, .int 0, .long 0, .int 0, .long 0, .long 0, .null, .int 0, .null, .int 0, .null, .null, .null, .int 0, .null, .int 0, .null, .int 0, .int 0, .int 0, .int 0, .int 0, .long 0, .long 0, .int 0, .int 0, .int 0]))] := hD
  refine W.widen (k := 8) (n := 122) (Nat.le_of_ble_eq_true rfl) (Nat.le_of_ble_eq_true rfl) ?_
  have hPc := hP.sub (ws' := [(m0, .inr (6, [.int 0, .long 0, .int 0, .long 0, .int 0, .long 0, .long 0, .null, .int 0, .null, .int 0, .null, .null, .null, .int 0, .null, .int 0, .null, .int 0, .int 0, .int 0, .int 0, .int 0, .long 0, .long 0, .int 0, .int 0, .int 0]))]) [7] rfl
  have hDc := hD.sub (ws' := [(m0, .inr (6, [.int 0, .long 0, .int 0, .long 0, .int 0, .long 0, .long 0, .null, .int 0, .null, .int 0, .null, .null, .null, .int 0, .null, .int 0, .null, .int 0, .int 0, .int 0, .int 0, .int 0, .long 0, .long 0, .int 0, .int 0, .int 0]))]) [7] (by decide) rfl
  have hKc := hK.sub (tys' := []) [] rfl
  have hFc := va_free (wc := [(m0, .inr (6, [.int 0, .long 0, .int 0, .long 0, .int 0, .long 0, .long 0, .null, .int 0, .null, .int 0, .null, .null, .null, .int 0, .null, .int 0, .null, .int 0, .int 0, .int 0, .int 0, .int 0, .long 0, .long 0, .int 0, .int 0, .int 0]))]) hD hS hA [7] rfl
  refine va_callv (va_runI (As := [.int r1]) (rest := [.ref m0]) ⟨hx, hb, hml, hown, hts⟩ (k_X5_init l dC dI H.size m0 r1) (cwI 1 hts gL_law_X5_init rfl rfl rfl (htsT (.initialized RX5) (by decide +kernel)) (htsT (.methodLink RL 32 yX5_init) (by decide +kernel)) (htsT (.instanceMethod yX5_init) (by decide +kernel)) rfl (by decide +kernel) ⟨Nat.le_of_ble_eq_true rfl, Nat.le_of_ble_eq_true rfl⟩) ⟨pr.blind, fun U hU hW => ⟨rfl, pr.call hU hW hPc hKc hDc⟩⟩ rfl rfl hl.1 rfl (lv_room (Nat.le_of_ble_eq_true rfl)) dL_law_22 ⟨Nat.le_of_ble_eq_true rfl, Nat.le_of_ble_eq_true rfl⟩) hS (fun q _ h => hFc q h) hFc (fun u t H1 locs ht hvm hw hB hz1 hk1 hS => ?_)
  obtain ⟨b1, b2, b3, b4, b5, b6, b7, cB1, cB2, cB3, cB4, cB5, cB6, cB7, hB⟩ := hB
  have hK : va_K (dC, dI) vwCl [(cA6, .int), (cA5, .int), (cB1, .int), (cB2, .int), (cB3, .int), (cB4, .int), (cB5, .boolean), (cB6, .int), (cB7, .int)] s := hK.app (va_K.moved hvm.symm hB.2.1)
  obtain ⟨hP, hD⟩ := po.join (wr := [(h0, .inr (5, [.int (X4_init_tolerance r1), .ref a1, .ref a2, .ref a3, .ref a4, .ref a5, .int 0, .long (-1), .long 0, .int 0, .int 0, .int 0])), (a1, .inr (2, [.int 0, .int 0, .int 0])), (a2, .inr (3, [.ref a6, .int 0, .int 0, .int 0])), (a6, .inl (cA6, 4, .inl (fun _ => 0))), (a3, .inr (1, [.int 0, .int 0, .long 0, .long 0])), (a4, .inr (4, [.int 0, .int 0, .int 0])), (a5, .inl (cA5, 64, .inl (fun _ => 0)))]) hP hD [7] [0, 1, 2, 3, 4, 5, 6] rfl rfl (by decide) (by decide) hk1 hFc ht hB
  generalize H1 = H at hP hS ⊢
  clear ht hvm hB hz1 hk1 hPc hDc hKc hFc
  have hP : va_P (dC, dI) vwCl [(h0, .inr (5, [.int (X4_init_tolerance r1), .ref a1, .ref a2, .ref a3, .ref a4, .ref a5, .int 0, .long (-1), .long 0, .int 0, .int 0, .int 0])), (a1, .inr (2, [.int 0, .int 0, .int 0])), (a2, .inr (3, [.ref a6, .int 0, .int 0, .int 0])), (a6, .inl (cA6, 4, .inl (fun _ => 0))), (a3, .inr (1, [.int 0, .int 0, .long 0, .long 0])), (a4, .inr (4, [.int 0, .int 0, .int 0])), (a5, .inl (cA5, 64, .inl (fun _ => 0))), (m0, .inr (6, [.int 0, .long (X5_init_tolerance r1), .int 0, .long 0, .int (-1), .long 0, .long 0, .ref b1, .int 0, .ref b2, .int 0, .ref b3, .ref b4, .ref b5, .int 0, .ref b6, .int 0, .ref b7, .int 0, .int 0, .int 0, .int 0, .int 0, .long 0, .long 0, .int 0, .int 0, .int 0])), (b1, .inl (cB1, 8, .inl (fun _ => 0))), (b2, .inl (cB2, 8, .inl (fun _ => 0))), (b3, .inl (cB3, 520, .inl (fun _ => 0))), (b4, .inl (cB4, 520, .inl (fun _ => 0))), (b5, .inl (cB5, 520, .inl (fun _ => 0))), (b6, .inl (cB6, 16, .inl (fun _ => 0))), (b7, .inl (cB7, 520, .inl (fun _ => 0)))] H := hP
  have hD : va_D (fun q : Nat => s.heap.size ≤ q) [(h0, .inr (5, [.int (X4_init_tolerance r1), .ref a1, .ref a2, .ref a3, .ref a4, .ref a5, .int 0, .long (-1), .long 0, .int 0, .int 0, .int 0])), (a1, .inr (2, [.int 0, .int 0, .int 0])), (a2, .inr (3, [.ref a6, .int 0, .int 0, .int 0])), (a6, .inl (cA6, 4, .inl (fun _ => 0))), (a3, .inr (1, [.int 0, .int 0, .long 0, .long 0])), (a4, .inr (4, [.int 0, .int 0, .int 0])), (a5, .inl (cA5, 64, .inl (fun _ => 0))), (m0, .inr (6, [.int 0, .long (X5_init_tolerance r1), .int 0, .long 0, .int (-1), .long 0, .long 0, .ref b1, .int 0, .ref b2, .int 0, .ref b3, .ref b4, .ref b5, .int 0, .ref b6, .int 0, .ref b7, .int 0, .int 0, .int 0, .int 0, .int 0, .long 0, .long 0, .int 0, .int 0, .int 0])), (b1, .inl (cB1, 8, .inl (fun _ => 0))), (b2, .inl (cB2, 8, .inl (fun _ => 0))), (b3, .inl (cB3, 520, .inl (fun _ => 0))), (b4, .inl (cB4, 520, .inl (fun _ => 0))), (b5, .inl (cB5, 520, .inl (fun _ => 0))), (b6, .inl (cB6, 16, .inl (fun _ => 0))), (b7, .inl (cB7, 520, .inl (fun _ => 0)))] := hD
  refine W.widen (k := 15) (n := 2234) (Nat.le_of_ble_eq_true rfl) (Nat.le_of_ble_eq_true rfl) ?_
  refine lv_astore_n (lv' := [(2, .ref m0), (1, .ref h0), (0, .ref b)]) hx hb dL_law_25 rfl hl (by decide) rfl (fun ls hl => ?_)
  refine lv_iconst (v := 1) hx hb dL_law_26 (by decide) ?_
  refine va_newa (atype := .long) (n := 1) (a0 := (1, .inr (.inl (fun _ => 0)))) (N' := 1) (ty := .long) hx hb (htsT (.arrayClass .long) (by decide +kernel)) rfl hK hP hD hS hA (fun _ => rfl) (by decide) (by decide) (by decide) (Nat.le_of_ble_eq_true rfl) (Nat.le_of_ble_eq_true rfl) dL_law_27 (fun ho cAo H hK hP hD hS => ?_)
  have hP : va_P (dC, dI) vwCl [(h0, .inr (5, [.int (X4_init_tolerance r1), .ref a1, .ref a2, .ref a3, .ref a4, .ref a5, .int 0, .long (-1), .long 0, .int 0, .int 0, .int 0])), (a1, .inr (2, [.int 0, .int 0, .int 0])), (a2, .inr (3, [.ref a6, .int 0, .int 0, .int 0])), (a6, .inl (cA6, 4, .inl (fun _ => 0))), (a3, .inr (1, [.int 0, .int 0, .long 0, .long 0])), (a4, .inr (4, [.int 0, .int 0, .int 0])), (a5, .inl (cA5, 64, .inl (fun _ => 0))), (m0, .inr (6, [.int 0, .long (X5_init_tolerance r1), .int 0, .long 0, .int (-1), .long 0, .long 0, .ref b1, .int 0, .ref b2, .int 0, .ref b3, .ref b4, .ref b5, .int 0, .ref b6, .int 0, .ref b7, .int 0, .int 0, .int 0, .int 0, .int 0, .long 0, .long 0, .int 0, .int 0, .int 0])), (b1, .inl (cB1, 8, .inl (fun _ => 0))), (b2, .inl (cB2, 8, .inl (fun _ => 0))), (b3, .inl (cB3, 520, .inl (fun _ => 0))), (b4, .inl (cB4, 520, .inl (fun _ => 0))), (b5, .inl (cB5, 520, .inl (fun _ => 0))), (b6, .inl (cB6, 16, .inl (fun _ => 0))), (b7, .inl (cB7, 520, .inl (fun _ => 0))), (ho, .inl (cAo, 1, .inr (.inl (fun _ => 0))))] H := hP
  have hD : va_D (fun q : Nat => s.heap.size ≤ q) [(h0, .inr (5, [.int (X4_init_tolerance r1), .ref a1, .ref a2, .ref a3, .ref a4, .ref a5, .int 0, .long (-1), .long 0, .int 0, .int 0, .int 0])), (a1, .inr (2, [.int 0, .int 0, .int 0])), (a2, .inr (3, [.ref a6, .int 0, .int 0, .int 0])), (a6, .inl (cA6, 4, .inl (fun _ => 0))), (a3, .inr (1, [.int 0, .int 0, .long 0, .long 0])), (a4, .inr (4, [.int 0, .int 0, .int 0])), (a5, .inl (cA5, 64, .inl (fun _ => 0))), (m0, .inr (6, [.int 0, .long (X5_init_tolerance r1), .int 0, .long 0, .int (-1), .long 0, .long 0, .ref b1, .int 0, .ref b2, .int 0, .ref b3, .ref b4, .ref b5, .int 0, .ref b6, .int 0, .ref b7, .int 0, .int 0, .int 0, .int 0, .int 0, .long 0, .long 0, .int 0, .int 0, .int 0])), (b1, .inl (cB1, 8, .inl (fun _ => 0))), (b2, .inl (cB2, 8, .inl (fun _ => 0))), (b3, .inl (cB3, 520, .inl (fun _ => 0))), (b4, .inl (cB4, 520, .inl (fun _ => 0))), (b5, .inl (cB5, 520, .inl (fun _ => 0))), (b6, .inl (cB6, 16, .inl (fun _ => 0))), (b7, .inl (cB7, 520, .inl (fun _ => 0))), (ho, .inl (cAo, 1, .inr (.inl (fun _ => 0))))] := hD
  have hK : va_K (dC, dI) vwCl [(cA6, .int), (cA5, .int), (cB1, .int), (cB2, .int), (cB3, .int), (cB4, .int), (cB5, .boolean), (cB6, .int), (cB7, .int), (cAo, .long)] s := hK
  refine W.widen (k := 16) (n := 2235) (Nat.le_of_ble_eq_true rfl) (Nat.le_of_ble_eq_true rfl) ?_
  refine lv_astore_n (lv' := [(3, .ref ho), (2, .ref m0), (1, .ref h0), (0, .ref b)]) hx hb dL_law_29 rfl hl (by decide) rfl (fun ls hl => ?_)
  refine lv_iconst (v := 1) hx hb dL_law_30 (by decide) ?_
  refine lv_istore (lv' := [(4, .int 1), (3, .ref ho), (2, .ref m0), (1, .ref h0), (0, .ref b)]) hx hb dL_law_31 hl (by decide) rfl (fun ls hl => ?_)
  obtain ⟨t9, e1, e2, e3, e4⟩ := start_tol r1
  refine W.widen (k := 1041 - 513) (n := 10437 - 6 * 513) (Nat.le_of_ble_eq_true rfl) (Nat.le_of_ble_eq_true rfl) ?_
  exact law_loop hL hst C0 hE hXN hXC (hK.sub (tys' := [(cA5, .int), (cA6, .int), (cB1, .int), (cB2, .int), (cB3, .int), (cB4, .int), (cB5, .boolean), (cB6, .int), (cB7, .int), (cAo, .long)]) [1, 0, 2, 3, 4, 5, 6, 7, 8, 9] rfl) 513 0 1 0 (-1) 0 0 0 0 0 0 0 0 0 0 0 0 0 0 0 0 0 (fun _ => 0) (fun _ => 0) 0 0 0 (-1) 0 (fun _ => 0) (fun _ => 0) (fun _ => 0) (fun _ => 0) (fun _ => 0) (fun _ => 0) (fun _ => 0) (fun _ => 0) rfl (by omega) rfl (start_RLX e1 e2 e3 e4) start_BI z01_0 z01_0 z01_0 _ _ hP hD hS ls (lv_sub hl [4, 3, 2, 1, 0] rfl)
