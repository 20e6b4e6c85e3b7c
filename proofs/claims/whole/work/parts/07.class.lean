def X4_isRight_r (frame : Int32) : Int32 := if (X4_checking_r (X4_dataOf_r frame) 6) = (X4_nibbleAt_r frame 0) then 1 else 0
theorem X4_isRight_r_z (frame : Int32) : z01 (X4_isRight_r frame) := by unfold X4_isRight_r; repeat (first | split | with_reducible assumption | with_reducible exact z01_0 | with_reducible exact z01_1 | with_reducible exact X0_tell_r_z _ _ _ _ _ (by assumption) | with_reducible exact X1_hasMark_r_z _ (by assumption) | with_reducible exact X3_moveTo_trackA_z _ (by assumption) | with_reducible exact X3_moveTo_trackB_z _ (by assumption) | with_reducible exact X3_moveTo_r_z _ _ _ _ (by assumption) (by assumption) | with_reducible exact X4_isOutsideTime_r_z _ | with_reducible exact X2_finishRow_r_z _ | with_reducible exact X2_take_r_z _ _ _)
set_option maxHeartbeats 4000000 in
set_option maxRecDepth 100000 in
theorem k_X4_isRight (l : Launch) (dC : Nat → ClassId) (dI : Nat → Nat → Nat) (sz : Nat) (tb : Nat) (frame : Int32)  : Met l yX4_isRight wsX4_isRight ({ frames := 2, cells := 0, slots := 0, locals := 44 }) (va_Pc [.int frame] (prE tb (dC, dI) [] [] sz)) (va_Qi (fun (r : Int32) (_ : Unit) => r = X4_isRight_r frame) (fun _ t => po (dC, dI) [] (va_A [] sz) [] t) (va_A [] sz)) 0 0 (va_A [] sz) := by
  refine Met.ofW (cc := cX4_isRight) (maxL := 1) (ret := (some .boolean)) (by decide) rfl ?_
  intro p e s m args below meth c s₁ B hml hv
  obtain ⟨rfl, ⟨hsz, hP, hK, hD0⟩, hE⟩ := hv
  have hx := B.exec
  have hb := B.bytes
  have hr := B.returns
  have hts := atoms_spec (ws := wsX4_isRight) B.pre
  have hown : s.vm.findClass RX4 = some m.cls := findClass_of_methodNamed B.named
  have hlocks := B.notSynchronized
  subst hsz
  have hD := hD0.self (sz := s.heap.size)
  generalize hAe : va_A [] s.heap.size = A at hD hE ⊢
  have hA : ∀ q : Nat, s.heap.size ≤ q → A q := fun q h => by rw [← hAe]; exact Or.inr h
  have hS : va_S A s.heap s.heap [] := va_S.rf
  have hP : va_P (dC, dI) vwCl [] s.heap := hP
  have hl := lv_entry ([.int frame]) (n := 1) (Nat.le_of_ble_eq_true rfl)
  rw [lg_entry_eq]
  generalize (lg_sl ([.int frame]) ++ List.replicate (1 - (lg_sl ([.int frame])).length) Slot.unset).toArray = ls at hl ⊢
  have hl : lv_has ls 1 [(0, .int frame)] := hl
  refine lv_iload_n hx hb dX4_isRight_0 rfl (lv_at hl 0 rfl) ?_
  have hPc := hP.sub (ws' := []) [] rfl
  have hDc := hD.sub (ws' := []) [] (by decide) rfl
  have hKc := hK.sub (tys' := []) [] rfl
  have hFc := va_free (wc := []) hD hS hA [] rfl
  refine va_calli (va_runS (As := [.int frame]) (rest := []) ⟨hx, hb, hml, hown, hts⟩ (k_X4_dataOf l dC dI s.heap.size frame) (va_cwS 1 hts gX4_isRight_X4_dataOf rfl rfl rfl (by decide +kernel) ⟨Nat.le_of_ble_eq_true rfl, Nat.le_of_ble_eq_true rfl⟩) ⟨pr.blind, fun U hU hW => ⟨rfl, pr.call hU hW hPc hKc hDc⟩⟩ rfl rfl hl.1 rfl (lv_room (Nat.le_of_ble_eq_true rfl)) dX4_isRight_1 ⟨Nat.le_of_ble_eq_true rfl, Nat.le_of_ble_eq_true rfl⟩) hS (fun q _ h => hFc q h) hFc (fun r_1 u t H1 locs ht hvm hw hB hz1 hk1 hS => ?_)
  subst r_1
  obtain ⟨hP, hD⟩ := po.join (wr := []) hP hD [] [] rfl rfl (by decide) (by decide) hk1 hFc ht hB
  generalize H1 = H at hP hS ⊢
  clear ht hvm hB hz1 hk1 hPc hDc hKc hFc
  have hP : va_P (dC, dI) vwCl [] H := hP
  have hD : va_D A [] := hD
  refine W.widen (k := 0) (n := 0) (Nat.le_of_ble_eq_true rfl) (Nat.le_of_ble_eq_true rfl) ?_
  refine lv_bipush (v := 6) hx hb dX4_isRight_4 (by decide) ?_
  have hPc := hP.sub (ws' := []) [] rfl
  have hDc := hD.sub (ws' := []) [] (by decide) rfl
  have hKc := hK.sub (tys' := []) [] rfl
  have hFc := va_free (wc := []) hD hS hA [] rfl
  refine va_calli (va_runS (As := [.int (X4_dataOf_r frame), .int 6]) (rest := []) ⟨hx, hb, hml, hown, hts⟩ (k_X4_checking l dC dI H.size tb (X4_dataOf_r frame) 6 6 rfl (by decide)) (va_cwS 2 hts gX4_isRight_X4_checking rfl rfl rfl (by decide +kernel) ⟨Nat.le_of_ble_eq_true rfl, Nat.le_of_ble_eq_true rfl⟩) ⟨prE.blind, fun U hU hW => ⟨rfl, prE.call hE hS hFc hU hW hPc hKc hDc⟩⟩ rfl rfl hl.1 rfl (lv_room (Nat.le_of_ble_eq_true rfl)) dX4_isRight_6 ⟨Nat.le_of_ble_eq_true rfl, Nat.le_of_ble_eq_true rfl⟩) hS (fun q _ h => hFc q h) hFc (fun r_2 u t H1 locs ht hvm hw hB hz1 hk1 hS => ?_)
  subst r_2
  obtain ⟨hP, hD⟩ := po.join (wr := []) hP hD [] [] rfl rfl (by decide) (by decide) hk1 hFc ht hB
  generalize H1 = H at hP hS ⊢
  clear ht hvm hB hz1 hk1 hPc hDc hKc hFc
  have hP : va_P (dC, dI) vwCl [] H := hP
  have hD : va_D A [] := hD
  refine W.widen (k := 0) (n := 0) (Nat.le_of_ble_eq_true rfl) (Nat.le_of_ble_eq_true rfl) ?_
  refine lv_iload_n hx hb dX4_isRight_9 rfl (lv_at hl 0 rfl) ?_
  refine lv_iconst (v := 0) hx hb dX4_isRight_10 (by decide) ?_
  have hPc := hP.sub (ws' := []) [] rfl
  have hDc := hD.sub (ws' := []) [] (by decide) rfl
  have hKc := hK.sub (tys' := []) [] rfl
  have hFc := va_free (wc := []) hD hS hA [] rfl
  refine va_calli (va_runS (As := [.int frame, .int 0]) (rest := [.int (X4_checking_r (X4_dataOf_r frame) 6)]) ⟨hx, hb, hml, hown, hts⟩ (k_X4_nibbleAt l dC dI H.size frame 0) (va_cwS 2 hts gX4_isRight_X4_nibbleAt rfl rfl rfl (by decide +kernel) ⟨Nat.le_of_ble_eq_true rfl, Nat.le_of_ble_eq_true rfl⟩) ⟨pr.blind, fun U hU hW => ⟨rfl, pr.call hU hW hPc hKc hDc⟩⟩ rfl rfl hl.1 rfl (lv_room (Nat.le_of_ble_eq_true rfl)) dX4_isRight_11 ⟨Nat.le_of_ble_eq_true rfl, Nat.le_of_ble_eq_true rfl⟩) hS (fun q _ h => hFc q h) hFc (fun r_3 u t H1 locs ht hvm hw hB hz1 hk1 hS => ?_)
  subst r_3
  obtain ⟨hP, hD⟩ := po.join (wr := []) hP hD [] [] rfl rfl (by decide) (by decide) hk1 hFc ht hB
  generalize H1 = H at hP hS ⊢
  clear ht hvm hB hz1 hk1 hPc hDc hKc hFc
  have hP : va_P (dC, dI) vwCl [] H := hP
  have hD : va_D A [] := hD
  refine W.widen (k := 0) (n := 0) (Nat.le_of_ble_eq_true rfl) (Nat.le_of_ble_eq_true rfl) ?_
  refine lv_icmp_ne (tgt := 21) hx hb dX4_isRight_14 (by decide) (fun c_4 => ?_) (fun c_4 => ?_)
  · refine lv_iconst (v := 0) hx hb dX4_isRight_21 (by decide) ?_
    have hP9 : va_P (dC, dI) vwCl [] H := by exact hP.sub [] rfl
    have hD9 : va_D A [] := by exact hD.sub [] (by decide) rfl
    have e_5 : (0 : Int32) = X4_isRight_r frame := by rw [X4_isRight_r, if_neg c_4]
    exact W.zret (v := 0) hx hb hr rfl (fun t ht hW => ⟨⟨_, (), rfl, e_5, po.ret ht hW hP9 hK hD9⟩, hS.F ht⟩) hS.2.2 dX4_isRight_22
  · refine lv_iconst (v := 1) hx hb dX4_isRight_17 (by decide) ?_
    refine lv_goto (tgt := 22) hx hb dX4_isRight_18 (by decide) ?_
    have hP9 : va_P (dC, dI) vwCl [] H := by exact hP.sub [] rfl
    have hD9 : va_D A [] := by exact hD.sub [] (by decide) rfl
    have e_6 : (1 : Int32) = X4_isRight_r frame := by rw [X4_isRight_r, if_pos c_4]
    exact W.zret (v := 1) hx hb hr rfl (fun t ht hW => ⟨⟨_, (), rfl, e_6, po.ret ht hW hP9 hK hD9⟩, hS.F ht⟩) hS.2.2 dX4_isRight_22
def X4_nibbleOf_r (len : Int64) (cal : Int64) : Int32 := if cal ≤ 0 then (-1) else (if len < cal then (if ((((56 * len) + (cal / 2)) / cal) - 12) < 0 then (-1) else (if ((((56 * len) + (cal / 2)) / cal) - 12) ≤ 15 then (((((56 * len) + (cal / 2)) / cal) - 12).toInt32) else (-1))) else (-1))
set_option maxHeartbeats 4000000 in
set_option maxRecDepth 100000 in
theorem k_X4_nibbleOf (l : Launch) (dC : Nat → ClassId) (dI : Nat → Nat → Nat) (sz : Nat) (len : Int64) (cal : Int64)  : Met l yX4_nibbleOf wsX4_nibbleOf ({ frames := 0, cells := 0, slots := 0, locals := 0 }) (va_Pc [.long len, .long cal] (pr (dC, dI) [] [] sz)) (va_Qi (fun (r : Int32) (_ : Unit) => r = X4_nibbleOf_r len cal) (fun _ t => po (dC, dI) [] (va_A [] sz) [] t) (va_A [] sz)) 0 0 (va_A [] sz) := by
  refine Met.ofW (cc := cX4_nibbleOf) (maxL := 8) (ret := (some .int)) (by decide) rfl ?_
  intro p e s m args below meth c s₁ B hml hv
  obtain ⟨rfl, hsz, hP, hK, hD0⟩ := hv
  have hx := B.exec
  have hb := B.bytes
  have hr := B.returns
  have hts := atoms_spec (ws := wsX4_nibbleOf) B.pre
  have hown : s.vm.findClass RX4 = some m.cls := findClass_of_methodNamed B.named
  have hlocks := B.notSynchronized
  subst hsz
  have hD := hD0.self (sz := s.heap.size)
  generalize hAe : va_A [] s.heap.size = A at hD ⊢
  have hA : ∀ q : Nat, s.heap.size ≤ q → A q := fun q h => by rw [← hAe]; exact Or.inr h
  have hS : va_S A s.heap s.heap [] := va_S.rf
  have hP : va_P (dC, dI) vwCl [] s.heap := hP
  have hl := lv_entry ([.long len, .long cal]) (n := 8) (Nat.le_of_ble_eq_true rfl)
  rw [lg_entry_eq]
  generalize (lg_sl ([.long len, .long cal]) ++ List.replicate (8 - (lg_sl ([.long len, .long cal])).length) Slot.unset).toArray = ls at hl ⊢
  have hl : lv_has ls 8 [(0, .long len), (2, .long cal)] := hl
  refine lv_lload_n hx hb dX4_nibbleOf_0 rfl (lv_at hl 1 rfl) ?_
  refine lv_lconst (v := 0) hx hb dX4_nibbleOf_1 (by decide) ?_
  refine W.lcmp hx hb dX4_nibbleOf_2 ?_
  refine lv_if_le (tgt := 12) hx hb dX4_nibbleOf_3 (by decide) (fun c_1 => ?_) (fun c_1 => ?_)
  · rw [lg_cmp_le] at c_1
    refine lv_iconst (v := (-1)) hx hb dX4_nibbleOf_12 (by decide) ?_
    have hP9 : va_P (dC, dI) vwCl [] s.heap := by exact hP.sub [] rfl
    have hD9 : va_D A [] := by exact hD.sub [] (by decide) rfl
    have e_2 : ((-1) : Int32) = X4_nibbleOf_r len cal := by rw [X4_nibbleOf_r, if_pos c_1]
    exact W.iret (v := (-1)) hx hb hr (fun t ht hW => ⟨⟨_, (), rfl, e_2, po.ret ht hW hP9 hK hD9⟩, hS.F ht⟩) hS.2.2 dX4_nibbleOf_13
  · rw [lg_cmp_le] at c_1
    refine lv_lload_n hx hb dX4_nibbleOf_6 rfl (lv_at hl 0 rfl) ?_
    refine lv_lload_n hx hb dX4_nibbleOf_7 rfl (lv_at hl 1 rfl) ?_
    refine W.lcmp hx hb dX4_nibbleOf_8 ?_
    refine lv_if_lt (tgt := 14) hx hb dX4_nibbleOf_9 (by decide) (fun c_3 => ?_) (fun c_3 => ?_)
    · rw [lg_cmp_lt] at c_3
      refine lv_ldc2 hx hb hown (hts (.constantLong RX4 155 (56)) (List.mem_of_getElem? (i := 1) rfl)) dX4_nibbleOf_14 ?_
      refine lv_lload_n hx hb dX4_nibbleOf_17 rfl (lv_at hl 0 rfl) ?_
      refine lv_lmul hx hb dX4_nibbleOf_18 ?_
      refine lv_lload_n hx hb dX4_nibbleOf_19 rfl (lv_at hl 1 rfl) ?_
      refine lv_ldc2 hx hb hown (hts (.constantLong RX4 173 (2)) (List.mem_of_getElem? (i := 2) rfl)) dX4_nibbleOf_20 ?_
      refine lv_ldiv hx hb dX4_nibbleOf_23 (by decide) ?_
      refine lv_ladd hx hb dX4_nibbleOf_24 ?_
      refine lv_lload_n hx hb dX4_nibbleOf_25 rfl (lv_at hl 1 rfl) ?_
      refine lv_ldiv hx hb dX4_nibbleOf_26 (fun h9 => c_1 (by rw [h9]; decide)) ?_
      refine lv_lstore (lv' := [(4, .long (((56 * len) + (cal / 2)) / cal)), (0, .long len), (2, .long cal)]) hx hb dX4_nibbleOf_27 hl (by decide) rfl (fun ls hl => ?_)
      refine lv_lload hx hb dX4_nibbleOf_29 (lv_at hl 0 rfl) ?_
      refine lv_ldc2 hx hb hown (hts (.constantLong RX4 175 (12)) (List.mem_of_getElem? (i := 3) rfl)) dX4_nibbleOf_31 ?_
      refine lv_lsub hx hb dX4_nibbleOf_34 ?_
      refine lv_lstore (lv' := [(6, .long ((((56 * len) + (cal / 2)) / cal) - 12)), (4, .long (((56 * len) + (cal / 2)) / cal)), (0, .long len), (2, .long cal)]) hx hb dX4_nibbleOf_35 hl (by decide) rfl (fun ls hl => ?_)
      refine lv_lload hx hb dX4_nibbleOf_37 (lv_at hl 0 rfl) ?_
      refine lv_lconst (v := 0) hx hb dX4_nibbleOf_39 (by decide) ?_
      refine W.lcmp hx hb dX4_nibbleOf_40 ?_
      refine lv_if_lt (tgt := 53) hx hb dX4_nibbleOf_41 (by decide) (fun c_4 => ?_) (fun c_4 => ?_)
      · rw [lg_cmp_lt] at c_4
        refine lv_iconst (v := (-1)) hx hb dX4_nibbleOf_53 (by decide) ?_
        refine lv_goto (tgt := 60) hx hb dX4_nibbleOf_54 (by decide) ?_
        have hP9 : va_P (dC, dI) vwCl [] s.heap := by exact hP.sub [] rfl
        have hD9 : va_D A [] := by exact hD.sub [] (by decide) rfl
        have e_5 : ((-1) : Int32) = X4_nibbleOf_r len cal := by rw [X4_nibbleOf_r, if_neg c_1, if_pos c_3, if_pos c_4]
        exact W.iret (v := (-1)) hx hb hr (fun t ht hW => ⟨⟨_, (), rfl, e_5, po.ret ht hW hP9 hK hD9⟩, hS.F ht⟩) hS.2.2 dX4_nibbleOf_60
      · rw [lg_cmp_lt] at c_4
        refine lv_lload hx hb dX4_nibbleOf_44 (lv_at hl 0 rfl) ?_
        refine lv_ldc2 hx hb hown (hts (.constantLong RX4 177 (15)) (List.mem_of_getElem? (i := 4) rfl)) dX4_nibbleOf_46 ?_
        refine W.lcmp hx hb dX4_nibbleOf_49 ?_
        refine lv_if_le (tgt := 57) hx hb dX4_nibbleOf_50 (by decide) (fun c_6 => ?_) (fun c_6 => ?_)
        · rw [lg_cmp_le] at c_6
          refine lv_lload hx hb dX4_nibbleOf_57 (lv_at hl 0 rfl) ?_
          refine lv_l2i (v := ((((56 * len) + (cal / 2)) / cal) - 12).toInt32) hx hb dX4_nibbleOf_59 rfl ?_
          have hP9 : va_P (dC, dI) vwCl [] s.heap := by exact hP.sub [] rfl
          have hD9 : va_D A [] := by exact hD.sub [] (by decide) rfl
          have e_7 : ((((56 * len) + (cal / 2)) / cal) - 12).toInt32 = X4_nibbleOf_r len cal := by rw [X4_nibbleOf_r, if_neg c_1, if_pos c_3, if_neg c_4, if_pos c_6]
          exact W.iret (v := ((((56 * len) + (cal / 2)) / cal) - 12).toInt32) hx hb hr (fun t ht hW => ⟨⟨_, (), rfl, e_7, po.ret ht hW hP9 hK hD9⟩, hS.F ht⟩) hS.2.2 dX4_nibbleOf_60
        · rw [lg_cmp_le] at c_6
          refine lv_iconst (v := (-1)) hx hb dX4_nibbleOf_53 (by decide) ?_
          refine lv_goto (tgt := 60) hx hb dX4_nibbleOf_54 (by decide) ?_
          have hP9 : va_P (dC, dI) vwCl [] s.heap := by exact hP.sub [] rfl
          have hD9 : va_D A [] := by exact hD.sub [] (by decide) rfl
          have e_8 : ((-1) : Int32) = X4_nibbleOf_r len cal := by rw [X4_nibbleOf_r, if_neg c_1, if_pos c_3, if_neg c_4, if_neg c_6]
          exact W.iret (v := (-1)) hx hb hr (fun t ht hW => ⟨⟨_, (), rfl, e_8, po.ret ht hW hP9 hK hD9⟩, hS.F ht⟩) hS.2.2 dX4_nibbleOf_60
    · rw [lg_cmp_lt] at c_3
      refine lv_iconst (v := (-1)) hx hb dX4_nibbleOf_12 (by decide) ?_
      have hP9 : va_P (dC, dI) vwCl [] s.heap := by exact hP.sub [] rfl
      have hD9 : va_D A [] := by exact hD.sub [] (by decide) rfl
      have e_9 : ((-1) : Int32) = X4_nibbleOf_r len cal := by rw [X4_nibbleOf_r, if_neg c_1, if_neg c_3]
      exact W.iret (v := (-1)) hx hb hr (fun t ht hW => ⟨⟨_, (), rfl, e_9, po.ret ht hW hP9 hK hD9⟩, hS.F ht⟩) hS.2.2 dX4_nibbleOf_13
def X4_isTaken_r (tol : Int32) (cal : Int64) (len : Int64) : Int32 := if len < 56 then 0 else (if len ≤ 56000 then (if cal = 0 then 1 else (if (tol.toInt64 * cal) < (100 * (if 0 < (len - cal) then (len - cal) else -(len - cal))) then 0 else 1)) else 0)
theorem X4_isTaken_r_z (tol : Int32) (cal : Int64) (len : Int64) : z01 (X4_isTaken_r tol cal len) := by unfold X4_isTaken_r; repeat (first | split | with_reducible assumption | with_reducible exact z01_0 | with_reducible exact z01_1 | with_reducible exact X0_tell_r_z _ _ _ _ _ (by assumption) | with_reducible exact X1_hasMark_r_z _ (by assumption) | with_reducible exact X3_moveTo_trackA_z _ (by assumption) | with_reducible exact X3_moveTo_trackB_z _ (by assumption) | with_reducible exact X3_moveTo_r_z _ _ _ _ (by assumption) (by assumption) | with_reducible exact X4_isOutsideTime_r_z _ | with_reducible exact X2_finishRow_r_z _ | with_reducible exact X2_take_r_z _ _ _ | with_reducible exact X4_isRight_r_z _)
set_option maxHeartbeats 4000000 in
set_option maxRecDepth 100000 in
theorem k_X4_isTaken (l : Launch) (dC : Nat → ClassId) (dI : Nat → Nat → Nat) (sz : Nat) (h0 : Nat) (tol : Int32) (a1 : Nat) (a2 : Nat) (a3 : Nat) (a4 : Nat) (a5 : Nat) (fc : Int32) (le : Int64) (cal : Int64) (inf : Int32) (nib : Int32) (nc : Int32) (len : Int64)  : Met l yX4_isTaken wsX4_isTaken ({ frames := 1, cells := 0, slots := 0, locals := 15 }) (va_Pc [.ref h0, .long len] (pr (dC, dI) [] [(h0, .inr (5, [.int tol, .ref a1, .ref a2, .ref a3, .ref a4, .ref a5, .int fc, .long le, .long cal, .int inf, .int nib, .int nc]))] sz)) (va_Qi (fun (r : Int32) (_ : Unit) => r = X4_isTaken_r tol cal len) (fun _ t => po (dC, dI) [] (va_A [(h0, .inr (5, [.int tol, .ref a1, .ref a2, .ref a3, .ref a4, .ref a5, .int fc, .long le, .long cal, .int inf, .int nib, .int nc]))] sz) [(h0, .inr (5, [.int tol, .ref a1, .ref a2, .ref a3, .ref a4, .ref a5, .int fc, .long le, .long cal, .int inf, .int nib, .int nc]))] t) (va_A [(h0, .inr (5, [.int tol, .ref a1, .ref a2, .ref a3, .ref a4, .ref a5, .int fc, .long le, .long cal, .int inf, .int nib, .int nc]))] sz)) 0 0 (va_A [(h0, .inr (5, [.int tol, .ref a1, .ref a2, .ref a3, .ref a4, .ref a5, .int fc, .long le, .long cal, .int inf, .int nib, .int nc]))] sz) := by
  refine Met.ofW (cc := cX4_isTaken) (maxL := 3) (ret := (some .boolean)) (by decide) rfl ?_
  intro p e s m args below meth c s₁ B hml hv
  obtain ⟨rfl, hsz, hP, hK, hD0⟩ := hv
  have hx := B.exec
  have hb := B.bytes
  have hr := B.returns
  have hts := atoms_spec (ws := wsX4_isTaken) B.pre
  have hown : s.vm.findClass RX4 = some m.cls := findClass_of_methodNamed B.named
  have hlocks := B.notSynchronized
  subst hsz
  have hD := hD0.self (sz := s.heap.size)
  generalize hAe : va_A [(h0, .inr (5, [.int tol, .ref a1, .ref a2, .ref a3, .ref a4, .ref a5, .int fc, .long le, .long cal, .int inf, .int nib, .int nc]))] s.heap.size = A at hD ⊢
  have hA : ∀ q : Nat, s.heap.size ≤ q → A q := fun q h => by rw [← hAe]; exact Or.inr h
  have hS : va_S A s.heap s.heap [] := va_S.rf
  have hP : va_P (dC, dI) vwCl [(h0, .inr (5, [.int tol, .ref a1, .ref a2, .ref a3, .ref a4, .ref a5, .int fc, .long le, .long cal, .int inf, .int nib, .int nc]))] s.heap := hP
  have iX4 : ∀ w ∈ wsX40, w ∈ wsX4_isTaken := by decide +kernel
  have hl := lv_entry ([.ref h0, .long len]) (n := 3) (Nat.le_of_ble_eq_true rfl)
  rw [lg_entry_eq]
  generalize (lg_sl ([.ref h0, .long len]) ++ List.replicate (3 - (lg_sl ([.ref h0, .long len])).length) Slot.unset).toArray = ls at hl ⊢
  have hl : lv_has ls 3 [(0, .ref h0), (1, .long len)] := hl
  refine lv_lload_n hx hb dX4_isTaken_0 rfl (lv_at hl 1 rfl) ?_
  refine lv_ldc2 hx hb hown (hts (.constantLong RX4 155 (56)) (List.mem_of_getElem? (i := 1) rfl)) dX4_isTaken_1 ?_
  refine W.lcmp hx hb dX4_isTaken_4 ?_
  refine lv_if_lt (tgt := 16) hx hb dX4_isTaken_5 (by decide) (fun c_1 => ?_) (fun c_1 => ?_)
  · rw [lg_cmp_lt] at c_1
    refine lv_iconst (v := 0) hx hb dX4_isTaken_16 (by decide) ?_
    have hP9 : va_P (dC, dI) vwCl [(h0, .inr (5, [.int tol, .ref a1, .ref a2, .ref a3, .ref a4, .ref a5, .int fc, .long le, .long cal, .int inf, .int nib, .int nc]))] s.heap := by exact hP.sub [0] rfl
    have hD9 : va_D A [(h0, .inr (5, [.int tol, .ref a1, .ref a2, .ref a3, .ref a4, .ref a5, .int fc, .long le, .long cal, .int inf, .int nib, .int nc]))] := by exact hD.sub [0] (by decide) rfl
    have e_2 : (0 : Int32) = X4_isTaken_r tol cal len := by rw [X4_isTaken_r, if_pos c_1]
    exact W.zret (v := 0) hx hb hr rfl (fun t ht hW => ⟨⟨_, (), rfl, e_2, po.ret ht hW hP9 hK hD9⟩, hS.F ht⟩) hS.2.2 dX4_isTaken_17
  · rw [lg_cmp_lt] at c_1
    refine lv_lload_n hx hb dX4_isTaken_8 rfl (lv_at hl 1 rfl) ?_
    refine lv_ldc2 hx hb hown (hts (.constantLong RX4 115 (56000)) (List.mem_of_getElem? (i := 2) rfl)) dX4_isTaken_9 ?_
    refine W.lcmp hx hb dX4_isTaken_12 ?_
    refine lv_if_le (tgt := 18) hx hb dX4_isTaken_13 (by decide) (fun c_3 => ?_) (fun c_3 => ?_)
    · rw [lg_cmp_le] at c_3
      refine lv_aload_n hx hb dX4_isTaken_18 rfl (lv_at hl 0 rfl) ?_
      refine va_get (D := (dC, dI)) (ci := 5) (v := .long cal) (C := RX4) (T := TX4) (N := 12) hx hb hts iX4 hown hK hP 0 rfl rfl 8 (by decide) (hts (.fieldLink RX4 152 "PulseRows" "calibration" "J") (List.mem_of_getElem? (i := 3) rfl)) (fun _ h9 => h9) rfl dX4_isTaken_19 ?_
      refine lv_lconst (v := 0) hx hb dX4_isTaken_22 (by decide) ?_
      refine W.lcmp hx hb dX4_isTaken_23 ?_
      refine lv_if_eq (tgt := 54) hx hb dX4_isTaken_24 (by decide) (fun c_4 => ?_) (fun c_4 => ?_)
      · rw [lg_cmp_eq] at c_4
        refine lv_iconst (v := 1) hx hb dX4_isTaken_54 (by decide) ?_
        refine lv_goto (tgt := 59) hx hb dX4_isTaken_55 (by decide) ?_
        have hP9 : va_P (dC, dI) vwCl [(h0, .inr (5, [.int tol, .ref a1, .ref a2, .ref a3, .ref a4, .ref a5, .int fc, .long le, .long cal, .int inf, .int nib, .int nc]))] s.heap := by exact hP.sub [0] rfl
        have hD9 : va_D A [(h0, .inr (5, [.int tol, .ref a1, .ref a2, .ref a3, .ref a4, .ref a5, .int fc, .long le, .long cal, .int inf, .int nib, .int nc]))] := by exact hD.sub [0] (by decide) rfl
        have e_5 : (1 : Int32) = X4_isTaken_r tol cal len := by rw [X4_isTaken_r, if_neg c_1, if_pos c_3, if_pos c_4]
        exact W.zret (v := 1) hx hb hr rfl (fun t ht hW => ⟨⟨_, (), rfl, e_5, po.ret ht hW hP9 hK hD9⟩, hS.F ht⟩) hS.2.2 dX4_isTaken_59
      · rw [lg_cmp_eq] at c_4
        refine lv_ldc2 hx hb hown (hts (.constantLong RX4 157 (100)) (List.mem_of_getElem? (i := 4) rfl)) dX4_isTaken_27 ?_
        refine lv_lload_n hx hb dX4_isTaken_30 rfl (lv_at hl 1 rfl) ?_
        refine lv_aload_n hx hb dX4_isTaken_31 rfl (lv_at hl 0 rfl) ?_
        refine va_get (D := (dC, dI)) (ci := 5) (v := .long cal) (C := RX4) (T := TX4) (N := 12) hx hb hts iX4 hown hK hP 0 rfl rfl 8 (by decide) (hts (.fieldLink RX4 152 "PulseRows" "calibration" "J") (List.mem_of_getElem? (i := 3) rfl)) (fun _ h9 => h9) rfl dX4_isTaken_32 ?_
        refine lv_lsub hx hb dX4_isTaken_35 ?_
        refine va_mabs_long hx hb (hml.trans hl.1.symm) hown (hts (.methodLink RX4 159 Lib.MathLoose.abs_long.x) (List.mem_of_getElem? (i := 5) rfl)) (hts (.static Lib.MathLoose.abs_long.x) (List.mem_of_getElem? (i := 6) rfl)) (hts (.initialized "java/lang/Math") (List.mem_of_getElem? (i := 7) rfl)) (hts (.code Lib.MathLoose.abs_long.x Lib.MathLoose.abs_long.code 2 (some .long)) (List.mem_of_getElem? (i := 8) rfl)) (Nat.le_of_ble_eq_true rfl) (Nat.le_of_ble_eq_true rfl) (Nat.le_of_ble_eq_true rfl) (Nat.le_of_ble_eq_true rfl) dX4_isTaken_36 ?_
        refine lv_lmul hx hb dX4_isTaken_39 ?_
        refine lv_aload_n hx hb dX4_isTaken_40 rfl (lv_at hl 0 rfl) ?_
        refine va_get (D := (dC, dI)) (ci := 5) (v := .int tol) (C := RX4) (T := TX4) (N := 12) hx hb hts iX4 hown hK hP 0 rfl rfl 0 (by decide) (hts (.fieldLink RX4 9 "PulseRows" "tolerance" "I") (List.mem_of_getElem? (i := 9) rfl)) (fun _ h9 => h9) rfl dX4_isTaken_41 ?_
        refine lv_i2l (v := tol.toInt64) hx hb dX4_isTaken_44 rfl ?_
        refine lv_aload_n hx hb dX4_isTaken_45 rfl (lv_at hl 0 rfl) ?_
        refine va_get (D := (dC, dI)) (ci := 5) (v := .long cal) (C := RX4) (T := TX4) (N := 12) hx hb hts iX4 hown hK hP 0 rfl rfl 8 (by decide) (hts (.fieldLink RX4 152 "PulseRows" "calibration" "J") (List.mem_of_getElem? (i := 3) rfl)) (fun _ h9 => h9) rfl dX4_isTaken_46 ?_
        refine lv_lmul hx hb dX4_isTaken_49 ?_
        refine W.lcmp hx hb dX4_isTaken_50 ?_
        refine lv_if_gt (tgt := 58) hx hb dX4_isTaken_51 (by decide) (fun c_6 => ?_) (fun c_6 => ?_)
        · rw [lg_cmp_gt] at c_6
          refine lv_iconst (v := 0) hx hb dX4_isTaken_58 (by decide) ?_
          have hP9 : va_P (dC, dI) vwCl [(h0, .inr (5, [.int tol, .ref a1, .ref a2, .ref a3, .ref a4, .ref a5, .int fc, .long le, .long cal, .int inf, .int nib, .int nc]))] s.heap := by exact hP.sub [0] rfl
          have hD9 : va_D A [(h0, .inr (5, [.int tol, .ref a1, .ref a2, .ref a3, .ref a4, .ref a5, .int fc, .long le, .long cal, .int inf, .int nib, .int nc]))] := by exact hD.sub [0] (by decide) rfl
          have e_7 : (0 : Int32) = X4_isTaken_r tol cal len := by rw [X4_isTaken_r, if_neg c_1, if_pos c_3, if_neg c_4, if_pos c_6]
          exact W.zret (v := 0) hx hb hr rfl (fun t ht hW => ⟨⟨_, (), rfl, e_7, po.ret ht hW hP9 hK hD9⟩, hS.F ht⟩) hS.2.2 dX4_isTaken_59
        · rw [lg_cmp_gt] at c_6
          refine lv_iconst (v := 1) hx hb dX4_isTaken_54 (by decide) ?_
          refine lv_goto (tgt := 59) hx hb dX4_isTaken_55 (by decide) ?_
          have hP9 : va_P (dC, dI) vwCl [(h0, .inr (5, [.int tol, .ref a1, .ref a2, .ref a3, .ref a4, .ref a5, .int fc, .long le, .long cal, .int inf, .int nib, .int nc]))] s.heap := by exact hP.sub [0] rfl
          have hD9 : va_D A [(h0, .inr (5, [.int tol, .ref a1, .ref a2, .ref a3, .ref a4, .ref a5, .int fc, .long le, .long cal, .int inf, .int nib, .int nc]))] := by exact hD.sub [0] (by decide) rfl
          have e_8 : (1 : Int32) = X4_isTaken_r tol cal len := by rw [X4_isTaken_r, if_neg c_1, if_pos c_3, if_neg c_4, if_neg c_6]
          exact W.zret (v := 1) hx hb hr rfl (fun t ht hW => ⟨⟨_, (), rfl, e_8, po.ret ht hW hP9 hK hD9⟩, hS.F ht⟩) hS.2.2 dX4_isTaken_59
    · rw [lg_cmp_le] at c_3
      refine lv_iconst (v := 0) hx hb dX4_isTaken_16 (by decide) ?_
      have hP9 : va_P (dC, dI) vwCl [(h0, .inr (5, [.int tol, .ref a1, .ref a2, .ref a3, .ref a4, .ref a5, .int fc, .long le, .long cal, .int inf, .int nib, .int nc]))] s.heap := by exact hP.sub [0] rfl
      have hD9 : va_D A [(h0, .inr (5, [.int tol, .ref a1, .ref a2, .ref a3, .ref a4, .ref a5, .int fc, .long le, .long cal, .int inf, .int nib, .int nc]))] := by exact hD.sub [0] (by decide) rfl
      have e_9 : (0 : Int32) = X4_isTaken_r tol cal len := by rw [X4_isTaken_r, if_neg c_1, if_neg c_3]
      exact W.zret (v := 0) hx hb hr rfl (fun t ht hW => ⟨⟨_, (), rfl, e_9, po.ret ht hW hP9 hK hD9⟩, hS.F ht⟩) hS.2.2 dX4_isTaken_17
def X4_keepFrame_frameCount (fc : Int32) : Int32 := if 64 ≤ fc then fc else (fc + 1)
def X4_keepFrame_a_ff (fc : Int32) (ff : Nat → Int32) (frame : Int32) : Nat → Int32 := if 64 ≤ fc then ff else (upd ff (fc.toNatClampNeg) frame)
set_option maxHeartbeats 4000000 in
set_option maxRecDepth 100000 in
theorem k_X4_keepFrame (l : Launch) (dC : Nat → ClassId) (dI : Nat → Nat → Nat) (sz : Nat) (h0 : Nat) (tol : Int32) (a1 : Nat) (a2 : Nat) (a3 : Nat) (a4 : Nat) (a5 : Nat) (fc : Int32) (le : Int64) (cal : Int64) (inf : Int32) (nib : Int32) (nc : Int32) (cA5 : ClassId) (ff : Nat → Int32) (frame : Int32) (hfc : ¬ fc < 0) : Met l yX4_keepFrame wsX4_keepFrame ({ frames := 0, cells := 0, slots := 0, locals := 0 }) (va_Pc [.ref h0, .int frame] (pr (dC, dI) [(cA5, .int)] [(h0, .inr (5, [.int tol, .ref a1, .ref a2, .ref a3, .ref a4, .ref a5, .int fc, .long le, .long cal, .int inf, .int nib, .int nc])), (a5, .inl (cA5, 64, .inl ff))] sz)) (va_Qv (fun _ : Unit => True) (fun _ t => po (dC, dI) [(cA5, .int)] (va_A [(h0, .inr (5, [.int tol, .ref a1, .ref a2, .ref a3, .ref a4, .ref a5, .int fc, .long le, .long cal, .int inf, .int nib, .int nc])), (a5, .inl (cA5, 64, .inl ff))] sz) [(h0, .inr (5, [.int tol, .ref a1, .ref a2, .ref a3, .ref a4, .ref a5, .int (X4_keepFrame_frameCount fc), .long le, .long cal, .int inf, .int nib, .int nc])), (a5, .inl (cA5, 64, .inl (X4_keepFrame_a_ff fc ff frame)))] t) (va_A [(h0, .inr (5, [.int tol, .ref a1, .ref a2, .ref a3, .ref a4, .ref a5, .int fc, .long le, .long cal, .int inf, .int nib, .int nc])), (a5, .inl (cA5, 64, .inl ff))] sz)) 0 0 (va_A [(h0, .inr (5, [.int tol, .ref a1, .ref a2, .ref a3, .ref a4, .ref a5, .int fc, .long le, .long cal, .int inf, .int nib, .int nc])), (a5, .inl (cA5, 64, .inl ff))] sz) := by
  refine Met.ofW (cc := cX4_keepFrame) (maxL := 2) (ret := none) (by decide) rfl ?_
  intro p e s m args below meth c s₁ B hml hv
  obtain ⟨rfl, hsz, hP, hK, hD0⟩ := hv
  have hx := B.exec
  have hb := B.bytes
  have hr := B.returns
  have hts := atoms_spec (ws := wsX4_keepFrame) B.pre
  have hown : s.vm.findClass RX4 = some m.cls := findClass_of_methodNamed B.named
  have hlocks := B.notSynchronized
  subst hsz
  have hD := hD0.self (sz := s.heap.size)
  generalize hAe : va_A [(h0, .inr (5, [.int tol, .ref a1, .ref a2, .ref a3, .ref a4, .ref a5, .int fc, .long le, .long cal, .int inf, .int nib, .int nc])), (a5, .inl (cA5, 64, .inl ff))] s.heap.size = A at hD ⊢
  have hA : ∀ q : Nat, s.heap.size ≤ q → A q := fun q h => by rw [← hAe]; exact Or.inr h
  have hS : va_S A s.heap s.heap [] := va_S.rf
  have hP : va_P (dC, dI) vwCl [(h0, .inr (5, [.int tol, .ref a1, .ref a2, .ref a3, .ref a4, .ref a5, .int fc, .long le, .long cal, .int inf, .int nib, .int nc])), (a5, .inl (cA5, 64, .inl ff))] s.heap := hP
  have iX4 : ∀ w ∈ wsX40, w ∈ wsX4_keepFrame := by decide +kernel
  have hl := lv_entry ([.ref h0, .int frame]) (n := 2) (Nat.le_of_ble_eq_true rfl)
  rw [lg_entry_eq]
  generalize (lg_sl ([.ref h0, .int frame]) ++ List.replicate (2 - (lg_sl ([.ref h0, .int frame])).length) Slot.unset).toArray = ls at hl ⊢
  have hl : lv_has ls 2 [(0, .ref h0), (1, .int frame)] := hl
  refine lv_aload_n hx hb dX4_keepFrame_0 rfl (lv_at hl 0 rfl) ?_
  refine va_get (D := (dC, dI)) (ci := 5) (v := .int fc) (C := RX4) (T := TX4) (N := 12) hx hb hts iX4 hown hK hP 0 rfl rfl 6 (by decide) (hts (.fieldLink RX4 69 "PulseRows" "frameCount" "I") (List.mem_of_getElem? (i := 1) rfl)) (fun _ h9 => h9) rfl dX4_keepFrame_1 ?_
  refine lv_aload_n hx hb dX4_keepFrame_4 rfl (lv_at hl 0 rfl) ?_
  refine va_get (D := (dC, dI)) (ci := 5) (v := .ref a5) (C := RX4) (T := TX4) (N := 12) hx hb hts iX4 hown hK hP 0 rfl rfl 5 (by decide) (hts (.fieldLink RX4 41 "PulseRows" "frames" "[I") (List.mem_of_getElem? (i := 2) rfl)) (fun _ h9 => h9) rfl dX4_keepFrame_5 ?_
  refine va_alen (v := 64) hx hb hK hP 1 0 rfl rfl rfl dX4_keepFrame_8 ?_
  refine lv_icmp_ge (tgt := 32) hx hb dX4_keepFrame_9 (by decide) (fun c_1 => ?_) (fun c_1 => ?_)
  · have e_2 : fc = X4_keepFrame_frameCount fc := by rw [X4_keepFrame_frameCount, if_pos c_1]
    have e_3 : ff = X4_keepFrame_a_ff fc ff frame := by rw [X4_keepFrame_a_ff, if_pos c_1]
    have hP9 : va_P (dC, dI) vwCl [(h0, .inr (5, [.int tol, .ref a1, .ref a2, .ref a3, .ref a4, .ref a5, .int (X4_keepFrame_frameCount fc), .long le, .long cal, .int inf, .int nib, .int nc])), (a5, .inl (cA5, 64, .inl (X4_keepFrame_a_ff fc ff frame)))] s.heap := by rw [← e_2, ← e_3]; exact hP.sub [0, 1] rfl
    have hD9 : va_D A [(h0, .inr (5, [.int tol, .ref a1, .ref a2, .ref a3, .ref a4, .ref a5, .int (X4_keepFrame_frameCount fc), .long le, .long cal, .int inf, .int nib, .int nc])), (a5, .inl (cA5, 64, .inl (X4_keepFrame_a_ff fc ff frame)))] := by rw [← e_2, ← e_3]; exact hD.sub [0, 1] (by decide) rfl
    exact W.vret hx hb hr (fun t ht hW => ⟨⟨(), rfl, trivial, po.ret ht hW hP9 hK hD9⟩, hS.F ht⟩) hS.2.2 dX4_keepFrame_32
  · refine lv_aload_n hx hb dX4_keepFrame_12 rfl (lv_at hl 0 rfl) ?_
    refine va_get (D := (dC, dI)) (ci := 5) (v := .ref a5) (C := RX4) (T := TX4) (N := 12) hx hb hts iX4 hown hK hP 0 rfl rfl 5 (by decide) (hts (.fieldLink RX4 41 "PulseRows" "frames" "[I") (List.mem_of_getElem? (i := 2) rfl)) (fun _ h9 => h9) rfl dX4_keepFrame_13 ?_
    refine lv_aload_n hx hb dX4_keepFrame_16 rfl (lv_at hl 0 rfl) ?_
    refine va_get (D := (dC, dI)) (ci := 5) (v := .int fc) (C := RX4) (T := TX4) (N := 12) hx hb hts iX4 hown hK hP 0 rfl rfl 6 (by decide) (hts (.fieldLink RX4 69 "PulseRows" "frameCount" "I") (List.mem_of_getElem? (i := 1) rfl)) (fun _ h9 => h9) rfl dX4_keepFrame_17 ?_
    refine lv_iload_n hx hb dX4_keepFrame_20 rfl (lv_at hl 1 rfl) ?_
    refine va_iast hx hb hK hP hD hS 1 0 rfl rfl (vin (N := 64) rfl hfc c_1) dX4_keepFrame_21 (fun H locs hP hD hS => ?_)
    have hP : va_P (dC, dI) vwCl [(h0, .inr (5, [.int tol, .ref a1, .ref a2, .ref a3, .ref a4, .ref a5, .int fc, .long le, .long cal, .int inf, .int nib, .int nc])), (a5, .inl (cA5, 64, .inl (upd ff (fc.toNatClampNeg) frame)))] H := hP
    have hD : va_D A [(h0, .inr (5, [.int tol, .ref a1, .ref a2, .ref a3, .ref a4, .ref a5, .int fc, .long le, .long cal, .int inf, .int nib, .int nc])), (a5, .inl (cA5, 64, .inl (upd ff (fc.toNatClampNeg) frame)))] := hD
    refine lv_aload_n hx hb dX4_keepFrame_22 rfl (lv_at hl 0 rfl) ?_
    refine lv_dup hx hb dX4_keepFrame_23 rfl ?_
    refine va_get (D := (dC, dI)) (ci := 5) (v := .int fc) (C := RX4) (T := TX4) (N := 12) hx hb hts iX4 hown hK hP 0 rfl rfl 6 (by decide) (hts (.fieldLink RX4 69 "PulseRows" "frameCount" "I") (List.mem_of_getElem? (i := 1) rfl)) (fun _ h9 => h9) rfl dX4_keepFrame_24 ?_
    refine lv_iconst (v := 1) hx hb dX4_keepFrame_27 (by decide) ?_
    refine lv_iadd hx hb dX4_keepFrame_28 ?_
    refine va_put (D := (dC, dI)) (ci := 5) (v := .int (fc + 1)) (ty := .int) (C := RX4) (T := TX4) (N := 12) hx hb hts iX4 tyX4 tyX4_ok nmX4 hown hK hP hD hS 0 rfl rfl 6 (by decide) (hts (.fieldLink RX4 69 "PulseRows" "frameCount" "I") (List.mem_of_getElem? (i := 1) rfl)) (fun _ h9 => h9) rfl (by decide +kernel) rfl rfl (Nat.le_of_ble_eq_true rfl) dX4_keepFrame_29 (fun H locs hP hD hS => ?_)
    have hP : va_P (dC, dI) vwCl [(h0, .inr (5, [.int tol, .ref a1, .ref a2, .ref a3, .ref a4, .ref a5, .int (fc + 1), .long le, .long cal, .int inf, .int nib, .int nc])), (a5, .inl (cA5, 64, .inl (upd ff (fc.toNatClampNeg) frame)))] H := hP
    have hD : va_D A [(h0, .inr (5, [.int tol, .ref a1, .ref a2, .ref a3, .ref a4, .ref a5, .int (fc + 1), .long le, .long cal, .int inf, .int nib, .int nc])), (a5, .inl (cA5, 64, .inl (upd ff (fc.toNatClampNeg) frame)))] := hD
    have e_4 : fc + 1 = X4_keepFrame_frameCount fc := by rw [X4_keepFrame_frameCount, if_neg c_1]
    have e_5 : upd ff (fc.toNatClampNeg) frame = X4_keepFrame_a_ff fc ff frame := by rw [X4_keepFrame_a_ff, if_neg c_1]
    have hP9 : va_P (dC, dI) vwCl [(h0, .inr (5, [.int tol, .ref a1, .ref a2, .ref a3, .ref a4, .ref a5, .int (X4_keepFrame_frameCount fc), .long le, .long cal, .int inf, .int nib, .int nc])), (a5, .inl (cA5, 64, .inl (X4_keepFrame_a_ff fc ff frame)))] H := by rw [← e_4, ← e_5]; exact hP.sub [0, 1] rfl
    have hD9 : va_D A [(h0, .inr (5, [.int tol, .ref a1, .ref a2, .ref a3, .ref a4, .ref a5, .int (X4_keepFrame_frameCount fc), .long le, .long cal, .int inf, .int nib, .int nc])), (a5, .inl (cA5, 64, .inl (X4_keepFrame_a_ff fc ff frame)))] := by rw [← e_4, ← e_5]; exact hD.sub [0, 1] (by decide) rfl
    exact W.vret hx hb hr (fun t ht hW => ⟨⟨(), rfl, trivial, po.ret ht hW hP9 hK hD9⟩, hS.F ht⟩) hS.2.2 dX4_keepFrame_32
def X4_hasFrame_r (fc : Int32) (ix : Int32) : Int32 := if ix < 0 then 0 else (if fc ≤ ix then 0 else (if 64 ≤ ix then 0 else 1))
theorem X4_hasFrame_r_z (fc : Int32) (ix : Int32) : z01 (X4_hasFrame_r fc ix) := by unfold X4_hasFrame_r; repeat (first | split | with_reducible assumption | with_reducible exact z01_0 | with_reducible exact z01_1 | with_reducible exact X0_tell_r_z _ _ _ _ _ (by assumption) | with_reducible exact X1_hasMark_r_z _ (by assumption) | with_reducible exact X3_moveTo_trackA_z _ (by assumption) | with_reducible exact X3_moveTo_trackB_z _ (by assumption) | with_reducible exact X3_moveTo_r_z _ _ _ _ (by assumption) (by assumption) | with_reducible exact X4_isOutsideTime_r_z _ | with_reducible exact X2_finishRow_r_z _ | with_reducible exact X2_take_r_z _ _ _ | with_reducible exact X4_isRight_r_z _ | with_reducible exact X4_isTaken_r_z _ _ _)
set_option maxHeartbeats 4000000 in
set_option maxRecDepth 100000 in
theorem k_X4_hasFrame (l : Launch) (dC : Nat → ClassId) (dI : Nat → Nat → Nat) (sz : Nat) (h0 : Nat) (tol : Int32) (a1 : Nat) (a2 : Nat) (a3 : Nat) (a4 : Nat) (a5 : Nat) (fc : Int32) (le : Int64) (cal : Int64) (inf : Int32) (nib : Int32) (nc : Int32) (cA5 : ClassId) (ff : Nat → Int32) (ix : Int32)  : Met l yX4_hasFrame wsX4_hasFrame ({ frames := 0, cells := 0, slots := 0, locals := 0 }) (va_Pc [.ref h0, .int ix] (pr (dC, dI) [(cA5, .int)] [(h0, .inr (5, [.int tol, .ref a1, .ref a2, .ref a3, .ref a4, .ref a5, .int fc, .long le, .long cal, .int inf, .int nib, .int nc])), (a5, .inl (cA5, 64, .inl ff))] sz)) (va_Qi (fun (r : Int32) (_ : Unit) => r = X4_hasFrame_r fc ix) (fun _ t => po (dC, dI) [(cA5, .int)] (va_A [(h0, .inr (5, [.int tol, .ref a1, .ref a2, .ref a3, .ref a4, .ref a5, .int fc, .long le, .long cal, .int inf, .int nib, .int nc])), (a5, .inl (cA5, 64, .inl ff))] sz) [(h0, .inr (5, [.int tol, .ref a1, .ref a2, .ref a3, .ref a4, .ref a5, .int fc, .long le, .long cal, .int inf, .int nib, .int nc])), (a5, .inl (cA5, 64, .inl ff))] t) (va_A [(h0, .inr (5, [.int tol, .ref a1, .ref a2, .ref a3, .ref a4, .ref a5, .int fc, .long le, .long cal, .int inf, .int nib, .int nc])), (a5, .inl (cA5, 64, .inl ff))] sz)) 0 0 (va_A [(h0, .inr (5, [.int tol, .ref a1, .ref a2, .ref a3, .ref a4, .ref a5, .int fc, .long le, .long cal, .int inf, .int nib, .int nc])), (a5, .inl (cA5, 64, .inl ff))] sz) := by
  refine Met.ofW (cc := cX4_hasFrame) (maxL := 2) (ret := (some .boolean)) (by decide) rfl ?_
  intro p e s m args below meth c s₁ B hml hv
  obtain ⟨rfl, hsz, hP, hK, hD0⟩ := hv
  have hx := B.exec
  have hb := B.bytes
  have hr := B.returns
  have hts := atoms_spec (ws := wsX4_hasFrame) B.pre
  have hown : s.vm.findClass RX4 = some m.cls := findClass_of_methodNamed B.named
  have hlocks := B.notSynchronized
  subst hsz
  have hD := hD0.self (sz := s.heap.size)
  generalize hAe : va_A [(h0, .inr (5, [.int tol, .ref a1, .ref a2, .ref a3, .ref a4, .ref a5, .int fc, .long le, .long cal, .int inf, .int nib, .int nc])), (a5, .inl (cA5, 64, .inl ff))] s.heap.size = A at hD ⊢
  have hA : ∀ q : Nat, s.heap.size ≤ q → A q := fun q h => by rw [← hAe]; exact Or.inr h
  have hS : va_S A s.heap s.heap [] := va_S.rf
  have hP : va_P (dC, dI) vwCl [(h0, .inr (5, [.int tol, .ref a1, .ref a2, .ref a3, .ref a4, .ref a5, .int fc, .long le, .long cal, .int inf, .int nib, .int nc])), (a5, .inl (cA5, 64, .inl ff))] s.heap := hP
  have iX4 : ∀ w ∈ wsX40, w ∈ wsX4_hasFrame := by decide +kernel
  have hl := lv_entry ([.ref h0, .int ix]) (n := 2) (Nat.le_of_ble_eq_true rfl)
  rw [lg_entry_eq]
  generalize (lg_sl ([.ref h0, .int ix]) ++ List.replicate (2 - (lg_sl ([.ref h0, .int ix])).length) Slot.unset).toArray = ls at hl ⊢
  have hl : lv_has ls 2 [(0, .ref h0), (1, .int ix)] := hl
  refine lv_iload_n hx hb dX4_hasFrame_0 rfl (lv_at hl 1 rfl) ?_
  refine lv_if_lt (tgt := 25) hx hb dX4_hasFrame_1 (by decide) (fun c_1 => ?_) (fun c_1 => ?_)
  · refine lv_iconst (v := 0) hx hb dX4_hasFrame_25 (by decide) ?_
    have hP9 : va_P (dC, dI) vwCl [(h0, .inr (5, [.int tol, .ref a1, .ref a2, .ref a3, .ref a4, .ref a5, .int fc, .long le, .long cal, .int inf, .int nib, .int nc])), (a5, .inl (cA5, 64, .inl ff))] s.heap := by exact hP.sub [0, 1] rfl
    have hD9 : va_D A [(h0, .inr (5, [.int tol, .ref a1, .ref a2, .ref a3, .ref a4, .ref a5, .int fc, .long le, .long cal, .int inf, .int nib, .int nc])), (a5, .inl (cA5, 64, .inl ff))] := by exact hD.sub [0, 1] (by decide) rfl
    have e_2 : (0 : Int32) = X4_hasFrame_r fc ix := by rw [X4_hasFrame_r, if_pos c_1]
    exact W.zret (v := 0) hx hb hr rfl (fun t ht hW => ⟨⟨_, (), rfl, e_2, po.ret ht hW hP9 hK hD9⟩, hS.F ht⟩) hS.2.2 dX4_hasFrame_26
  · refine lv_iload_n hx hb dX4_hasFrame_4 rfl (lv_at hl 1 rfl) ?_
    refine lv_aload_n hx hb dX4_hasFrame_5 rfl (lv_at hl 0 rfl) ?_
    refine va_get (D := (dC, dI)) (ci := 5) (v := .int fc) (C := RX4) (T := TX4) (N := 12) hx hb hts iX4 hown hK hP 0 rfl rfl 6 (by decide) (hts (.fieldLink RX4 69 "PulseRows" "frameCount" "I") (List.mem_of_getElem? (i := 1) rfl)) (fun _ h9 => h9) rfl dX4_hasFrame_6 ?_
    refine lv_icmp_ge (tgt := 25) hx hb dX4_hasFrame_9 (by decide) (fun c_3 => ?_) (fun c_3 => ?_)
    · refine lv_iconst (v := 0) hx hb dX4_hasFrame_25 (by decide) ?_
      have hP9 : va_P (dC, dI) vwCl [(h0, .inr (5, [.int tol, .ref a1, .ref a2, .ref a3, .ref a4, .ref a5, .int fc, .long le, .long cal, .int inf, .int nib, .int nc])), (a5, .inl (cA5, 64, .inl ff))] s.heap := by exact hP.sub [0, 1] rfl
      have hD9 : va_D A [(h0, .inr (5, [.int tol, .ref a1, .ref a2, .ref a3, .ref a4, .ref a5, .int fc, .long le, .long cal, .int inf, .int nib, .int nc])), (a5, .inl (cA5, 64, .inl ff))] := by exact hD.sub [0, 1] (by decide) rfl
      have e_4 : (0 : Int32) = X4_hasFrame_r fc ix := by rw [X4_hasFrame_r, if_neg c_1, if_pos c_3]
      exact W.zret (v := 0) hx hb hr rfl (fun t ht hW => ⟨⟨_, (), rfl, e_4, po.ret ht hW hP9 hK hD9⟩, hS.F ht⟩) hS.2.2 dX4_hasFrame_26
    · refine lv_iload_n hx hb dX4_hasFrame_12 rfl (lv_at hl 1 rfl) ?_
      refine lv_aload_n hx hb dX4_hasFrame_13 rfl (lv_at hl 0 rfl) ?_
      refine va_get (D := (dC, dI)) (ci := 5) (v := .ref a5) (C := RX4) (T := TX4) (N := 12) hx hb hts iX4 hown hK hP 0 rfl rfl 5 (by decide) (hts (.fieldLink RX4 41 "PulseRows" "frames" "[I") (List.mem_of_getElem? (i := 2) rfl)) (fun _ h9 => h9) rfl dX4_hasFrame_14 ?_
      refine va_alen (v := 64) hx hb hK hP 1 0 rfl rfl rfl dX4_hasFrame_17 ?_
      refine lv_icmp_ge (tgt := 25) hx hb dX4_hasFrame_18 (by decide) (fun c_5 => ?_) (fun c_5 => ?_)
      · refine lv_iconst (v := 0) hx hb dX4_hasFrame_25 (by decide) ?_
        have hP9 : va_P (dC, dI) vwCl [(h0, .inr (5, [.int tol, .ref a1, .ref a2, .ref a3, .ref a4, .ref a5, .int fc, .long le, .long cal, .int inf, .int nib, .int nc])), (a5, .inl (cA5, 64, .inl ff))] s.heap := by exact hP.sub [0, 1] rfl
        have hD9 : va_D A [(h0, .inr (5, [.int tol, .ref a1, .ref a2, .ref a3, .ref a4, .ref a5, .int fc, .long le, .long cal, .int inf, .int nib, .int nc])), (a5, .inl (cA5, 64, .inl ff))] := by exact hD.sub [0, 1] (by decide) rfl
        have e_6 : (0 : Int32) = X4_hasFrame_r fc ix := by rw [X4_hasFrame_r, if_neg c_1, if_neg c_3, if_pos c_5]
        exact W.zret (v := 0) hx hb hr rfl (fun t ht hW => ⟨⟨_, (), rfl, e_6, po.ret ht hW hP9 hK hD9⟩, hS.F ht⟩) hS.2.2 dX4_hasFrame_26
      · refine lv_iconst (v := 1) hx hb dX4_hasFrame_21 (by decide) ?_
        refine lv_goto (tgt := 26) hx hb dX4_hasFrame_22 (by decide) ?_
        have hP9 : va_P (dC, dI) vwCl [(h0, .inr (5, [.int tol, .ref a1, .ref a2, .ref a3, .ref a4, .ref a5, .int fc, .long le, .long cal, .int inf, .int nib, .int nc])), (a5, .inl (cA5, 64, .inl ff))] s.heap := by exact hP.sub [0, 1] rfl
        have hD9 : va_D A [(h0, .inr (5, [.int tol, .ref a1, .ref a2, .ref a3, .ref a4, .ref a5, .int fc, .long le, .long cal, .int inf, .int nib, .int nc])), (a5, .inl (cA5, 64, .inl ff))] := by exact hD.sub [0, 1] (by decide) rfl
        have e_7 : (1 : Int32) = X4_hasFrame_r fc ix := by rw [X4_hasFrame_r, if_neg c_1, if_neg c_3, if_neg c_5]
        exact W.zret (v := 1) hx hb hr rfl (fun t ht hW => ⟨⟨_, (), rfl, e_7, po.ret ht hW hP9 hK hD9⟩, hS.F ht⟩) hS.2.2 dX4_hasFrame_26
