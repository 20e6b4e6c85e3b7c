theorem vin {x N : Int32} {n : Nat} (hN : N.toInt = n) (h0 : ¬ x < 0) (h1 : ¬ N ≤ x) : vp_in x n := by
  rw [vp_in_iff]
  rw [Int32.lt_iff_toInt_lt] at h0
  rw [Int32.le_iff_toInt_le] at h1
  have e0 : (0 : Int32).toInt = 0 := rfl
  omega
def X2_messageAt_r (mcn : Int32) (mf : Nat → Int32) (ix : Int32) : Int32 := if ix < 0 then (-1) else (if mcn ≤ ix then (-1) else (if 4 ≤ ix then (-1) else (mf (ix.toNatClampNeg))))
set_option maxHeartbeats 4000000 in
set_option maxRecDepth 100000 in
theorem k_X2_messageAt (l : Launch) (dC : Nat → ClassId) (dI : Nat → Nat → Nat) (sz : Nat) (h0 : Nat) (a6 : Nat) (mcn : Int32) (bts : Int32) (bc : Int32) (cA6 : ClassId) (mf : Nat → Int32) (ix : Int32)  : Met l yX2_messageAt wsX2_messageAt ({ frames := 0, cells := 0, slots := 0, locals := 0 }) (va_Pc [.ref h0, .int ix] (pr (dC, dI) [(cA6, .int)] [(h0, .inr (3, [.ref a6, .int mcn, .int bts, .int bc])), (a6, .inl (cA6, 4, .inl mf))] sz)) (va_Qi (fun (r : Int32) (_ : Unit) => r = X2_messageAt_r mcn mf ix) (fun _ t => po (dC, dI) [(cA6, .int)] (va_A [(h0, .inr (3, [.ref a6, .int mcn, .int bts, .int bc])), (a6, .inl (cA6, 4, .inl mf))] sz) [(h0, .inr (3, [.ref a6, .int mcn, .int bts, .int bc])), (a6, .inl (cA6, 4, .inl mf))] t) (va_A [(h0, .inr (3, [.ref a6, .int mcn, .int bts, .int bc])), (a6, .inl (cA6, 4, .inl mf))] sz)) 0 0 (va_A [(h0, .inr (3, [.ref a6, .int mcn, .int bts, .int bc])), (a6, .inl (cA6, 4, .inl mf))] sz) := by
  refine Met.ofW (cc := cX2_messageAt) (maxL := 3) (ret := (some .int)) (by decide) rfl ?_
  intro p e s m args below meth c s₁ B hml hv
  obtain ⟨rfl, hsz, hP, hK, hD0⟩ := hv
  have hx := B.exec
  have hb := B.bytes
  have hr := B.returns
  have hts := atoms_spec (ws := wsX2_messageAt) B.pre
  have hown : s.vm.findClass RX2 = some m.cls := findClass_of_methodNamed B.named
  have hlocks := B.notSynchronized
  subst hsz
  have hD := hD0.self (sz := s.heap.size)
  generalize hAe : va_A [(h0, .inr (3, [.ref a6, .int mcn, .int bts, .int bc])), (a6, .inl (cA6, 4, .inl mf))] s.heap.size = A at hD ⊢
  have hA : ∀ q : Nat, s.heap.size ≤ q → A q := fun q h => by rw [← hAe]; exact Or.inr h
  have hS : va_S A s.heap s.heap [] := va_S.rf
  have hP : va_P (dC, dI) vwCl [(h0, .inr (3, [.ref a6, .int mcn, .int bts, .int bc])), (a6, .inl (cA6, 4, .inl mf))] s.heap := hP
  have iX2 : ∀ w ∈ wsX20, w ∈ wsX2_messageAt := by decide +kernel
  have hl := lv_entry ([.ref h0, .int ix]) (n := 3) (Nat.le_of_ble_eq_true rfl)
  rw [lg_entry_eq]
  generalize (lg_sl ([.ref h0, .int ix]) ++ List.replicate (3 - (lg_sl ([.ref h0, .int ix])).length) Slot.unset).toArray = ls at hl ⊢
  have hl : lv_has ls 3 [(0, .ref h0), (1, .int ix)] := hl
  refine lv_iload_n hx hb dX2_messageAt_0 rfl (lv_at hl 1 rfl) ?_
  refine lv_if_lt (tgt := 25) hx hb dX2_messageAt_1 (by decide) (fun c_1 => ?_) (fun c_1 => ?_)
  · refine lv_iconst (v := 0) hx hb dX2_messageAt_25 (by decide) ?_
    refine lv_istore_n (lv' := [(2, .int 0), (0, .ref h0), (1, .int ix)]) hx hb dX2_messageAt_26 rfl hl (by decide) rfl (fun ls hl => ?_)
    refine lv_iload_n hx hb dX2_messageAt_27 rfl (lv_at hl 0 rfl) ?_
    refine lv_if_eq (tgt := 40) hx hb dX2_messageAt_28 (by decide) (fun _ => ?_) (fun c9 => absurd c9 (by decide))
    refine lv_iconst (v := (-1)) hx hb dX2_messageAt_40 (by decide) ?_
    have hP9 : va_P (dC, dI) vwCl [(h0, .inr (3, [.ref a6, .int mcn, .int bts, .int bc])), (a6, .inl (cA6, 4, .inl mf))] s.heap := by exact hP.sub [0, 1] rfl
    have hD9 : va_D A [(h0, .inr (3, [.ref a6, .int mcn, .int bts, .int bc])), (a6, .inl (cA6, 4, .inl mf))] := by exact hD.sub [0, 1] (by decide) rfl
    have e_3 : ((-1) : Int32) = X2_messageAt_r mcn mf ix := by rw [X2_messageAt_r, if_pos c_1]
    exact W.iret (v := (-1)) hx hb hr (fun t ht hW => ⟨⟨_, (), rfl, e_3, po.ret ht hW hP9 hK hD9⟩, hS.F ht⟩) hS.2.2 dX2_messageAt_41
  · refine lv_iload_n hx hb dX2_messageAt_4 rfl (lv_at hl 1 rfl) ?_
    refine lv_aload_n hx hb dX2_messageAt_5 rfl (lv_at hl 0 rfl) ?_
    refine va_get (D := (dC, dI)) (ci := 3) (v := .int mcn) (C := RX2) (T := TX2) (N := 4) hx hb hts iX2 hown hK hP 0 rfl rfl 1 (by decide) (hts (.fieldLink RX2 29 "PulseRows$SlowChannel" "messageCount" "I") (List.mem_of_getElem? (i := 1) rfl)) (fun _ h9 => h9) rfl dX2_messageAt_6 ?_
    refine lv_icmp_ge (tgt := 25) hx hb dX2_messageAt_9 (by decide) (fun c_4 => ?_) (fun c_4 => ?_)
    · refine lv_iconst (v := 0) hx hb dX2_messageAt_25 (by decide) ?_
      refine lv_istore_n (lv' := [(2, .int 0), (0, .ref h0), (1, .int ix)]) hx hb dX2_messageAt_26 rfl hl (by decide) rfl (fun ls hl => ?_)
      refine lv_iload_n hx hb dX2_messageAt_27 rfl (lv_at hl 0 rfl) ?_
      refine lv_if_eq (tgt := 40) hx hb dX2_messageAt_28 (by decide) (fun _ => ?_) (fun c9 => absurd c9 (by decide))
      refine lv_iconst (v := (-1)) hx hb dX2_messageAt_40 (by decide) ?_
      have hP9 : va_P (dC, dI) vwCl [(h0, .inr (3, [.ref a6, .int mcn, .int bts, .int bc])), (a6, .inl (cA6, 4, .inl mf))] s.heap := by exact hP.sub [0, 1] rfl
      have hD9 : va_D A [(h0, .inr (3, [.ref a6, .int mcn, .int bts, .int bc])), (a6, .inl (cA6, 4, .inl mf))] := by exact hD.sub [0, 1] (by decide) rfl
      have e_6 : ((-1) : Int32) = X2_messageAt_r mcn mf ix := by rw [X2_messageAt_r, if_neg c_1, if_pos c_4]
      exact W.iret (v := (-1)) hx hb hr (fun t ht hW => ⟨⟨_, (), rfl, e_6, po.ret ht hW hP9 hK hD9⟩, hS.F ht⟩) hS.2.2 dX2_messageAt_41
    · refine lv_iload_n hx hb dX2_messageAt_12 rfl (lv_at hl 1 rfl) ?_
      refine lv_aload_n hx hb dX2_messageAt_13 rfl (lv_at hl 0 rfl) ?_
      refine va_get (D := (dC, dI)) (ci := 3) (v := .ref a6) (C := RX2) (T := TX2) (N := 4) hx hb hts iX2 hown hK hP 0 rfl rfl 0 (by decide) (hts (.fieldLink RX2 11 "PulseRows$SlowChannel" "messages" "[I") (List.mem_of_getElem? (i := 2) rfl)) (fun _ h9 => h9) rfl dX2_messageAt_14 ?_
      refine va_alen (v := 4) hx hb hK hP 1 0 rfl rfl rfl dX2_messageAt_17 ?_
      refine lv_icmp_ge (tgt := 25) hx hb dX2_messageAt_18 (by decide) (fun c_7 => ?_) (fun c_7 => ?_)
      · refine lv_iconst (v := 0) hx hb dX2_messageAt_25 (by decide) ?_
        refine lv_istore_n (lv' := [(2, .int 0), (0, .ref h0), (1, .int ix)]) hx hb dX2_messageAt_26 rfl hl (by decide) rfl (fun ls hl => ?_)
        refine lv_iload_n hx hb dX2_messageAt_27 rfl (lv_at hl 0 rfl) ?_
        refine lv_if_eq (tgt := 40) hx hb dX2_messageAt_28 (by decide) (fun _ => ?_) (fun c9 => absurd c9 (by decide))
        refine lv_iconst (v := (-1)) hx hb dX2_messageAt_40 (by decide) ?_
        have hP9 : va_P (dC, dI) vwCl [(h0, .inr (3, [.ref a6, .int mcn, .int bts, .int bc])), (a6, .inl (cA6, 4, .inl mf))] s.heap := by exact hP.sub [0, 1] rfl
        have hD9 : va_D A [(h0, .inr (3, [.ref a6, .int mcn, .int bts, .int bc])), (a6, .inl (cA6, 4, .inl mf))] := by exact hD.sub [0, 1] (by decide) rfl
        have e_9 : ((-1) : Int32) = X2_messageAt_r mcn mf ix := by rw [X2_messageAt_r, if_neg c_1, if_neg c_4, if_pos c_7]
        exact W.iret (v := (-1)) hx hb hr (fun t ht hW => ⟨⟨_, (), rfl, e_9, po.ret ht hW hP9 hK hD9⟩, hS.F ht⟩) hS.2.2 dX2_messageAt_41
      · refine lv_iconst (v := 1) hx hb dX2_messageAt_21 (by decide) ?_
        refine lv_goto (tgt := 26) hx hb dX2_messageAt_22 (by decide) ?_
        refine lv_istore_n (lv' := [(2, .int 1), (0, .ref h0), (1, .int ix)]) hx hb dX2_messageAt_26 rfl hl (by decide) rfl (fun ls hl => ?_)
        refine lv_iload_n hx hb dX2_messageAt_27 rfl (lv_at hl 0 rfl) ?_
        refine lv_if_eq (tgt := 40) hx hb dX2_messageAt_28 (by decide) (fun c9 => absurd c9 (by decide)) (fun _ => ?_)
        refine lv_aload_n hx hb dX2_messageAt_31 rfl (lv_at hl 1 rfl) ?_
        refine va_get (D := (dC, dI)) (ci := 3) (v := .ref a6) (C := RX2) (T := TX2) (N := 4) hx hb hts iX2 hown hK hP 0 rfl rfl 0 (by decide) (hts (.fieldLink RX2 11 "PulseRows$SlowChannel" "messages" "[I") (List.mem_of_getElem? (i := 2) rfl)) (fun _ h9 => h9) rfl dX2_messageAt_32 ?_
        refine lv_iload_n hx hb dX2_messageAt_35 rfl (lv_at hl 2 rfl) ?_
        refine va_iald hx hb hK hP 1 0 rfl rfl (vin (N := 4) rfl c_1 c_7) dX2_messageAt_36 ?_
        refine lv_goto (tgt := 41) hx hb dX2_messageAt_37 (by decide) ?_
        have hP9 : va_P (dC, dI) vwCl [(h0, .inr (3, [.ref a6, .int mcn, .int bts, .int bc])), (a6, .inl (cA6, 4, .inl mf))] s.heap := by exact hP.sub [0, 1] rfl
        have hD9 : va_D A [(h0, .inr (3, [.ref a6, .int mcn, .int bts, .int bc])), (a6, .inl (cA6, 4, .inl mf))] := by exact hD.sub [0, 1] (by decide) rfl
        have e_11 : mf (ix.toNatClampNeg) = X2_messageAt_r mcn mf ix := by rw [X2_messageAt_r, if_neg c_1, if_neg c_4, if_neg c_7]
        exact W.iret (v := mf (ix.toNatClampNeg)) hx hb hr (fun t ht hW => ⟨⟨_, (), rfl, e_11, po.ret ht hW hP9 hK hD9⟩, hS.F ht⟩) hS.2.2 dX2_messageAt_41
def X2_finishRow_messageCount (mcn : Int32) (wh : Int32) : Int32 := if (X4_checking_r (ush wh 4) 3) = (X4_nibbleAt_r wh 0) then (if 4 ≤ mcn then mcn else (mcn + 1)) else mcn
def X2_finishRow_a_mf (mcn : Int32) (mf : Nat → Int32) (wh : Int32) : Nat → Int32 := if (X4_checking_r (ush wh 4) 3) = (X4_nibbleAt_r wh 0) then (if 4 ≤ mcn then mf else (upd mf (mcn.toNatClampNeg) (ush wh 4))) else mf
def X2_finishRow_r (wh : Int32) : Int32 := if (X4_checking_r (ush wh 4) 3) = (X4_nibbleAt_r wh 0) then 1 else 0
theorem X2_finishRow_r_z (wh : Int32) : z01 (X2_finishRow_r wh) := by unfold X2_finishRow_r; repeat (first | split | with_reducible assumption | with_reducible exact z01_0 | with_reducible exact z01_1 | with_reducible exact X0_tell_r_z _ _ _ _ _ (by assumption) | with_reducible exact X1_hasMark_r_z _ (by assumption) | with_reducible exact X3_moveTo_trackA_z _ (by assumption) | with_reducible exact X3_moveTo_trackB_z _ (by assumption) | with_reducible exact X3_moveTo_r_z _ _ _ _ (by assumption) (by assumption) | with_reducible exact X4_isOutsideTime_r_z _)
set_option maxHeartbeats 4000000 in
set_option maxRecDepth 100000 in
theorem k_X2_finishRow (l : Launch) (dC : Nat → ClassId) (dI : Nat → Nat → Nat) (sz : Nat) (tb : Nat) (h0 : Nat) (a6 : Nat) (mcn : Int32) (bts : Int32) (bc : Int32) (cA6 : ClassId) (mf : Nat → Int32) (wh : Int32) (hmc : ¬ mcn < 0) : Met l yX2_finishRow wsX2_finishRow ({ frames := 2, cells := 0, slots := 0, locals := 44 }) (va_Pc [.ref h0, .int wh] (prE tb (dC, dI) [(cA6, .int)] [(h0, .inr (3, [.ref a6, .int mcn, .int bts, .int bc])), (a6, .inl (cA6, 4, .inl mf))] sz)) (va_Qi (fun (r : Int32) (_ : Unit) => r = X2_finishRow_r wh) (fun _ t => po (dC, dI) [(cA6, .int)] (va_A [(h0, .inr (3, [.ref a6, .int mcn, .int bts, .int bc])), (a6, .inl (cA6, 4, .inl mf))] sz) [(h0, .inr (3, [.ref a6, .int (X2_finishRow_messageCount mcn wh), .int bts, .int bc])), (a6, .inl (cA6, 4, .inl (X2_finishRow_a_mf mcn mf wh)))] t) (va_A [(h0, .inr (3, [.ref a6, .int mcn, .int bts, .int bc])), (a6, .inl (cA6, 4, .inl mf))] sz)) 0 0 (va_A [(h0, .inr (3, [.ref a6, .int mcn, .int bts, .int bc])), (a6, .inl (cA6, 4, .inl mf))] sz) := by
  refine Met.ofW (cc := cX2_finishRow) (maxL := 3) (ret := (some .boolean)) (by decide) rfl ?_
  intro p e s m args below meth c s₁ B hml hv
  obtain ⟨rfl, ⟨hsz, hP, hK, hD0⟩, hE⟩ := hv
  have hx := B.exec
  have hb := B.bytes
  have hr := B.returns
  have hts := atoms_spec (ws := wsX2_finishRow) B.pre
  have hown : s.vm.findClass RX2 = some m.cls := findClass_of_methodNamed B.named
  have hlocks := B.notSynchronized
  subst hsz
  have hD := hD0.self (sz := s.heap.size)
  generalize hAe : va_A [(h0, .inr (3, [.ref a6, .int mcn, .int bts, .int bc])), (a6, .inl (cA6, 4, .inl mf))] s.heap.size = A at hD hE ⊢
  have hA : ∀ q : Nat, s.heap.size ≤ q → A q := fun q h => by rw [← hAe]; exact Or.inr h
  have hS : va_S A s.heap s.heap [] := va_S.rf
  have hP : va_P (dC, dI) vwCl [(h0, .inr (3, [.ref a6, .int mcn, .int bts, .int bc])), (a6, .inl (cA6, 4, .inl mf))] s.heap := hP
  have iX2 : ∀ w ∈ wsX20, w ∈ wsX2_finishRow := by decide +kernel
  have hl := lv_entry ([.ref h0, .int wh]) (n := 3) (Nat.le_of_ble_eq_true rfl)
  rw [lg_entry_eq]
  generalize (lg_sl ([.ref h0, .int wh]) ++ List.replicate (3 - (lg_sl ([.ref h0, .int wh])).length) Slot.unset).toArray = ls at hl ⊢
  have hl : lv_has ls 3 [(0, .ref h0), (1, .int wh)] := hl
  refine lv_iload_n hx hb dX2_finishRow_0 rfl (lv_at hl 1 rfl) ?_
  refine lv_iconst (v := 4) hx hb dX2_finishRow_1 (by decide) ?_
  refine lv_iushr (v := ush wh 4) hx hb dX2_finishRow_2 rfl ?_
  refine lv_istore_n (lv' := [(2, .int (ush wh 4)), (0, .ref h0), (1, .int wh)]) hx hb dX2_finishRow_3 rfl hl (by decide) rfl (fun ls hl => ?_)
  refine lv_iload_n hx hb dX2_finishRow_4 rfl (lv_at hl 0 rfl) ?_
  refine lv_iconst (v := 3) hx hb dX2_finishRow_5 (by decide) ?_
  have hPc := hP.sub (ws' := []) [] rfl
  have hDc := hD.sub (ws' := []) [] (by decide) rfl
  have hKc := hK.sub (tys' := []) [] rfl
  have hFc := va_free (wc := []) hD hS hA [] rfl
  refine va_calli (va_runSN (As := [.int (ush wh 4), .int 3]) (rest := []) ⟨hx, hb, hml, hown, hts⟩ (k_X4_checking l dC dI s.heap.size tb (ush wh 4) 3 3 rfl (by decide)) ⟨va_cnB (host := "PulseRows") 2 hts gX2_finishRow_X4_checking_n32 rfl rfl rfl hE.2.2.1 (hts (.initialized RX4) (List.mem_of_getElem? (i := 4) rfl)) (by decide +kernel) ⟨Nat.le_of_ble_eq_true rfl, Nat.le_of_ble_eq_true rfl⟩, (hts (.static yX4_checking) (List.mem_of_getElem? (i := 3) rfl)), trivial⟩ ⟨prE.blind, fun U hU hW => ⟨rfl, prE.call hE hS hFc hU hW hPc hKc hDc⟩⟩ rfl rfl hl.1 rfl (lv_room (Nat.le_of_ble_eq_true rfl)) dX2_finishRow_6 ⟨Nat.le_of_ble_eq_true rfl, Nat.le_of_ble_eq_true rfl⟩) hS (fun q _ h => hFc q h) hFc (fun r_1 u t H1 locs ht hvm hw hB hz1 hk1 hS => ?_)
  subst r_1
  obtain ⟨hP, hD⟩ := po.join (wr := [(h0, .inr (3, [.ref a6, .int mcn, .int bts, .int bc])), (a6, .inl (cA6, 4, .inl mf))]) hP hD [] [0, 1] rfl rfl (by decide) (by decide) hk1 hFc ht hB
  generalize H1 = H at hP hS ⊢
  clear ht hvm hB hz1 hk1 hPc hDc hKc hFc
  have hP : va_P (dC, dI) vwCl [(h0, .inr (3, [.ref a6, .int mcn, .int bts, .int bc])), (a6, .inl (cA6, 4, .inl mf))] H := hP
  have hD : va_D A [(h0, .inr (3, [.ref a6, .int mcn, .int bts, .int bc])), (a6, .inl (cA6, 4, .inl mf))] := hD
  refine W.widen (k := 0) (n := 0) (Nat.le_of_ble_eq_true rfl) (Nat.le_of_ble_eq_true rfl) ?_
  refine lv_iload_n hx hb dX2_finishRow_9 rfl (lv_at hl 2 rfl) ?_
  refine lv_iconst (v := 0) hx hb dX2_finishRow_10 (by decide) ?_
  have hPc := hP.sub (ws' := []) [] rfl
  have hDc := hD.sub (ws' := []) [] (by decide) rfl
  have hKc := hK.sub (tys' := []) [] rfl
  have hFc := va_free (wc := []) hD hS hA [] rfl
  refine va_calli (va_runSN (As := [.int wh, .int 0]) (rest := [.int (X4_checking_r (ush wh 4) 3)]) ⟨hx, hb, hml, hown, hts⟩ (k_X4_nibbleAt l dC dI H.size wh 0) ⟨va_cnB (host := "PulseRows") 2 hts gX2_finishRow_X4_nibbleAt_n36 rfl rfl rfl hE.2.2.2 (hts (.initialized RX4) (List.mem_of_getElem? (i := 4) rfl)) (by decide +kernel) ⟨Nat.le_of_ble_eq_true rfl, Nat.le_of_ble_eq_true rfl⟩, (hts (.static yX4_nibbleAt) (List.mem_of_getElem? (i := 8) rfl)), trivial⟩ ⟨pr.blind, fun U hU hW => ⟨rfl, pr.call hU hW hPc hKc hDc⟩⟩ rfl rfl hl.1 rfl (lv_room (Nat.le_of_ble_eq_true rfl)) dX2_finishRow_11 ⟨Nat.le_of_ble_eq_true rfl, Nat.le_of_ble_eq_true rfl⟩) hS (fun q _ h => hFc q h) hFc (fun r_2 u t H1 locs ht hvm hw hB hz1 hk1 hS => ?_)
  subst r_2
  obtain ⟨hP, hD⟩ := po.join (wr := [(h0, .inr (3, [.ref a6, .int mcn, .int bts, .int bc])), (a6, .inl (cA6, 4, .inl mf))]) hP hD [] [0, 1] rfl rfl (by decide) (by decide) hk1 hFc ht hB
  generalize H1 = H at hP hS ⊢
  clear ht hvm hB hz1 hk1 hPc hDc hKc hFc
  have hP : va_P (dC, dI) vwCl [(h0, .inr (3, [.ref a6, .int mcn, .int bts, .int bc])), (a6, .inl (cA6, 4, .inl mf))] H := hP
  have hD : va_D A [(h0, .inr (3, [.ref a6, .int mcn, .int bts, .int bc])), (a6, .inl (cA6, 4, .inl mf))] := hD
  refine W.widen (k := 0) (n := 0) (Nat.le_of_ble_eq_true rfl) (Nat.le_of_ble_eq_true rfl) ?_
  refine lv_icmp_eq (tgt := 19) hx hb dX2_finishRow_14 (by decide) (fun c_3 => ?_) (fun c_3 => ?_)
  · refine lv_aload_n hx hb dX2_finishRow_19 rfl (lv_at hl 1 rfl) ?_
    refine va_get (D := (dC, dI)) (ci := 3) (v := .int mcn) (C := RX2) (T := TX2) (N := 4) hx hb hts iX2 hown hK hP 0 rfl rfl 1 (by decide) (hts (.fieldLink RX2 29 "PulseRows$SlowChannel" "messageCount" "I") (List.mem_of_getElem? (i := 1) rfl)) (fun _ h9 => h9) rfl dX2_finishRow_20 ?_
    refine lv_aload_n hx hb dX2_finishRow_23 rfl (lv_at hl 1 rfl) ?_
    refine va_get (D := (dC, dI)) (ci := 3) (v := .ref a6) (C := RX2) (T := TX2) (N := 4) hx hb hts iX2 hown hK hP 0 rfl rfl 0 (by decide) (hts (.fieldLink RX2 11 "PulseRows$SlowChannel" "messages" "[I") (List.mem_of_getElem? (i := 2) rfl)) (fun _ h9 => h9) rfl dX2_finishRow_24 ?_
    refine va_alen (v := 4) hx hb hK hP 1 0 rfl rfl rfl dX2_finishRow_27 ?_
    refine lv_icmp_ge (tgt := 51) hx hb dX2_finishRow_28 (by decide) (fun c_4 => ?_) (fun c_4 => ?_)
    · refine lv_iconst (v := 1) hx hb dX2_finishRow_51 (by decide) ?_
      have e_5 : mcn = X2_finishRow_messageCount mcn wh := by rw [X2_finishRow_messageCount, if_pos c_3, if_pos c_4]
      have e_6 : mf = X2_finishRow_a_mf mcn mf wh := by rw [X2_finishRow_a_mf, if_pos c_3, if_pos c_4]
      have hP9 : va_P (dC, dI) vwCl [(h0, .inr (3, [.ref a6, .int (X2_finishRow_messageCount mcn wh), .int bts, .int bc])), (a6, .inl (cA6, 4, .inl (X2_finishRow_a_mf mcn mf wh)))] H := by rw [← e_5, ← e_6]; exact hP.sub [0, 1] rfl
      have hD9 : va_D A [(h0, .inr (3, [.ref a6, .int (X2_finishRow_messageCount mcn wh), .int bts, .int bc])), (a6, .inl (cA6, 4, .inl (X2_finishRow_a_mf mcn mf wh)))] := by rw [← e_5, ← e_6]; exact hD.sub [0, 1] (by decide) rfl
      have e_7 : (1 : Int32) = X2_finishRow_r wh := by rw [X2_finishRow_r, if_pos c_3]
      exact W.zret (v := 1) hx hb hr rfl (fun t ht hW => ⟨⟨_, (), rfl, e_7, po.ret ht hW hP9 hK hD9⟩, hS.F ht⟩) hS.2.2 dX2_finishRow_52
    · refine lv_aload_n hx hb dX2_finishRow_31 rfl (lv_at hl 1 rfl) ?_
      refine va_get (D := (dC, dI)) (ci := 3) (v := .ref a6) (C := RX2) (T := TX2) (N := 4) hx hb hts iX2 hown hK hP 0 rfl rfl 0 (by decide) (hts (.fieldLink RX2 11 "PulseRows$SlowChannel" "messages" "[I") (List.mem_of_getElem? (i := 2) rfl)) (fun _ h9 => h9) rfl dX2_finishRow_32 ?_
      refine lv_aload_n hx hb dX2_finishRow_35 rfl (lv_at hl 1 rfl) ?_
      refine va_get (D := (dC, dI)) (ci := 3) (v := .int mcn) (C := RX2) (T := TX2) (N := 4) hx hb hts iX2 hown hK hP 0 rfl rfl 1 (by decide) (hts (.fieldLink RX2 29 "PulseRows$SlowChannel" "messageCount" "I") (List.mem_of_getElem? (i := 1) rfl)) (fun _ h9 => h9) rfl dX2_finishRow_36 ?_
      refine lv_iload_n hx hb dX2_finishRow_39 rfl (lv_at hl 0 rfl) ?_
      refine va_iast hx hb hK hP hD hS 1 0 rfl rfl (vin (N := 4) rfl hmc c_4) dX2_finishRow_40 (fun H locs hP hD hS => ?_)
      have hP : va_P (dC, dI) vwCl [(h0, .inr (3, [.ref a6, .int mcn, .int bts, .int bc])), (a6, .inl (cA6, 4, .inl (upd mf (mcn.toNatClampNeg) (ush wh 4))))] H := hP
      have hD : va_D A [(h0, .inr (3, [.ref a6, .int mcn, .int bts, .int bc])), (a6, .inl (cA6, 4, .inl (upd mf (mcn.toNatClampNeg) (ush wh 4))))] := hD
      refine lv_aload_n hx hb dX2_finishRow_41 rfl (lv_at hl 1 rfl) ?_
      refine lv_dup hx hb dX2_finishRow_42 rfl ?_
      refine va_get (D := (dC, dI)) (ci := 3) (v := .int mcn) (C := RX2) (T := TX2) (N := 4) hx hb hts iX2 hown hK hP 0 rfl rfl 1 (by decide) (hts (.fieldLink RX2 29 "PulseRows$SlowChannel" "messageCount" "I") (List.mem_of_getElem? (i := 1) rfl)) (fun _ h9 => h9) rfl dX2_finishRow_43 ?_
      refine lv_iconst (v := 1) hx hb dX2_finishRow_46 (by decide) ?_
      refine lv_iadd hx hb dX2_finishRow_47 ?_
      refine va_put (D := (dC, dI)) (ci := 3) (v := .int (mcn + 1)) (ty := .int) (C := RX2) (T := TX2) (N := 4) hx hb hts iX2 tyX2 tyX2_ok nmX2 hown hK hP hD hS 0 rfl rfl 1 (by decide) (hts (.fieldLink RX2 29 "PulseRows$SlowChannel" "messageCount" "I") (List.mem_of_getElem? (i := 1) rfl)) (fun _ h9 => h9) rfl (by decide +kernel) rfl rfl (Nat.le_of_ble_eq_true rfl) dX2_finishRow_48 (fun H locs hP hD hS => ?_)
      have hP : va_P (dC, dI) vwCl [(h0, .inr (3, [.ref a6, .int (mcn + 1), .int bts, .int bc])), (a6, .inl (cA6, 4, .inl (upd mf (mcn.toNatClampNeg) (ush wh 4))))] H := hP
      have hD : va_D A [(h0, .inr (3, [.ref a6, .int (mcn + 1), .int bts, .int bc])), (a6, .inl (cA6, 4, .inl (upd mf (mcn.toNatClampNeg) (ush wh 4))))] := hD
      refine lv_iconst (v := 1) hx hb dX2_finishRow_51 (by decide) ?_
      have e_8 : mcn + 1 = X2_finishRow_messageCount mcn wh := by rw [X2_finishRow_messageCount, if_pos c_3, if_neg c_4]
      have e_9 : upd mf (mcn.toNatClampNeg) (ush wh 4) = X2_finishRow_a_mf mcn mf wh := by rw [X2_finishRow_a_mf, if_pos c_3, if_neg c_4]
      have hP9 : va_P (dC, dI) vwCl [(h0, .inr (3, [.ref a6, .int (X2_finishRow_messageCount mcn wh), .int bts, .int bc])), (a6, .inl (cA6, 4, .inl (X2_finishRow_a_mf mcn mf wh)))] H := by rw [← e_8, ← e_9]; exact hP.sub [0, 1] rfl
      have hD9 : va_D A [(h0, .inr (3, [.ref a6, .int (X2_finishRow_messageCount mcn wh), .int bts, .int bc])), (a6, .inl (cA6, 4, .inl (X2_finishRow_a_mf mcn mf wh)))] := by rw [← e_8, ← e_9]; exact hD.sub [0, 1] (by decide) rfl
      have e_10 : (1 : Int32) = X2_finishRow_r wh := by rw [X2_finishRow_r, if_pos c_3]
      exact W.zret (v := 1) hx hb hr rfl (fun t ht hW => ⟨⟨_, (), rfl, e_10, po.ret ht hW hP9 hK hD9⟩, hS.F ht⟩) hS.2.2 dX2_finishRow_52
  · refine lv_iconst (v := 0) hx hb dX2_finishRow_17 (by decide) ?_
    have e_11 : mcn = X2_finishRow_messageCount mcn wh := by rw [X2_finishRow_messageCount, if_neg c_3]
    have e_12 : mf = X2_finishRow_a_mf mcn mf wh := by rw [X2_finishRow_a_mf, if_neg c_3]
    have hP9 : va_P (dC, dI) vwCl [(h0, .inr (3, [.ref a6, .int (X2_finishRow_messageCount mcn wh), .int bts, .int bc])), (a6, .inl (cA6, 4, .inl (X2_finishRow_a_mf mcn mf wh)))] H := by rw [← e_11, ← e_12]; exact hP.sub [0, 1] rfl
    have hD9 : va_D A [(h0, .inr (3, [.ref a6, .int (X2_finishRow_messageCount mcn wh), .int bts, .int bc])), (a6, .inl (cA6, 4, .inl (X2_finishRow_a_mf mcn mf wh)))] := by rw [← e_11, ← e_12]; exact hD.sub [0, 1] (by decide) rfl
    have e_13 : (0 : Int32) = X2_finishRow_r wh := by rw [X2_finishRow_r, if_neg c_3]
    exact W.zret (v := 0) hx hb hr rfl (fun t ht hW => ⟨⟨_, (), rfl, e_13, po.ret ht hW hP9 hK hD9⟩, hS.F ht⟩) hS.2.2 dX2_finishRow_18
def X2_take_messageCount (mcn : Int32) (bts : Int32) (bc : Int32) (sts : Int32) : Int32 := if (sts &&& 8) = 0 then (if bc = 0 then mcn else (if (sts &&& 4) = 0 then (if 16 ≤ (bc + 1) then (X2_finishRow_messageCount mcn ((bts <<< ((1 : Int32) &&& 31)) ||| 0)) else mcn) else (if 16 ≤ (bc + 1) then (X2_finishRow_messageCount mcn ((bts <<< ((1 : Int32) &&& 31)) ||| 1)) else mcn))) else mcn
def X2_take_bits (bts : Int32) (bc : Int32) (sts : Int32) : Int32 := if (sts &&& 8) = 0 then (if bc = 0 then bts else (if (sts &&& 4) = 0 then (if 16 ≤ (bc + 1) then 0 else ((bts <<< ((1 : Int32) &&& 31)) ||| 0)) else (if 16 ≤ (bc + 1) then 0 else ((bts <<< ((1 : Int32) &&& 31)) ||| 1)))) else (if (sts &&& 4) = 0 then 0 else 1)
def X2_take_bitCount (bc : Int32) (sts : Int32) : Int32 := if (sts &&& 8) = 0 then (if bc = 0 then bc else (if 16 ≤ (bc + 1) then 0 else (bc + 1))) else 1
def X2_take_a_mf (mcn : Int32) (bts : Int32) (bc : Int32) (mf : Nat → Int32) (sts : Int32) : Nat → Int32 := if (sts &&& 8) = 0 then (if bc = 0 then mf else (if (sts &&& 4) = 0 then (if 16 ≤ (bc + 1) then (X2_finishRow_a_mf mcn mf ((bts <<< ((1 : Int32) &&& 31)) ||| 0)) else mf) else (if 16 ≤ (bc + 1) then (X2_finishRow_a_mf mcn mf ((bts <<< ((1 : Int32) &&& 31)) ||| 1)) else mf))) else mf
def X2_take_r (bts : Int32) (bc : Int32) (sts : Int32) : Int32 := if (sts &&& 8) = 0 then (if bc = 0 then 1 else (if (sts &&& 4) = 0 then (if 16 ≤ (bc + 1) then (X2_finishRow_r ((bts <<< ((1 : Int32) &&& 31)) ||| 0)) else 1) else (if 16 ≤ (bc + 1) then (X2_finishRow_r ((bts <<< ((1 : Int32) &&& 31)) ||| 1)) else 1))) else 1
theorem X2_take_r_z (bts : Int32) (bc : Int32) (sts : Int32) : z01 (X2_take_r bts bc sts) := by unfold X2_take_r; repeat (first | split | with_reducible assumption | with_reducible exact z01_0 | with_reducible exact z01_1 | with_reducible exact X0_tell_r_z _ _ _ _ _ (by assumption) | with_reducible exact X1_hasMark_r_z _ (by assumption) | with_reducible exact X3_moveTo_trackA_z _ (by assumption) | with_reducible exact X3_moveTo_trackB_z _ (by assumption) | with_reducible exact X3_moveTo_r_z _ _ _ _ (by assumption) (by assumption) | with_reducible exact X4_isOutsideTime_r_z _ | with_reducible exact X2_finishRow_r_z _)
set_option maxHeartbeats 4000000 in
set_option maxRecDepth 100000 in
theorem k_X2_take (l : Launch) (dC : Nat → ClassId) (dI : Nat → Nat → Nat) (sz : Nat) (tb : Nat) (h0 : Nat) (a6 : Nat) (mcn : Int32) (bts : Int32) (bc : Int32) (cA6 : ClassId) (mf : Nat → Int32) (sts : Int32) (hmc : ¬ mcn < 0) : Met l yX2_take wsX2_take ({ frames := 3, cells := 0, slots := 0, locals := 66 }) (va_Pc [.ref h0, .int sts] (prE tb (dC, dI) [(cA6, .int)] [(h0, .inr (3, [.ref a6, .int mcn, .int bts, .int bc])), (a6, .inl (cA6, 4, .inl mf))] sz)) (va_Qi (fun (r : Int32) (_ : Unit) => r = X2_take_r bts bc sts) (fun _ t => po (dC, dI) [(cA6, .int)] (va_A [(h0, .inr (3, [.ref a6, .int mcn, .int bts, .int bc])), (a6, .inl (cA6, 4, .inl mf))] sz) [(h0, .inr (3, [.ref a6, .int (X2_take_messageCount mcn bts bc sts), .int (X2_take_bits bts bc sts), .int (X2_take_bitCount bc sts)])), (a6, .inl (cA6, 4, .inl (X2_take_a_mf mcn bts bc mf sts)))] t) (va_A [(h0, .inr (3, [.ref a6, .int mcn, .int bts, .int bc])), (a6, .inl (cA6, 4, .inl mf))] sz)) 0 0 (va_A [(h0, .inr (3, [.ref a6, .int mcn, .int bts, .int bc])), (a6, .inl (cA6, 4, .inl mf))] sz) := by
  refine Met.ofW (cc := cX2_take) (maxL := 3) (ret := (some .boolean)) (by decide) rfl ?_
  intro p e s m args below meth c s₁ B hml hv
  obtain ⟨rfl, ⟨hsz, hP, hK, hD0⟩, hE⟩ := hv
  have hx := B.exec
  have hb := B.bytes
  have hr := B.returns
  have hts := atoms_spec (ws := wsX2_take) B.pre
  have hown : s.vm.findClass RX2 = some m.cls := findClass_of_methodNamed B.named
  have hlocks := B.notSynchronized
  subst hsz
  have hD := hD0.self (sz := s.heap.size)
  generalize hAe : va_A [(h0, .inr (3, [.ref a6, .int mcn, .int bts, .int bc])), (a6, .inl (cA6, 4, .inl mf))] s.heap.size = A at hD hE ⊢
  have hA : ∀ q : Nat, s.heap.size ≤ q → A q := fun q h => by rw [← hAe]; exact Or.inr h
  have hS : va_S A s.heap s.heap [] := va_S.rf
  have hP : va_P (dC, dI) vwCl [(h0, .inr (3, [.ref a6, .int mcn, .int bts, .int bc])), (a6, .inl (cA6, 4, .inl mf))] s.heap := hP
  have iX2 : ∀ w ∈ wsX20, w ∈ wsX2_take := by decide +kernel
  have hl := lv_entry ([.ref h0, .int sts]) (n := 3) (Nat.le_of_ble_eq_true rfl)
  rw [lg_entry_eq]
  generalize (lg_sl ([.ref h0, .int sts]) ++ List.replicate (3 - (lg_sl ([.ref h0, .int sts])).length) Slot.unset).toArray = ls at hl ⊢
  have hl : lv_has ls 3 [(0, .ref h0), (1, .int sts)] := hl
  refine lv_iload_n hx hb dX2_take_0 rfl (lv_at hl 1 rfl) ?_
  refine lv_bipush (v := 8) hx hb dX2_take_1 (by decide) ?_
  refine lv_iand hx hb dX2_take_3 ?_
  refine lv_if_eq (tgt := 14) hx hb dX2_take_4 (by decide) (fun c_1 => ?_) (fun c_1 => ?_)
  · refine lv_aload_n hx hb dX2_take_14 rfl (lv_at hl 0 rfl) ?_
    refine va_get (D := (dC, dI)) (ci := 3) (v := .int bc) (C := RX2) (T := TX2) (N := 4) hx hb hts iX2 hown hK hP 0 rfl rfl 3 (by decide) (hts (.fieldLink RX2 18 "PulseRows$SlowChannel" "bitCount" "I") (List.mem_of_getElem? (i := 1) rfl)) (fun _ h9 => h9) rfl dX2_take_15 ?_
    refine lv_if_ne (tgt := 23) hx hb dX2_take_18 (by decide) (fun c_2 => ?_) (fun c_2 => ?_)
    · refine lv_aload_n hx hb dX2_take_23 rfl (lv_at hl 0 rfl) ?_
      refine lv_aload_n hx hb dX2_take_24 rfl (lv_at hl 0 rfl) ?_
      refine va_get (D := (dC, dI)) (ci := 3) (v := .int bts) (C := RX2) (T := TX2) (N := 4) hx hb hts iX2 hown hK hP 0 rfl rfl 2 (by decide) (hts (.fieldLink RX2 22 "PulseRows$SlowChannel" "bits" "I") (List.mem_of_getElem? (i := 2) rfl)) (fun _ h9 => h9) rfl dX2_take_25 ?_
      refine lv_iconst (v := 1) hx hb dX2_take_28 (by decide) ?_
      refine lv_ishl hx hb dX2_take_29 ?_
      refine lv_iload_n hx hb dX2_take_30 rfl (lv_at hl 1 rfl) ?_
      refine lv_iconst (v := 4) hx hb dX2_take_31 (by decide) ?_
      refine lv_iand hx hb dX2_take_32 ?_
      refine lv_if_eq (tgt := 40) hx hb dX2_take_33 (by decide) (fun c_3 => ?_) (fun c_3 => ?_)
      · refine lv_iconst (v := 0) hx hb dX2_take_40 (by decide) ?_
        refine lv_ior hx hb dX2_take_41 ?_
        refine va_put (D := (dC, dI)) (ci := 3) (v := .int ((bts <<< ((1 : Int32) &&& 31)) ||| 0)) (ty := .int) (C := RX2) (T := TX2) (N := 4) hx hb hts iX2 tyX2 tyX2_ok nmX2 hown hK hP hD hS 0 rfl rfl 2 (by decide) (hts (.fieldLink RX2 22 "PulseRows$SlowChannel" "bits" "I") (List.mem_of_getElem? (i := 2) rfl)) (fun _ h9 => h9) rfl (by decide +kernel) rfl rfl (Nat.le_of_ble_eq_true rfl) dX2_take_42 (fun H locs hP hD hS => ?_)
        have hP : va_P (dC, dI) vwCl [(h0, .inr (3, [.ref a6, .int mcn, .int ((bts <<< ((1 : Int32) &&& 31)) ||| 0), .int bc])), (a6, .inl (cA6, 4, .inl mf))] H := hP
        have hD : va_D A [(h0, .inr (3, [.ref a6, .int mcn, .int ((bts <<< ((1 : Int32) &&& 31)) ||| 0), .int bc])), (a6, .inl (cA6, 4, .inl mf))] := hD
        refine lv_aload_n hx hb dX2_take_45 rfl (lv_at hl 0 rfl) ?_
        refine lv_dup hx hb dX2_take_46 rfl ?_
        refine va_get (D := (dC, dI)) (ci := 3) (v := .int bc) (C := RX2) (T := TX2) (N := 4) hx hb hts iX2 hown hK hP 0 rfl rfl 3 (by decide) (hts (.fieldLink RX2 18 "PulseRows$SlowChannel" "bitCount" "I") (List.mem_of_getElem? (i := 1) rfl)) (fun _ h9 => h9) rfl dX2_take_47 ?_
        refine lv_iconst (v := 1) hx hb dX2_take_50 (by decide) ?_
        refine lv_iadd hx hb dX2_take_51 ?_
        refine va_put (D := (dC, dI)) (ci := 3) (v := .int (bc + 1)) (ty := .int) (C := RX2) (T := TX2) (N := 4) hx hb hts iX2 tyX2 tyX2_ok nmX2 hown hK hP hD hS 0 rfl rfl 3 (by decide) (hts (.fieldLink RX2 18 "PulseRows$SlowChannel" "bitCount" "I") (List.mem_of_getElem? (i := 1) rfl)) (fun _ h9 => h9) rfl (by decide +kernel) rfl rfl (Nat.le_of_ble_eq_true rfl) dX2_take_52 (fun H locs hP hD hS => ?_)
        have hP : va_P (dC, dI) vwCl [(h0, .inr (3, [.ref a6, .int mcn, .int ((bts <<< ((1 : Int32) &&& 31)) ||| 0), .int (bc + 1)])), (a6, .inl (cA6, 4, .inl mf))] H := hP
        have hD : va_D A [(h0, .inr (3, [.ref a6, .int mcn, .int ((bts <<< ((1 : Int32) &&& 31)) ||| 0), .int (bc + 1)])), (a6, .inl (cA6, 4, .inl mf))] := hD
        refine lv_aload_n hx hb dX2_take_55 rfl (lv_at hl 0 rfl) ?_
        refine va_get (D := (dC, dI)) (ci := 3) (v := .int (bc + 1)) (C := RX2) (T := TX2) (N := 4) hx hb hts iX2 hown hK hP 0 rfl rfl 3 (by decide) (hts (.fieldLink RX2 18 "PulseRows$SlowChannel" "bitCount" "I") (List.mem_of_getElem? (i := 1) rfl)) (fun _ h9 => h9) rfl dX2_take_56 ?_
        refine lv_bipush (v := 16) hx hb dX2_take_59 (by decide) ?_
        refine lv_icmp_ge (tgt := 66) hx hb dX2_take_61 (by decide) (fun c_4 => ?_) (fun c_4 => ?_)
        · refine lv_aload_n hx hb dX2_take_66 rfl (lv_at hl 0 rfl) ?_
          refine va_get (D := (dC, dI)) (ci := 3) (v := .int ((bts <<< ((1 : Int32) &&& 31)) ||| 0)) (C := RX2) (T := TX2) (N := 4) hx hb hts iX2 hown hK hP 0 rfl rfl 2 (by decide) (hts (.fieldLink RX2 22 "PulseRows$SlowChannel" "bits" "I") (List.mem_of_getElem? (i := 2) rfl)) (fun _ h9 => h9) rfl dX2_take_67 ?_
          refine lv_istore_n (lv' := [(2, .int ((bts <<< ((1 : Int32) &&& 31)) ||| 0)), (0, .ref h0), (1, .int sts)]) hx hb dX2_take_70 rfl hl (by decide) rfl (fun ls hl => ?_)
          refine lv_aload_n hx hb dX2_take_71 rfl (lv_at hl 1 rfl) ?_
          have hPc := hP.sub (ws' := [(h0, .inr (3, [.ref a6, .int mcn, .int ((bts <<< ((1 : Int32) &&& 31)) ||| 0), .int (bc + 1)]))]) [0] rfl
          have hDc := hD.sub (ws' := [(h0, .inr (3, [.ref a6, .int mcn, .int ((bts <<< ((1 : Int32) &&& 31)) ||| 0), .int (bc + 1)]))]) [0] (by decide) rfl
          have hKc := hK.sub (tys' := []) [] rfl
          have hFc := va_free (wc := [(h0, .inr (3, [.ref a6, .int mcn, .int ((bts <<< ((1 : Int32) &&& 31)) ||| 0), .int (bc + 1)]))]) hD hS hA [0] rfl
          refine va_callv (va_runV (As := []) (rest := []) ⟨hx, hb, hml, hown, hts⟩ (k_X2_dropRow l dC dI H.size h0 a6 mcn ((bts <<< ((1 : Int32) &&& 31)) ||| 0) (bc + 1)) (cwV 0 hts gX2_take_X2_dropRow rfl rfl rfl (by decide +kernel) ⟨Nat.le_of_ble_eq_true rfl, Nat.le_of_ble_eq_true rfl⟩) ⟨pr.blind, va_recv hKc hPc (ci := 3) (q0 := 0) rfl rfl, fun U hU hW => ⟨rfl, pr.call hU hW hPc hKc hDc⟩⟩ rfl rfl hl.1 rfl (lv_room (Nat.le_of_ble_eq_true rfl)) dX2_take_72 ⟨Nat.le_of_ble_eq_true rfl, Nat.le_of_ble_eq_true rfl⟩) hS (fun q _ h => hFc q h) hFc (fun u t H1 locs ht hvm hw hB hz1 hk1 hS => ?_)
          obtain ⟨hP, hD⟩ := po.join (wr := [(a6, .inl (cA6, 4, .inl mf))]) hP hD [0] [1] rfl rfl (by decide) (by decide) hk1 hFc ht hB
          generalize H1 = H at hP hS ⊢
          clear ht hvm hB hz1 hk1 hPc hDc hKc hFc
          have hP : va_P (dC, dI) vwCl [(a6, .inl (cA6, 4, .inl mf)), (h0, .inr (3, [.ref a6, .int mcn, .int 0, .int 0]))] H := hP
          have hD : va_D A [(a6, .inl (cA6, 4, .inl mf)), (h0, .inr (3, [.ref a6, .int mcn, .int 0, .int 0]))] := hD
          refine W.widen (k := 0) (n := 0) (Nat.le_of_ble_eq_true rfl) (Nat.le_of_ble_eq_true rfl) ?_
          refine lv_aload_n hx hb dX2_take_75 rfl (lv_at hl 1 rfl) ?_
          refine lv_iload_n hx hb dX2_take_76 rfl (lv_at hl 0 rfl) ?_
          have hPc := hP.sub (ws' := [(h0, .inr (3, [.ref a6, .int mcn, .int 0, .int 0])), (a6, .inl (cA6, 4, .inl mf))]) [1, 0] rfl
          have hDc := hD.sub (ws' := [(h0, .inr (3, [.ref a6, .int mcn, .int 0, .int 0])), (a6, .inl (cA6, 4, .inl mf))]) [1, 0] (by decide) rfl
          have hKc := hK.sub (tys' := [(cA6, .int)]) [0] rfl
          have hFc := va_free (wc := [(h0, .inr (3, [.ref a6, .int mcn, .int 0, .int 0])), (a6, .inl (cA6, 4, .inl mf))]) hD hS hA [1, 0] rfl
          refine va_calli (va_runV (As := [.int ((bts <<< ((1 : Int32) &&& 31)) ||| 0)]) (rest := []) ⟨hx, hb, hml, hown, hts⟩ (k_X2_finishRow l dC dI H.size tb h0 a6 mcn 0 0 cA6 mf ((bts <<< ((1 : Int32) &&& 31)) ||| 0) (hmc)) (cwV 1 hts gX2_take_X2_finishRow rfl rfl rfl (by decide +kernel) ⟨Nat.le_of_ble_eq_true rfl, Nat.le_of_ble_eq_true rfl⟩) ⟨prE.blind, va_recv hKc hPc (ci := 3) (q0 := 0) rfl rfl, fun U hU hW => ⟨rfl, prE.call hE hS hFc hU hW hPc hKc hDc⟩⟩ rfl rfl hl.1 rfl (lv_room (Nat.le_of_ble_eq_true rfl)) dX2_take_77 ⟨Nat.le_of_ble_eq_true rfl, Nat.le_of_ble_eq_true rfl⟩) hS (fun q _ h => hFc q h) hFc (fun r_6 u t H1 locs ht hvm hw hB hz1 hk1 hS => ?_)
          subst r_6
          obtain ⟨hP, hD⟩ := po.join (wr := []) hP hD [1, 0] [] rfl rfl (by decide) (by decide) hk1 hFc ht hB
          generalize H1 = H at hP hS ⊢
          clear ht hvm hB hz1 hk1 hPc hDc hKc hFc
          have hP : va_P (dC, dI) vwCl [(h0, .inr (3, [.ref a6, .int (X2_finishRow_messageCount mcn ((bts <<< ((1 : Int32) &&& 31)) ||| 0)), .int 0, .int 0])), (a6, .inl (cA6, 4, .inl (X2_finishRow_a_mf mcn mf ((bts <<< ((1 : Int32) &&& 31)) ||| 0))))] H := hP
          have hD : va_D A [(h0, .inr (3, [.ref a6, .int (X2_finishRow_messageCount mcn ((bts <<< ((1 : Int32) &&& 31)) ||| 0)), .int 0, .int 0])), (a6, .inl (cA6, 4, .inl (X2_finishRow_a_mf mcn mf ((bts <<< ((1 : Int32) &&& 31)) ||| 0))))] := hD
          refine W.widen (k := 0) (n := 0) (Nat.le_of_ble_eq_true rfl) (Nat.le_of_ble_eq_true rfl) ?_
          have e_7 : X2_finishRow_messageCount mcn ((bts <<< ((1 : Int32) &&& 31)) ||| 0) = X2_take_messageCount mcn bts bc sts := by rw [X2_take_messageCount, if_pos c_1, if_neg c_2, if_pos c_3, if_pos c_4]
          have e_8 : (0 : Int32) = X2_take_bits bts bc sts := by rw [X2_take_bits, if_pos c_1, if_neg c_2, if_pos c_3, if_pos c_4]
          have e_9 : (0 : Int32) = X2_take_bitCount bc sts := by rw [X2_take_bitCount, if_pos c_1, if_neg c_2, if_pos c_4]
          have e_10 : X2_finishRow_a_mf mcn mf ((bts <<< ((1 : Int32) &&& 31)) ||| 0) = X2_take_a_mf mcn bts bc mf sts := by rw [X2_take_a_mf, if_pos c_1, if_neg c_2, if_pos c_3, if_pos c_4]
          have hP9 : va_P (dC, dI) vwCl [(h0, .inr (3, [.ref a6, .int (X2_take_messageCount mcn bts bc sts), .int (X2_take_bits bts bc sts), .int (X2_take_bitCount bc sts)])), (a6, .inl (cA6, 4, .inl (X2_take_a_mf mcn bts bc mf sts)))] H := by rw [← e_7, ← e_8, ← e_9, ← e_10]; exact hP.sub [0, 1] rfl
          have hD9 : va_D A [(h0, .inr (3, [.ref a6, .int (X2_take_messageCount mcn bts bc sts), .int (X2_take_bits bts bc sts), .int (X2_take_bitCount bc sts)])), (a6, .inl (cA6, 4, .inl (X2_take_a_mf mcn bts bc mf sts)))] := by rw [← e_7, ← e_8, ← e_9, ← e_10]; exact hD.sub [0, 1] (by decide) rfl
          have e_11 : X2_finishRow_r ((bts <<< ((1 : Int32) &&& 31)) ||| 0) = X2_take_r bts bc sts := by rw [X2_take_r, if_pos c_1, if_neg c_2, if_pos c_3, if_pos c_4]
          exact W.zret (v := X2_finishRow_r ((bts <<< ((1 : Int32) &&& 31)) ||| 0)) hx hb hr (X2_finishRow_r_z ((bts <<< ((1 : Int32) &&& 31)) ||| 0)).nar (fun t ht hW => ⟨⟨_, (), rfl, e_11, po.ret ht hW hP9 hK hD9⟩, hS.F ht⟩) hS.2.2 dX2_take_80
        · refine lv_iconst (v := 1) hx hb dX2_take_64 (by decide) ?_
          have e_12 : mcn = X2_take_messageCount mcn bts bc sts := by rw [X2_take_messageCount, if_pos c_1, if_neg c_2, if_pos c_3, if_neg c_4]
          have e_13 : (bts <<< ((1 : Int32) &&& 31)) ||| 0 = X2_take_bits bts bc sts := by rw [X2_take_bits, if_pos c_1, if_neg c_2, if_pos c_3, if_neg c_4]
          have e_14 : bc + 1 = X2_take_bitCount bc sts := by rw [X2_take_bitCount, if_pos c_1, if_neg c_2, if_neg c_4]
          have e_15 : mf = X2_take_a_mf mcn bts bc mf sts := by rw [X2_take_a_mf, if_pos c_1, if_neg c_2, if_pos c_3, if_neg c_4]
          have hP9 : va_P (dC, dI) vwCl [(h0, .inr (3, [.ref a6, .int (X2_take_messageCount mcn bts bc sts), .int (X2_take_bits bts bc sts), .int (X2_take_bitCount bc sts)])), (a6, .inl (cA6, 4, .inl (X2_take_a_mf mcn bts bc mf sts)))] H := by rw [← e_12, ← e_13, ← e_14, ← e_15]; exact hP.sub [0, 1] rfl
          have hD9 : va_D A [(h0, .inr (3, [.ref a6, .int (X2_take_messageCount mcn bts bc sts), .int (X2_take_bits bts bc sts), .int (X2_take_bitCount bc sts)])), (a6, .inl (cA6, 4, .inl (X2_take_a_mf mcn bts bc mf sts)))] := by rw [← e_12, ← e_13, ← e_14, ← e_15]; exact hD.sub [0, 1] (by decide) rfl
          have e_16 : (1 : Int32) = X2_take_r bts bc sts := by rw [X2_take_r, if_pos c_1, if_neg c_2, if_pos c_3, if_neg c_4]
          exact W.zret (v := 1) hx hb hr rfl (fun t ht hW => ⟨⟨_, (), rfl, e_16, po.ret ht hW hP9 hK hD9⟩, hS.F ht⟩) hS.2.2 dX2_take_65
      · refine lv_iconst (v := 1) hx hb dX2_take_36 (by decide) ?_
        refine lv_goto (tgt := 41) hx hb dX2_take_37 (by decide) ?_
        refine lv_ior hx hb dX2_take_41 ?_
        refine va_put (D := (dC, dI)) (ci := 3) (v := .int ((bts <<< ((1 : Int32) &&& 31)) ||| 1)) (ty := .int) (C := RX2) (T := TX2) (N := 4) hx hb hts iX2 tyX2 tyX2_ok nmX2 hown hK hP hD hS 0 rfl rfl 2 (by decide) (hts (.fieldLink RX2 22 "PulseRows$SlowChannel" "bits" "I") (List.mem_of_getElem? (i := 2) rfl)) (fun _ h9 => h9) rfl (by decide +kernel) rfl rfl (Nat.le_of_ble_eq_true rfl) dX2_take_42 (fun H locs hP hD hS => ?_)
        have hP : va_P (dC, dI) vwCl [(h0, .inr (3, [.ref a6, .int mcn, .int ((bts <<< ((1 : Int32) &&& 31)) ||| 1), .int bc])), (a6, .inl (cA6, 4, .inl mf))] H := hP
        have hD : va_D A [(h0, .inr (3, [.ref a6, .int mcn, .int ((bts <<< ((1 : Int32) &&& 31)) ||| 1), .int bc])), (a6, .inl (cA6, 4, .inl mf))] := hD
        refine lv_aload_n hx hb dX2_take_45 rfl (lv_at hl 0 rfl) ?_
        refine lv_dup hx hb dX2_take_46 rfl ?_
        refine va_get (D := (dC, dI)) (ci := 3) (v := .int bc) (C := RX2) (T := TX2) (N := 4) hx hb hts iX2 hown hK hP 0 rfl rfl 3 (by decide) (hts (.fieldLink RX2 18 "PulseRows$SlowChannel" "bitCount" "I") (List.mem_of_getElem? (i := 1) rfl)) (fun _ h9 => h9) rfl dX2_take_47 ?_
        refine lv_iconst (v := 1) hx hb dX2_take_50 (by decide) ?_
        refine lv_iadd hx hb dX2_take_51 ?_
        refine va_put (D := (dC, dI)) (ci := 3) (v := .int (bc + 1)) (ty := .int) (C := RX2) (T := TX2) (N := 4) hx hb hts iX2 tyX2 tyX2_ok nmX2 hown hK hP hD hS 0 rfl rfl 3 (by decide) (hts (.fieldLink RX2 18 "PulseRows$SlowChannel" "bitCount" "I") (List.mem_of_getElem? (i := 1) rfl)) (fun _ h9 => h9) rfl (by decide +kernel) rfl rfl (Nat.le_of_ble_eq_true rfl) dX2_take_52 (fun H locs hP hD hS => ?_)
        have hP : va_P (dC, dI) vwCl [(h0, .inr (3, [.ref a6, .int mcn, .int ((bts <<< ((1 : Int32) &&& 31)) ||| 1), .int (bc + 1)])), (a6, .inl (cA6, 4, .inl mf))] H := hP
        have hD : va_D A [(h0, .inr (3, [.ref a6, .int mcn, .int ((bts <<< ((1 : Int32) &&& 31)) ||| 1), .int (bc + 1)])), (a6, .inl (cA6, 4, .inl mf))] := hD
        refine lv_aload_n hx hb dX2_take_55 rfl (lv_at hl 0 rfl) ?_
        refine va_get (D := (dC, dI)) (ci := 3) (v := .int (bc + 1)) (C := RX2) (T := TX2) (N := 4) hx hb hts iX2 hown hK hP 0 rfl rfl 3 (by decide) (hts (.fieldLink RX2 18 "PulseRows$SlowChannel" "bitCount" "I") (List.mem_of_getElem? (i := 1) rfl)) (fun _ h9 => h9) rfl dX2_take_56 ?_
        refine lv_bipush (v := 16) hx hb dX2_take_59 (by decide) ?_
        refine lv_icmp_ge (tgt := 66) hx hb dX2_take_61 (by decide) (fun c_17 => ?_) (fun c_17 => ?_)
        · refine lv_aload_n hx hb dX2_take_66 rfl (lv_at hl 0 rfl) ?_
          refine va_get (D := (dC, dI)) (ci := 3) (v := .int ((bts <<< ((1 : Int32) &&& 31)) ||| 1)) (C := RX2) (T := TX2) (N := 4) hx hb hts iX2 hown hK hP 0 rfl rfl 2 (by decide) (hts (.fieldLink RX2 22 "PulseRows$SlowChannel" "bits" "I") (List.mem_of_getElem? (i := 2) rfl)) (fun _ h9 => h9) rfl dX2_take_67 ?_
          refine lv_istore_n (lv' := [(2, .int ((bts <<< ((1 : Int32) &&& 31)) ||| 1)), (0, .ref h0), (1, .int sts)]) hx hb dX2_take_70 rfl hl (by decide) rfl (fun ls hl => ?_)
          refine lv_aload_n hx hb dX2_take_71 rfl (lv_at hl 1 rfl) ?_
          have hPc := hP.sub (ws' := [(h0, .inr (3, [.ref a6, .int mcn, .int ((bts <<< ((1 : Int32) &&& 31)) ||| 1), .int (bc + 1)]))]) [0] rfl
          have hDc := hD.sub (ws' := [(h0, .inr (3, [.ref a6, .int mcn, .int ((bts <<< ((1 : Int32) &&& 31)) ||| 1), .int (bc + 1)]))]) [0] (by decide) rfl
          have hKc := hK.sub (tys' := []) [] rfl
          have hFc := va_free (wc := [(h0, .inr (3, [.ref a6, .int mcn, .int ((bts <<< ((1 : Int32) &&& 31)) ||| 1), .int (bc + 1)]))]) hD hS hA [0] rfl
          refine va_callv (va_runV (As := []) (rest := []) ⟨hx, hb, hml, hown, hts⟩ (k_X2_dropRow l dC dI H.size h0 a6 mcn ((bts <<< ((1 : Int32) &&& 31)) ||| 1) (bc + 1)) (cwV 0 hts gX2_take_X2_dropRow rfl rfl rfl (by decide +kernel) ⟨Nat.le_of_ble_eq_true rfl, Nat.le_of_ble_eq_true rfl⟩) ⟨pr.blind, va_recv hKc hPc (ci := 3) (q0 := 0) rfl rfl, fun U hU hW => ⟨rfl, pr.call hU hW hPc hKc hDc⟩⟩ rfl rfl hl.1 rfl (lv_room (Nat.le_of_ble_eq_true rfl)) dX2_take_72 ⟨Nat.le_of_ble_eq_true rfl, Nat.le_of_ble_eq_true rfl⟩) hS (fun q _ h => hFc q h) hFc (fun u t H1 locs ht hvm hw hB hz1 hk1 hS => ?_)
          obtain ⟨hP, hD⟩ := po.join (wr := [(a6, .inl (cA6, 4, .inl mf))]) hP hD [0] [1] rfl rfl (by decide) (by decide) hk1 hFc ht hB
          generalize H1 = H at hP hS ⊢
          clear ht hvm hB hz1 hk1 hPc hDc hKc hFc
          have hP : va_P (dC, dI) vwCl [(a6, .inl (cA6, 4, .inl mf)), (h0, .inr (3, [.ref a6, .int mcn, .int 0, .int 0]))] H := hP
          have hD : va_D A [(a6, .inl (cA6, 4, .inl mf)), (h0, .inr (3, [.ref a6, .int mcn, .int 0, .int 0]))] := hD
          refine W.widen (k := 0) (n := 0) (Nat.le_of_ble_eq_true rfl) (Nat.le_of_ble_eq_true rfl) ?_
          refine lv_aload_n hx hb dX2_take_75 rfl (lv_at hl 1 rfl) ?_
          refine lv_iload_n hx hb dX2_take_76 rfl (lv_at hl 0 rfl) ?_
          have hPc := hP.sub (ws' := [(h0, .inr (3, [.ref a6, .int mcn, .int 0, .int 0])), (a6, .inl (cA6, 4, .inl mf))]) [1, 0] rfl
          have hDc := hD.sub (ws' := [(h0, .inr (3, [.ref a6, .int mcn, .int 0, .int 0])), (a6, .inl (cA6, 4, .inl mf))]) [1, 0] (by decide) rfl
          have hKc := hK.sub (tys' := [(cA6, .int)]) [0] rfl
          have hFc := va_free (wc := [(h0, .inr (3, [.ref a6, .int mcn, .int 0, .int 0])), (a6, .inl (cA6, 4, .inl mf))]) hD hS hA [1, 0] rfl
          refine va_calli (va_runV (As := [.int ((bts <<< ((1 : Int32) &&& 31)) ||| 1)]) (rest := []) ⟨hx, hb, hml, hown, hts⟩ (k_X2_finishRow l dC dI H.size tb h0 a6 mcn 0 0 cA6 mf ((bts <<< ((1 : Int32) &&& 31)) ||| 1) (hmc)) (cwV 1 hts gX2_take_X2_finishRow rfl rfl rfl (by decide +kernel) ⟨Nat.le_of_ble_eq_true rfl, Nat.le_of_ble_eq_true rfl⟩) ⟨prE.blind, va_recv hKc hPc (ci := 3) (q0 := 0) rfl rfl, fun U hU hW => ⟨rfl, prE.call hE hS hFc hU hW hPc hKc hDc⟩⟩ rfl rfl hl.1 rfl (lv_room (Nat.le_of_ble_eq_true rfl)) dX2_take_77 ⟨Nat.le_of_ble_eq_true rfl, Nat.le_of_ble_eq_true rfl⟩) hS (fun q _ h => hFc q h) hFc (fun r_19 u t H1 locs ht hvm hw hB hz1 hk1 hS => ?_)
          subst r_19
          obtain ⟨hP, hD⟩ := po.join (wr := []) hP hD [1, 0] [] rfl rfl (by decide) (by decide) hk1 hFc ht hB
          generalize H1 = H at hP hS ⊢
          clear ht hvm hB hz1 hk1 hPc hDc hKc hFc
          have hP : va_P (dC, dI) vwCl [(h0, .inr (3, [.ref a6, .int (X2_finishRow_messageCount mcn ((bts <<< ((1 : Int32) &&& 31)) ||| 1)), .int 0, .int 0])), (a6, .inl (cA6, 4, .inl (X2_finishRow_a_mf mcn mf ((bts <<< ((1 : Int32) &&& 31)) ||| 1))))] H := hP
          have hD : va_D A [(h0, .inr (3, [.ref a6, .int (X2_finishRow_messageCount mcn ((bts <<< ((1 : Int32) &&& 31)) ||| 1)), .int 0, .int 0])), (a6, .inl (cA6, 4, .inl (X2_finishRow_a_mf mcn mf ((bts <<< ((1 : Int32) &&& 31)) ||| 1))))] := hD
          refine W.widen (k := 0) (n := 0) (Nat.le_of_ble_eq_true rfl) (Nat.le_of_ble_eq_true rfl) ?_
          have e_20 : X2_finishRow_messageCount mcn ((bts <<< ((1 : Int32) &&& 31)) ||| 1) = X2_take_messageCount mcn bts bc sts := by rw [X2_take_messageCount, if_pos c_1, if_neg c_2, if_neg c_3, if_pos c_17]
          have e_21 : (0 : Int32) = X2_take_bits bts bc sts := by rw [X2_take_bits, if_pos c_1, if_neg c_2, if_neg c_3, if_pos c_17]
          have e_22 : (0 : Int32) = X2_take_bitCount bc sts := by rw [X2_take_bitCount, if_pos c_1, if_neg c_2, if_pos c_17]
          have e_23 : X2_finishRow_a_mf mcn mf ((bts <<< ((1 : Int32) &&& 31)) ||| 1) = X2_take_a_mf mcn bts bc mf sts := by rw [X2_take_a_mf, if_pos c_1, if_neg c_2, if_neg c_3, if_pos c_17]
          have hP9 : va_P (dC, dI) vwCl [(h0, .inr (3, [.ref a6, .int (X2_take_messageCount mcn bts bc sts), .int (X2_take_bits bts bc sts), .int (X2_take_bitCount bc sts)])), (a6, .inl (cA6, 4, .inl (X2_take_a_mf mcn bts bc mf sts)))] H := by rw [← e_20, ← e_21, ← e_22, ← e_23]; exact hP.sub [0, 1] rfl
          have hD9 : va_D A [(h0, .inr (3, [.ref a6, .int (X2_take_messageCount mcn bts bc sts), .int (X2_take_bits bts bc sts), .int (X2_take_bitCount bc sts)])), (a6, .inl (cA6, 4, .inl (X2_take_a_mf mcn bts bc mf sts)))] := by rw [← e_20, ← e_21, ← e_22, ← e_23]; exact hD.sub [0, 1] (by decide) rfl
          have e_24 : X2_finishRow_r ((bts <<< ((1 : Int32) &&& 31)) ||| 1) = X2_take_r bts bc sts := by rw [X2_take_r, if_pos c_1, if_neg c_2, if_neg c_3, if_pos c_17]
          exact W.zret (v := X2_finishRow_r ((bts <<< ((1 : Int32) &&& 31)) ||| 1)) hx hb hr (X2_finishRow_r_z ((bts <<< ((1 : Int32) &&& 31)) ||| 1)).nar (fun t ht hW => ⟨⟨_, (), rfl, e_24, po.ret ht hW hP9 hK hD9⟩, hS.F ht⟩) hS.2.2 dX2_take_80
        · refine lv_iconst (v := 1) hx hb dX2_take_64 (by decide) ?_
          have e_25 : mcn = X2_take_messageCount mcn bts bc sts := by rw [X2_take_messageCount, if_pos c_1, if_neg c_2, if_neg c_3, if_neg c_17]
          have e_26 : (bts <<< ((1 : Int32) &&& 31)) ||| 1 = X2_take_bits bts bc sts := by rw [X2_take_bits, if_pos c_1, if_neg c_2, if_neg c_3, if_neg c_17]
          have e_27 : bc + 1 = X2_take_bitCount bc sts := by rw [X2_take_bitCount, if_pos c_1, if_neg c_2, if_neg c_17]
          have e_28 : mf = X2_take_a_mf mcn bts bc mf sts := by rw [X2_take_a_mf, if_pos c_1, if_neg c_2, if_neg c_3, if_neg c_17]
          have hP9 : va_P (dC, dI) vwCl [(h0, .inr (3, [.ref a6, .int (X2_take_messageCount mcn bts bc sts), .int (X2_take_bits bts bc sts), .int (X2_take_bitCount bc sts)])), (a6, .inl (cA6, 4, .inl (X2_take_a_mf mcn bts bc mf sts)))] H := by rw [← e_25, ← e_26, ← e_27, ← e_28]; exact hP.sub [0, 1] rfl
          have hD9 : va_D A [(h0, .inr (3, [.ref a6, .int (X2_take_messageCount mcn bts bc sts), .int (X2_take_bits bts bc sts), .int (X2_take_bitCount bc sts)])), (a6, .inl (cA6, 4, .inl (X2_take_a_mf mcn bts bc mf sts)))] := by rw [← e_25, ← e_26, ← e_27, ← e_28]; exact hD.sub [0, 1] (by decide) rfl
          have e_29 : (1 : Int32) = X2_take_r bts bc sts := by rw [X2_take_r, if_pos c_1, if_neg c_2, if_neg c_3, if_neg c_17]
          exact W.zret (v := 1) hx hb hr rfl (fun t ht hW => ⟨⟨_, (), rfl, e_29, po.ret ht hW hP9 hK hD9⟩, hS.F ht⟩) hS.2.2 dX2_take_65
    · refine lv_iconst (v := 1) hx hb dX2_take_21 (by decide) ?_
      have e_30 : mcn = X2_take_messageCount mcn bts bc sts := by rw [X2_take_messageCount, if_pos c_1, if_pos c_2]
      have e_31 : bts = X2_take_bits bts bc sts := by rw [X2_take_bits, if_pos c_1, if_pos c_2]
      have e_32 : bc = X2_take_bitCount bc sts := by rw [X2_take_bitCount, if_pos c_1, if_pos c_2]
      have e_33 : mf = X2_take_a_mf mcn bts bc mf sts := by rw [X2_take_a_mf, if_pos c_1, if_pos c_2]
      have hP9 : va_P (dC, dI) vwCl [(h0, .inr (3, [.ref a6, .int (X2_take_messageCount mcn bts bc sts), .int (X2_take_bits bts bc sts), .int (X2_take_bitCount bc sts)])), (a6, .inl (cA6, 4, .inl (X2_take_a_mf mcn bts bc mf sts)))] s.heap := by rw [← e_30, ← e_31, ← e_32, ← e_33]; exact hP.sub [0, 1] rfl
      have hD9 : va_D A [(h0, .inr (3, [.ref a6, .int (X2_take_messageCount mcn bts bc sts), .int (X2_take_bits bts bc sts), .int (X2_take_bitCount bc sts)])), (a6, .inl (cA6, 4, .inl (X2_take_a_mf mcn bts bc mf sts)))] := by rw [← e_30, ← e_31, ← e_32, ← e_33]; exact hD.sub [0, 1] (by decide) rfl
      have e_34 : (1 : Int32) = X2_take_r bts bc sts := by rw [X2_take_r, if_pos c_1, if_pos c_2]
      exact W.zret (v := 1) hx hb hr rfl (fun t ht hW => ⟨⟨_, (), rfl, e_34, po.ret ht hW hP9 hK hD9⟩, hS.F ht⟩) hS.2.2 dX2_take_22
  · refine lv_aload_n hx hb dX2_take_7 rfl (lv_at hl 0 rfl) ?_
    have hPc := hP.sub (ws' := [(h0, .inr (3, [.ref a6, .int mcn, .int bts, .int bc]))]) [0] rfl
    have hDc := hD.sub (ws' := [(h0, .inr (3, [.ref a6, .int mcn, .int bts, .int bc]))]) [0] (by decide) rfl
    have hKc := hK.sub (tys' := []) [] rfl
    have hFc := va_free (wc := [(h0, .inr (3, [.ref a6, .int mcn, .int bts, .int bc]))]) hD hS hA [0] rfl
    refine va_callv (va_runV (As := []) (rest := []) ⟨hx, hb, hml, hown, hts⟩ (k_X2_dropRow l dC dI s.heap.size h0 a6 mcn bts bc) (cwV 0 hts gX2_take_X2_dropRow rfl rfl rfl (by decide +kernel) ⟨Nat.le_of_ble_eq_true rfl, Nat.le_of_ble_eq_true rfl⟩) ⟨pr.blind, va_recv hKc hPc (ci := 3) (q0 := 0) rfl rfl, fun U hU hW => ⟨rfl, pr.call hU hW hPc hKc hDc⟩⟩ rfl rfl hl.1 rfl (lv_room (Nat.le_of_ble_eq_true rfl)) dX2_take_8 ⟨Nat.le_of_ble_eq_true rfl, Nat.le_of_ble_eq_true rfl⟩) hS (fun q _ h => hFc q h) hFc (fun u t H1 locs ht hvm hw hB hz1 hk1 hS => ?_)
    obtain ⟨hP, hD⟩ := po.join (wr := [(a6, .inl (cA6, 4, .inl mf))]) hP hD [0] [1] rfl rfl (by decide) (by decide) hk1 hFc ht hB
    generalize H1 = H at hP hS ⊢
    clear ht hvm hB hz1 hk1 hPc hDc hKc hFc
    have hP : va_P (dC, dI) vwCl [(a6, .inl (cA6, 4, .inl mf)), (h0, .inr (3, [.ref a6, .int mcn, .int 0, .int 0]))] H := hP
    have hD : va_D A [(a6, .inl (cA6, 4, .inl mf)), (h0, .inr (3, [.ref a6, .int mcn, .int 0, .int 0]))] := hD
    refine W.widen (k := 0) (n := 0) (Nat.le_of_ble_eq_true rfl) (Nat.le_of_ble_eq_true rfl) ?_
    refine lv_goto (tgt := 23) hx hb dX2_take_11 (by decide) ?_
    refine lv_aload_n hx hb dX2_take_23 rfl (lv_at hl 0 rfl) ?_
    refine lv_aload_n hx hb dX2_take_24 rfl (lv_at hl 0 rfl) ?_
    refine va_get (D := (dC, dI)) (ci := 3) (v := .int 0) (C := RX2) (T := TX2) (N := 4) hx hb hts iX2 hown hK hP 1 rfl rfl 2 (by decide) (hts (.fieldLink RX2 22 "PulseRows$SlowChannel" "bits" "I") (List.mem_of_getElem? (i := 2) rfl)) (fun _ h9 => h9) rfl dX2_take_25 ?_
    refine lv_iconst (v := 1) hx hb dX2_take_28 (by decide) ?_
    refine lv_ishl hx hb dX2_take_29 ?_
    refine lv_topi (fun y_36 ey_36 => ?_)
    obtain rfl : y_36 = 0 := ey_36.trans (by decide)
    refine lv_iload_n hx hb dX2_take_30 rfl (lv_at hl 1 rfl) ?_
    refine lv_iconst (v := 4) hx hb dX2_take_31 (by decide) ?_
    refine lv_iand hx hb dX2_take_32 ?_
    refine lv_if_eq (tgt := 40) hx hb dX2_take_33 (by decide) (fun c_37 => ?_) (fun c_37 => ?_)
    · refine lv_iconst (v := 0) hx hb dX2_take_40 (by decide) ?_
      refine lv_ior hx hb dX2_take_41 ?_
      refine lv_topi (fun y_38 ey_38 => ?_)
      obtain rfl : y_38 = 0 := ey_38.trans (by decide)
      refine va_put (D := (dC, dI)) (ci := 3) (v := .int 0) (ty := .int) (C := RX2) (T := TX2) (N := 4) hx hb hts iX2 tyX2 tyX2_ok nmX2 hown hK hP hD hS 1 rfl rfl 2 (by decide) (hts (.fieldLink RX2 22 "PulseRows$SlowChannel" "bits" "I") (List.mem_of_getElem? (i := 2) rfl)) (fun _ h9 => h9) rfl (by decide +kernel) rfl rfl (Nat.le_of_ble_eq_true rfl) dX2_take_42 (fun H locs hP hD hS => ?_)
      have hP : va_P (dC, dI) vwCl [(a6, .inl (cA6, 4, .inl mf)), (h0, .inr (3, [.ref a6, .int mcn, .int 0, .int 0]))] H := hP
      have hD : va_D A [(a6, .inl (cA6, 4, .inl mf)), (h0, .inr (3, [.ref a6, .int mcn, .int 0, .int 0]))] := hD
      refine lv_aload_n hx hb dX2_take_45 rfl (lv_at hl 0 rfl) ?_
      refine lv_dup hx hb dX2_take_46 rfl ?_
      refine va_get (D := (dC, dI)) (ci := 3) (v := .int 0) (C := RX2) (T := TX2) (N := 4) hx hb hts iX2 hown hK hP 1 rfl rfl 3 (by decide) (hts (.fieldLink RX2 18 "PulseRows$SlowChannel" "bitCount" "I") (List.mem_of_getElem? (i := 1) rfl)) (fun _ h9 => h9) rfl dX2_take_47 ?_
      refine lv_iconst (v := 1) hx hb dX2_take_50 (by decide) ?_
      refine lv_iadd hx hb dX2_take_51 ?_
      refine lv_topi (fun y_39 ey_39 => ?_)
      obtain rfl : y_39 = 1 := ey_39.trans (by decide)
      refine va_put (D := (dC, dI)) (ci := 3) (v := .int 1) (ty := .int) (C := RX2) (T := TX2) (N := 4) hx hb hts iX2 tyX2 tyX2_ok nmX2 hown hK hP hD hS 1 rfl rfl 3 (by decide) (hts (.fieldLink RX2 18 "PulseRows$SlowChannel" "bitCount" "I") (List.mem_of_getElem? (i := 1) rfl)) (fun _ h9 => h9) rfl (by decide +kernel) rfl rfl (Nat.le_of_ble_eq_true rfl) dX2_take_52 (fun H locs hP hD hS => ?_)
      have hP : va_P (dC, dI) vwCl [(a6, .inl (cA6, 4, .inl mf)), (h0, .inr (3, [.ref a6, .int mcn, .int 0, .int 1]))] H := hP
      have hD : va_D A [(a6, .inl (cA6, 4, .inl mf)), (h0, .inr (3, [.ref a6, .int mcn, .int 0, .int 1]))] := hD
      refine lv_aload_n hx hb dX2_take_55 rfl (lv_at hl 0 rfl) ?_
      refine va_get (D := (dC, dI)) (ci := 3) (v := .int 1) (C := RX2) (T := TX2) (N := 4) hx hb hts iX2 hown hK hP 1 rfl rfl 3 (by decide) (hts (.fieldLink RX2 18 "PulseRows$SlowChannel" "bitCount" "I") (List.mem_of_getElem? (i := 1) rfl)) (fun _ h9 => h9) rfl dX2_take_56 ?_
      refine lv_bipush (v := 16) hx hb dX2_take_59 (by decide) ?_
      refine lv_icmp_ge (tgt := 66) hx hb dX2_take_61 (by decide) (fun c9 => absurd c9 (by decide)) (fun _ => ?_)
      refine lv_iconst (v := 1) hx hb dX2_take_64 (by decide) ?_
      have e_41 : mcn = X2_take_messageCount mcn bts bc sts := by rw [X2_take_messageCount, if_neg c_1]
      have e_42 : (0 : Int32) = X2_take_bits bts bc sts := by rw [X2_take_bits, if_neg c_1, if_pos c_37]
      have e_43 : (1 : Int32) = X2_take_bitCount bc sts := by rw [X2_take_bitCount, if_neg c_1]
      have e_44 : mf = X2_take_a_mf mcn bts bc mf sts := by rw [X2_take_a_mf, if_neg c_1]
      have hP9 : va_P (dC, dI) vwCl [(h0, .inr (3, [.ref a6, .int (X2_take_messageCount mcn bts bc sts), .int (X2_take_bits bts bc sts), .int (X2_take_bitCount bc sts)])), (a6, .inl (cA6, 4, .inl (X2_take_a_mf mcn bts bc mf sts)))] H := by rw [← e_41, ← e_42, ← e_43, ← e_44]; exact hP.sub [1, 0] rfl
      have hD9 : va_D A [(h0, .inr (3, [.ref a6, .int (X2_take_messageCount mcn bts bc sts), .int (X2_take_bits bts bc sts), .int (X2_take_bitCount bc sts)])), (a6, .inl (cA6, 4, .inl (X2_take_a_mf mcn bts bc mf sts)))] := by rw [← e_41, ← e_42, ← e_43, ← e_44]; exact hD.sub [1, 0] (by decide) rfl
      have e_45 : (1 : Int32) = X2_take_r bts bc sts := by rw [X2_take_r, if_neg c_1]
      exact W.zret (v := 1) hx hb hr rfl (fun t ht hW => ⟨⟨_, (), rfl, e_45, po.ret ht hW hP9 hK hD9⟩, hS.F ht⟩) hS.2.2 dX2_take_65
    · refine lv_iconst (v := 1) hx hb dX2_take_36 (by decide) ?_
      refine lv_goto (tgt := 41) hx hb dX2_take_37 (by decide) ?_
      refine lv_ior hx hb dX2_take_41 ?_
      refine lv_topi (fun y_46 ey_46 => ?_)
      obtain rfl : y_46 = 1 := ey_46.trans (by decide)
      refine va_put (D := (dC, dI)) (ci := 3) (v := .int 1) (ty := .int) (C := RX2) (T := TX2) (N := 4) hx hb hts iX2 tyX2 tyX2_ok nmX2 hown hK hP hD hS 1 rfl rfl 2 (by decide) (hts (.fieldLink RX2 22 "PulseRows$SlowChannel" "bits" "I") (List.mem_of_getElem? (i := 2) rfl)) (fun _ h9 => h9) rfl (by decide +kernel) rfl rfl (Nat.le_of_ble_eq_true rfl) dX2_take_42 (fun H locs hP hD hS => ?_)
      have hP : va_P (dC, dI) vwCl [(a6, .inl (cA6, 4, .inl mf)), (h0, .inr (3, [.ref a6, .int mcn, .int 1, .int 0]))] H := hP
      have hD : va_D A [(a6, .inl (cA6, 4, .inl mf)), (h0, .inr (3, [.ref a6, .int mcn, .int 1, .int 0]))] := hD
      refine lv_aload_n hx hb dX2_take_45 rfl (lv_at hl 0 rfl) ?_
      refine lv_dup hx hb dX2_take_46 rfl ?_
      refine va_get (D := (dC, dI)) (ci := 3) (v := .int 0) (C := RX2) (T := TX2) (N := 4) hx hb hts iX2 hown hK hP 1 rfl rfl 3 (by decide) (hts (.fieldLink RX2 18 "PulseRows$SlowChannel" "bitCount" "I") (List.mem_of_getElem? (i := 1) rfl)) (fun _ h9 => h9) rfl dX2_take_47 ?_
      refine lv_iconst (v := 1) hx hb dX2_take_50 (by decide) ?_
      refine lv_iadd hx hb dX2_take_51 ?_
      refine lv_topi (fun y_47 ey_47 => ?_)
      obtain rfl : y_47 = 1 := ey_47.trans (by decide)
      refine va_put (D := (dC, dI)) (ci := 3) (v := .int 1) (ty := .int) (C := RX2) (T := TX2) (N := 4) hx hb hts iX2 tyX2 tyX2_ok nmX2 hown hK hP hD hS 1 rfl rfl 3 (by decide) (hts (.fieldLink RX2 18 "PulseRows$SlowChannel" "bitCount" "I") (List.mem_of_getElem? (i := 1) rfl)) (fun _ h9 => h9) rfl (by decide +kernel) rfl rfl (Nat.le_of_ble_eq_true rfl) dX2_take_52 (fun H locs hP hD hS => ?_)
      have hP : va_P (dC, dI) vwCl [(a6, .inl (cA6, 4, .inl mf)), (h0, .inr (3, [.ref a6, .int mcn, .int 1, .int 1]))] H := hP
      have hD : va_D A [(a6, .inl (cA6, 4, .inl mf)), (h0, .inr (3, [.ref a6, .int mcn, .int 1, .int 1]))] := hD
      refine lv_aload_n hx hb dX2_take_55 rfl (lv_at hl 0 rfl) ?_
      refine va_get (D := (dC, dI)) (ci := 3) (v := .int 1) (C := RX2) (T := TX2) (N := 4) hx hb hts iX2 hown hK hP 1 rfl rfl 3 (by decide) (hts (.fieldLink RX2 18 "PulseRows$SlowChannel" "bitCount" "I") (List.mem_of_getElem? (i := 1) rfl)) (fun _ h9 => h9) rfl dX2_take_56 ?_
      refine lv_bipush (v := 16) hx hb dX2_take_59 (by decide) ?_
      refine lv_icmp_ge (tgt := 66) hx hb dX2_take_61 (by decide) (fun c9 => absurd c9 (by decide)) (fun _ => ?_)
      refine lv_iconst (v := 1) hx hb dX2_take_64 (by decide) ?_
      have e_49 : mcn = X2_take_messageCount mcn bts bc sts := by rw [X2_take_messageCount, if_neg c_1]
      have e_50 : (1 : Int32) = X2_take_bits bts bc sts := by rw [X2_take_bits, if_neg c_1, if_neg c_37]
      have e_51 : (1 : Int32) = X2_take_bitCount bc sts := by rw [X2_take_bitCount, if_neg c_1]
      have e_52 : mf = X2_take_a_mf mcn bts bc mf sts := by rw [X2_take_a_mf, if_neg c_1]
      have hP9 : va_P (dC, dI) vwCl [(h0, .inr (3, [.ref a6, .int (X2_take_messageCount mcn bts bc sts), .int (X2_take_bits bts bc sts), .int (X2_take_bitCount bc sts)])), (a6, .inl (cA6, 4, .inl (X2_take_a_mf mcn bts bc mf sts)))] H := by rw [← e_49, ← e_50, ← e_51, ← e_52]; exact hP.sub [1, 0] rfl
      have hD9 : va_D A [(h0, .inr (3, [.ref a6, .int (X2_take_messageCount mcn bts bc sts), .int (X2_take_bits bts bc sts), .int (X2_take_bitCount bc sts)])), (a6, .inl (cA6, 4, .inl (X2_take_a_mf mcn bts bc mf sts)))] := by rw [← e_49, ← e_50, ← e_51, ← e_52]; exact hD.sub [1, 0] (by decide) rfl
      have e_53 : (1 : Int32) = X2_take_r bts bc sts := by rw [X2_take_r, if_neg c_1]
      exact W.zret (v := 1) hx hb hr rfl (fun t ht hW => ⟨⟨_, (), rfl, e_53, po.ret ht hW hP9 hK hD9⟩, hS.F ht⟩) hS.2.2 dX2_take_65
