theorem hasFrame_in {fc ix : Int32} (h : ¬ X4_hasFrame_r fc ix = 0) : vp_in ix 64 ∧ ix < fc := by
  unfold X4_hasFrame_r at h
  split at h
  · exact absurd rfl h
  · split at h
    · exact absurd rfl h
    · split at h
      · exact absurd rfl h
      · rename_i h1 h2 h3
        exact ⟨vin (N := 64) rfl h1 h3, Int32.not_le.mp h2⟩
def X4_finishFrame_frameCount (fc : Int32) : Int32 := X4_keepFrame_frameCount fc
def X4_finishFrame_count (cnt : Int32) (bts : Int32) (bc : Int32) (frame : Int32) : Int32 := if (X4_isRight_r frame) = 0 then (X1_add_count cnt) else (if (X2_take_r bts bc (X4_statusOf_r frame)) = 0 then (X1_add_count cnt) else cnt)
def X4_finishFrame_streak (str : Int32) (bts : Int32) (bc : Int32) (frame : Int32) : Int32 := if (X4_isRight_r frame) = 0 then (X1_add_streak str) else (if (X2_take_r bts bc (X4_statusOf_r frame)) = 0 then (X1_add_streak 0) else 0)
def X4_finishFrame_mark (str : Int32) (mk : Int32) (bts : Int32) (bc : Int32) (frame : Int32) : Int32 := if (X4_isRight_r frame) = 0 then (X1_add_mark str mk) else (if (X2_take_r bts bc (X4_statusOf_r frame)) = 0 then (X1_add_mark 0 mk) else mk)
def X4_finishFrame_messageCount (mcn : Int32) (bts : Int32) (bc : Int32) (frame : Int32) : Int32 := if (X4_isRight_r frame) = 0 then mcn else (X2_take_messageCount mcn bts bc (X4_statusOf_r frame))
def X4_finishFrame_bits (bts : Int32) (bc : Int32) (frame : Int32) : Int32 := if (X4_isRight_r frame) = 0 then 0 else (X2_take_bits bts bc (X4_statusOf_r frame))
def X4_finishFrame_bitCount (bc : Int32) (frame : Int32) : Int32 := if (X4_isRight_r frame) = 0 then 0 else (X2_take_bitCount bc (X4_statusOf_r frame))
def X4_finishFrame_a_mf (mcn : Int32) (bts : Int32) (bc : Int32) (mf : Nat → Int32) (frame : Int32) : Nat → Int32 := if (X4_isRight_r frame) = 0 then mf else (X2_take_a_mf mcn bts bc mf (X4_statusOf_r frame))
def X4_finishFrame_a_ff (fc : Int32) (ff : Nat → Int32) (frame : Int32) : Nat → Int32 := X4_keepFrame_a_ff fc ff frame
set_option maxHeartbeats 4000000 in
set_option maxRecDepth 100000 in
theorem k_X4_finishFrame (l : Launch) (dC : Nat → ClassId) (dI : Nat → Nat → Nat) (sz : Nat) (tb : Nat) (h0 : Nat) (tol : Int32) (a1 : Nat) (a2 : Nat) (a3 : Nat) (a4 : Nat) (a5 : Nat) (fc : Int32) (le : Int64) (cal : Int64) (inf : Int32) (nib : Int32) (nc : Int32) (cnt : Int32) (str : Int32) (mk : Int32) (a6 : Nat) (mcn : Int32) (bts : Int32) (bc : Int32) (cA6 : ClassId) (mf : Nat → Int32) (cA5 : ClassId) (ff : Nat → Int32) (frame : Int32) (hfc : ¬ fc < 0) (hmc : ¬ mcn < 0) : Met l yX4_finishFrame wsX4_finishFrame ({ frames := 4, cells := 0, slots := 0, locals := 88 }) (va_Pc [.ref h0, .int frame] (prE tb (dC, dI) [(cA5, .int), (cA6, .int)] [(h0, .inr (5, [.int tol, .ref a1, .ref a2, .ref a3, .ref a4, .ref a5, .int fc, .long le, .long cal, .int inf, .int nib, .int nc])), (a1, .inr (2, [.int cnt, .int str, .int mk])), (a2, .inr (3, [.ref a6, .int mcn, .int bts, .int bc])), (a6, .inl (cA6, 4, .inl mf)), (a5, .inl (cA5, 64, .inl ff))] sz)) (va_Qv (fun _ : Unit => True) (fun _ t => po (dC, dI) [(cA5, .int), (cA6, .int)] (va_A [(h0, .inr (5, [.int tol, .ref a1, .ref a2, .ref a3, .ref a4, .ref a5, .int fc, .long le, .long cal, .int inf, .int nib, .int nc])), (a1, .inr (2, [.int cnt, .int str, .int mk])), (a2, .inr (3, [.ref a6, .int mcn, .int bts, .int bc])), (a6, .inl (cA6, 4, .inl mf)), (a5, .inl (cA5, 64, .inl ff))] sz) [(h0, .inr (5, [.int tol, .ref a1, .ref a2, .ref a3, .ref a4, .ref a5, .int (X4_finishFrame_frameCount fc), .long le, .long cal, .int inf, .int nib, .int nc])), (a1, .inr (2, [.int (X4_finishFrame_count cnt bts bc frame), .int (X4_finishFrame_streak str bts bc frame), .int (X4_finishFrame_mark str mk bts bc frame)])), (a2, .inr (3, [.ref a6, .int (X4_finishFrame_messageCount mcn bts bc frame), .int (X4_finishFrame_bits bts bc frame), .int (X4_finishFrame_bitCount bc frame)])), (a6, .inl (cA6, 4, .inl (X4_finishFrame_a_mf mcn bts bc mf frame))), (a5, .inl (cA5, 64, .inl (X4_finishFrame_a_ff fc ff frame)))] t) (va_A [(h0, .inr (5, [.int tol, .ref a1, .ref a2, .ref a3, .ref a4, .ref a5, .int fc, .long le, .long cal, .int inf, .int nib, .int nc])), (a1, .inr (2, [.int cnt, .int str, .int mk])), (a2, .inr (3, [.ref a6, .int mcn, .int bts, .int bc])), (a6, .inl (cA6, 4, .inl mf)), (a5, .inl (cA5, 64, .inl ff))] sz)) 0 0 (va_A [(h0, .inr (5, [.int tol, .ref a1, .ref a2, .ref a3, .ref a4, .ref a5, .int fc, .long le, .long cal, .int inf, .int nib, .int nc])), (a1, .inr (2, [.int cnt, .int str, .int mk])), (a2, .inr (3, [.ref a6, .int mcn, .int bts, .int bc])), (a6, .inl (cA6, 4, .inl mf)), (a5, .inl (cA5, 64, .inl ff))] sz) := by
  refine Met.ofW (cc := cX4_finishFrame) (maxL := 2) (ret := none) (by decide) rfl ?_
  intro p e s m args below meth c s₁ B hml hv
  obtain ⟨rfl, ⟨hsz, hP, hK, hD0⟩, hE⟩ := hv
  have hx := B.exec
  have hb := B.bytes
  have hr := B.returns
  have hts := atoms_spec (ws := wsX4_finishFrame) B.pre
  have hown : s.vm.findClass RX4 = some m.cls := findClass_of_methodNamed B.named
  have hlocks := B.notSynchronized
  subst hsz
  have hD := hD0.self (sz := s.heap.size)
  generalize hAe : va_A [(h0, .inr (5, [.int tol, .ref a1, .ref a2, .ref a3, .ref a4, .ref a5, .int fc, .long le, .long cal, .int inf, .int nib, .int nc])), (a1, .inr (2, [.int cnt, .int str, .int mk])), (a2, .inr (3, [.ref a6, .int mcn, .int bts, .int bc])), (a6, .inl (cA6, 4, .inl mf)), (a5, .inl (cA5, 64, .inl ff))] s.heap.size = A at hD hE ⊢
  have hA : ∀ q : Nat, s.heap.size ≤ q → A q := fun q h => by rw [← hAe]; exact Or.inr h
  have hS : va_S A s.heap s.heap [] := va_S.rf
  have hP : va_P (dC, dI) vwCl [(h0, .inr (5, [.int tol, .ref a1, .ref a2, .ref a3, .ref a4, .ref a5, .int fc, .long le, .long cal, .int inf, .int nib, .int nc])), (a1, .inr (2, [.int cnt, .int str, .int mk])), (a2, .inr (3, [.ref a6, .int mcn, .int bts, .int bc])), (a6, .inl (cA6, 4, .inl mf)), (a5, .inl (cA5, 64, .inl ff))] s.heap := hP
  have iX4 : ∀ w ∈ wsX40, w ∈ wsX4_finishFrame := by decide +kernel
  have hl := lv_entry ([.ref h0, .int frame]) (n := 2) (Nat.le_of_ble_eq_true rfl)
  rw [lg_entry_eq]
  generalize (lg_sl ([.ref h0, .int frame]) ++ List.replicate (2 - (lg_sl ([.ref h0, .int frame])).length) Slot.unset).toArray = ls at hl ⊢
  have hl : lv_has ls 2 [(0, .ref h0), (1, .int frame)] := hl
  refine lv_aload_n hx hb dX4_finishFrame_0 rfl (lv_at hl 0 rfl) ?_
  refine lv_iload_n hx hb dX4_finishFrame_1 rfl (lv_at hl 1 rfl) ?_
  have hPc := hP.sub (ws' := [(h0, .inr (5, [.int tol, .ref a1, .ref a2, .ref a3, .ref a4, .ref a5, .int fc, .long le, .long cal, .int inf, .int nib, .int nc])), (a5, .inl (cA5, 64, .inl ff))]) [0, 4] rfl
  have hDc := hD.sub (ws' := [(h0, .inr (5, [.int tol, .ref a1, .ref a2, .ref a3, .ref a4, .ref a5, .int fc, .long le, .long cal, .int inf, .int nib, .int nc])), (a5, .inl (cA5, 64, .inl ff))]) [0, 4] (by decide) rfl
  have hKc := hK.sub (tys' := [(cA5, .int)]) [0] rfl
  have hFc := va_free (wc := [(h0, .inr (5, [.int tol, .ref a1, .ref a2, .ref a3, .ref a4, .ref a5, .int fc, .long le, .long cal, .int inf, .int nib, .int nc])), (a5, .inl (cA5, 64, .inl ff))]) hD hS hA [0, 4] rfl
  refine va_callv (va_runV (As := [.int frame]) (rest := []) ⟨hx, hb, hml, hown, hts⟩ (k_X4_keepFrame l dC dI s.heap.size h0 tol a1 a2 a3 a4 a5 fc le cal inf nib nc cA5 ff frame (hfc)) (cwV 1 hts gX4_finishFrame_X4_keepFrame rfl rfl rfl (by decide +kernel) ⟨Nat.le_of_ble_eq_true rfl, Nat.le_of_ble_eq_true rfl⟩) ⟨pr.blind, va_recv hKc hPc (ci := 5) (q0 := 0) rfl rfl, fun U hU hW => ⟨rfl, pr.call hU hW hPc hKc hDc⟩⟩ rfl rfl hl.1 rfl (lv_room (Nat.le_of_ble_eq_true rfl)) dX4_finishFrame_2 ⟨Nat.le_of_ble_eq_true rfl, Nat.le_of_ble_eq_true rfl⟩) hS (fun q _ h => hFc q h) hFc (fun u t H1 locs ht hvm hw hB hz1 hk1 hS => ?_)
  obtain ⟨hP, hD⟩ := po.join (wr := [(a1, .inr (2, [.int cnt, .int str, .int mk])), (a2, .inr (3, [.ref a6, .int mcn, .int bts, .int bc])), (a6, .inl (cA6, 4, .inl mf))]) hP hD [0, 4] [1, 2, 3] rfl rfl (by decide) (by decide) hk1 hFc ht hB
  generalize H1 = H at hP hS ⊢
  clear ht hvm hB hz1 hk1 hPc hDc hKc hFc
  have hP : va_P (dC, dI) vwCl [(a1, .inr (2, [.int cnt, .int str, .int mk])), (a2, .inr (3, [.ref a6, .int mcn, .int bts, .int bc])), (a6, .inl (cA6, 4, .inl mf)), (h0, .inr (5, [.int tol, .ref a1, .ref a2, .ref a3, .ref a4, .ref a5, .int (X4_keepFrame_frameCount fc), .long le, .long cal, .int inf, .int nib, .int nc])), (a5, .inl (cA5, 64, .inl (X4_keepFrame_a_ff fc ff frame)))] H := hP
  have hD : va_D A [(a1, .inr (2, [.int cnt, .int str, .int mk])), (a2, .inr (3, [.ref a6, .int mcn, .int bts, .int bc])), (a6, .inl (cA6, 4, .inl mf)), (h0, .inr (5, [.int tol, .ref a1, .ref a2, .ref a3, .ref a4, .ref a5, .int (X4_keepFrame_frameCount fc), .long le, .long cal, .int inf, .int nib, .int nc])), (a5, .inl (cA5, 64, .inl (X4_keepFrame_a_ff fc ff frame)))] := hD
  refine W.widen (k := 0) (n := 0) (Nat.le_of_ble_eq_true rfl) (Nat.le_of_ble_eq_true rfl) ?_
  refine lv_iload_n hx hb dX4_finishFrame_5 rfl (lv_at hl 1 rfl) ?_
  have hPc := hP.sub (ws' := []) [] rfl
  have hDc := hD.sub (ws' := []) [] (by decide) rfl
  have hKc := hK.sub (tys' := []) [] rfl
  have hFc := va_free (wc := []) hD hS hA [] rfl
  refine va_calli (va_runS (As := [.int frame]) (rest := []) ⟨hx, hb, hml, hown, hts⟩ (k_X4_isRight l dC dI H.size tb frame) (va_cwS 1 hts gX4_finishFrame_X4_isRight rfl rfl rfl (by decide +kernel) ⟨Nat.le_of_ble_eq_true rfl, Nat.le_of_ble_eq_true rfl⟩) ⟨prE.blind, fun U hU hW => ⟨rfl, prE.call hE hS hFc hU hW hPc hKc hDc⟩⟩ rfl rfl hl.1 rfl (lv_room (Nat.le_of_ble_eq_true rfl)) dX4_finishFrame_6 ⟨Nat.le_of_ble_eq_true rfl, Nat.le_of_ble_eq_true rfl⟩) hS (fun q _ h => hFc q h) hFc (fun r_2 u t H1 locs ht hvm hw hB hz1 hk1 hS => ?_)
  subst r_2
  obtain ⟨hP, hD⟩ := po.join (wr := [(a1, .inr (2, [.int cnt, .int str, .int mk])), (a2, .inr (3, [.ref a6, .int mcn, .int bts, .int bc])), (a6, .inl (cA6, 4, .inl mf)), (h0, .inr (5, [.int tol, .ref a1, .ref a2, .ref a3, .ref a4, .ref a5, .int (X4_keepFrame_frameCount fc), .long le, .long cal, .int inf, .int nib, .int nc])), (a5, .inl (cA5, 64, .inl (X4_keepFrame_a_ff fc ff frame)))]) hP hD [] [0, 1, 2, 3, 4] rfl rfl (by decide) (by decide) hk1 hFc ht hB
  generalize H1 = H at hP hS ⊢
  clear ht hvm hB hz1 hk1 hPc hDc hKc hFc
  have hP : va_P (dC, dI) vwCl [(a1, .inr (2, [.int cnt, .int str, .int mk])), (a2, .inr (3, [.ref a6, .int mcn, .int bts, .int bc])), (a6, .inl (cA6, 4, .inl mf)), (h0, .inr (5, [.int tol, .ref a1, .ref a2, .ref a3, .ref a4, .ref a5, .int (X4_keepFrame_frameCount fc), .long le, .long cal, .int inf, .int nib, .int nc])), (a5, .inl (cA5, 64, .inl (X4_keepFrame_a_ff fc ff frame)))] H := hP
  have hD : va_D A [(a1, .inr (2, [.int cnt, .int str, .int mk])), (a2, .inr (3, [.ref a6, .int mcn, .int bts, .int bc])), (a6, .inl (cA6, 4, .inl mf)), (h0, .inr (5, [.int tol, .ref a1, .ref a2, .ref a3, .ref a4, .ref a5, .int (X4_keepFrame_frameCount fc), .long le, .long cal, .int inf, .int nib, .int nc])), (a5, .inl (cA5, 64, .inl (X4_keepFrame_a_ff fc ff frame)))] := hD
  refine W.widen (k := 0) (n := 0) (Nat.le_of_ble_eq_true rfl) (Nat.le_of_ble_eq_true rfl) ?_
  refine lv_if_ne (tgt := 27) hx hb dX4_finishFrame_9 (by decide) (fun c_3 => ?_) (fun c_3 => ?_)
  · refine lv_aload_n hx hb dX4_finishFrame_27 rfl (lv_at hl 0 rfl) ?_
    refine va_get (D := (dC, dI)) (ci := 5) (v := .ref a1) (C := RX4) (T := TX4) (N := 12) hx hb hts iX4 hown hK hP 3 rfl rfl 1 (by decide) (hts (.fieldLink RX4 16 "PulseRows" "faultLog" "LPulseRows$FaultLog;") (List.mem_of_getElem? (i := 2) rfl)) (fun _ h9 => h9) rfl dX4_finishFrame_28 ?_
    have hPc := hP.sub (ws' := [(a1, .inr (2, [.int cnt, .int str, .int mk]))]) [0] rfl
    have hDc := hD.sub (ws' := [(a1, .inr (2, [.int cnt, .int str, .int mk]))]) [0] (by decide) rfl
    have hKc := hK.sub (tys' := []) [] rfl
    have hFc := va_free (wc := [(a1, .inr (2, [.int cnt, .int str, .int mk]))]) hD hS hA [0] rfl
    refine va_callv (va_runV (As := []) (rest := []) ⟨hx, hb, hml, hown, hts⟩ (k_X1_endStreak l dC dI H.size a1 cnt str mk) (cwV 0 hts gX4_finishFrame_X1_endStreak rfl rfl rfl (by decide +kernel) ⟨Nat.le_of_ble_eq_true rfl, Nat.le_of_ble_eq_true rfl⟩) ⟨pr.blind, va_recv hKc hPc (ci := 2) (q0 := 0) rfl rfl, fun U hU hW => ⟨rfl, pr.call hU hW hPc hKc hDc⟩⟩ rfl rfl hl.1 rfl (lv_room (Nat.le_of_ble_eq_true rfl)) dX4_finishFrame_31 ⟨Nat.le_of_ble_eq_true rfl, Nat.le_of_ble_eq_true rfl⟩) hS (fun q _ h => hFc q h) hFc (fun u t H1 locs ht hvm hw hB hz1 hk1 hS => ?_)
    obtain ⟨hP, hD⟩ := po.join (wr := [(a2, .inr (3, [.ref a6, .int mcn, .int bts, .int bc])), (a6, .inl (cA6, 4, .inl mf)), (h0, .inr (5, [.int tol, .ref a1, .ref a2, .ref a3, .ref a4, .ref a5, .int (X4_keepFrame_frameCount fc), .long le, .long cal, .int inf, .int nib, .int nc])), (a5, .inl (cA5, 64, .inl (X4_keepFrame_a_ff fc ff frame)))]) hP hD [0] [1, 2, 3, 4] rfl rfl (by decide) (by decide) hk1 hFc ht hB
    generalize H1 = H at hP hS ⊢
    clear ht hvm hB hz1 hk1 hPc hDc hKc hFc
    have hP : va_P (dC, dI) vwCl [(a2, .inr (3, [.ref a6, .int mcn, .int bts, .int bc])), (a6, .inl (cA6, 4, .inl mf)), (h0, .inr (5, [.int tol, .ref a1, .ref a2, .ref a3, .ref a4, .ref a5, .int (X4_keepFrame_frameCount fc), .long le, .long cal, .int inf, .int nib, .int nc])), (a5, .inl (cA5, 64, .inl (X4_keepFrame_a_ff fc ff frame))), (a1, .inr (2, [.int cnt, .int 0, .int mk]))] H := hP
    have hD : va_D A [(a2, .inr (3, [.ref a6, .int mcn, .int bts, .int bc])), (a6, .inl (cA6, 4, .inl mf)), (h0, .inr (5, [.int tol, .ref a1, .ref a2, .ref a3, .ref a4, .ref a5, .int (X4_keepFrame_frameCount fc), .long le, .long cal, .int inf, .int nib, .int nc])), (a5, .inl (cA5, 64, .inl (X4_keepFrame_a_ff fc ff frame))), (a1, .inr (2, [.int cnt, .int 0, .int mk]))] := hD
    refine W.widen (k := 0) (n := 0) (Nat.le_of_ble_eq_true rfl) (Nat.le_of_ble_eq_true rfl) ?_
    refine lv_aload_n hx hb dX4_finishFrame_34 rfl (lv_at hl 0 rfl) ?_
    refine va_get (D := (dC, dI)) (ci := 5) (v := .ref a2) (C := RX4) (T := TX4) (N := 12) hx hb hts iX4 hown hK hP 2 rfl rfl 2 (by decide) (hts (.fieldLink RX4 23 "PulseRows" "slowChannel" "LPulseRows$SlowChannel;") (List.mem_of_getElem? (i := 1) rfl)) (fun _ h9 => h9) rfl dX4_finishFrame_35 ?_
    refine lv_iload_n hx hb dX4_finishFrame_38 rfl (lv_at hl 1 rfl) ?_
    have hPc := hP.sub (ws' := []) [] rfl
    have hDc := hD.sub (ws' := []) [] (by decide) rfl
    have hKc := hK.sub (tys' := []) [] rfl
    have hFc := va_free (wc := []) hD hS hA [] rfl
    refine va_calli (va_runS (As := [.int frame]) (rest := [.ref a2]) ⟨hx, hb, hml, hown, hts⟩ (k_X4_statusOf l dC dI H.size frame) (va_cwS 1 hts gX4_finishFrame_X4_statusOf rfl rfl rfl (by decide +kernel) ⟨Nat.le_of_ble_eq_true rfl, Nat.le_of_ble_eq_true rfl⟩) ⟨pr.blind, fun U hU hW => ⟨rfl, pr.call hU hW hPc hKc hDc⟩⟩ rfl rfl hl.1 rfl (lv_room (Nat.le_of_ble_eq_true rfl)) dX4_finishFrame_39 ⟨Nat.le_of_ble_eq_true rfl, Nat.le_of_ble_eq_true rfl⟩) hS (fun q _ h => hFc q h) hFc (fun r_5 u t H1 locs ht hvm hw hB hz1 hk1 hS => ?_)
    subst r_5
    obtain ⟨hP, hD⟩ := po.join (wr := [(a2, .inr (3, [.ref a6, .int mcn, .int bts, .int bc])), (a6, .inl (cA6, 4, .inl mf)), (h0, .inr (5, [.int tol, .ref a1, .ref a2, .ref a3, .ref a4, .ref a5, .int (X4_keepFrame_frameCount fc), .long le, .long cal, .int inf, .int nib, .int nc])), (a5, .inl (cA5, 64, .inl (X4_keepFrame_a_ff fc ff frame))), (a1, .inr (2, [.int cnt, .int 0, .int mk]))]) hP hD [] [0, 1, 2, 3, 4] rfl rfl (by decide) (by decide) hk1 hFc ht hB
    generalize H1 = H at hP hS ⊢
    clear ht hvm hB hz1 hk1 hPc hDc hKc hFc
    have hP : va_P (dC, dI) vwCl [(a2, .inr (3, [.ref a6, .int mcn, .int bts, .int bc])), (a6, .inl (cA6, 4, .inl mf)), (h0, .inr (5, [.int tol, .ref a1, .ref a2, .ref a3, .ref a4, .ref a5, .int (X4_keepFrame_frameCount fc), .long le, .long cal, .int inf, .int nib, .int nc])), (a5, .inl (cA5, 64, .inl (X4_keepFrame_a_ff fc ff frame))), (a1, .inr (2, [.int cnt, .int 0, .int mk]))] H := hP
    have hD : va_D A [(a2, .inr (3, [.ref a6, .int mcn, .int bts, .int bc])), (a6, .inl (cA6, 4, .inl mf)), (h0, .inr (5, [.int tol, .ref a1, .ref a2, .ref a3, .ref a4, .ref a5, .int (X4_keepFrame_frameCount fc), .long le, .long cal, .int inf, .int nib, .int nc])), (a5, .inl (cA5, 64, .inl (X4_keepFrame_a_ff fc ff frame))), (a1, .inr (2, [.int cnt, .int 0, .int mk]))] := hD
    refine W.widen (k := 0) (n := 0) (Nat.le_of_ble_eq_true rfl) (Nat.le_of_ble_eq_true rfl) ?_
    have hPc := hP.sub (ws' := [(a2, .inr (3, [.ref a6, .int mcn, .int bts, .int bc])), (a6, .inl (cA6, 4, .inl mf))]) [0, 1] rfl
    have hDc := hD.sub (ws' := [(a2, .inr (3, [.ref a6, .int mcn, .int bts, .int bc])), (a6, .inl (cA6, 4, .inl mf))]) [0, 1] (by decide) rfl
    have hKc := hK.sub (tys' := [(cA6, .int)]) [1] rfl
    have hFc := va_free (wc := [(a2, .inr (3, [.ref a6, .int mcn, .int bts, .int bc])), (a6, .inl (cA6, 4, .inl mf))]) hD hS hA [0, 1] rfl
    refine va_calli (va_runV (As := [.int (X4_statusOf_r frame)]) (rest := []) ⟨hx, hb, hml, hown, hts⟩ (k_X2_take l dC dI H.size tb a2 a6 mcn bts bc cA6 mf (X4_statusOf_r frame) (hmc)) (cwV 1 hts gX4_finishFrame_X2_take rfl rfl rfl (by decide +kernel) ⟨Nat.le_of_ble_eq_true rfl, Nat.le_of_ble_eq_true rfl⟩) ⟨prE.blind, va_recv hKc hPc (ci := 3) (q0 := 0) rfl rfl, fun U hU hW => ⟨rfl, prE.call hE hS hFc hU hW hPc hKc hDc⟩⟩ rfl rfl hl.1 rfl (lv_room (Nat.le_of_ble_eq_true rfl)) dX4_finishFrame_42 ⟨Nat.le_of_ble_eq_true rfl, Nat.le_of_ble_eq_true rfl⟩) hS (fun q _ h => hFc q h) hFc (fun r_6 u t H1 locs ht hvm hw hB hz1 hk1 hS => ?_)
    subst r_6
    obtain ⟨hP, hD⟩ := po.join (wr := [(h0, .inr (5, [.int tol, .ref a1, .ref a2, .ref a3, .ref a4, .ref a5, .int (X4_keepFrame_frameCount fc), .long le, .long cal, .int inf, .int nib, .int nc])), (a5, .inl (cA5, 64, .inl (X4_keepFrame_a_ff fc ff frame))), (a1, .inr (2, [.int cnt, .int 0, .int mk]))]) hP hD [0, 1] [2, 3, 4] rfl rfl (by decide) (by decide) hk1 hFc ht hB
    generalize H1 = H at hP hS ⊢
    clear ht hvm hB hz1 hk1 hPc hDc hKc hFc
    have hP : va_P (dC, dI) vwCl [(h0, .inr (5, [.int tol, .ref a1, .ref a2, .ref a3, .ref a4, .ref a5, .int (X4_keepFrame_frameCount fc), .long le, .long cal, .int inf, .int nib, .int nc])), (a5, .inl (cA5, 64, .inl (X4_keepFrame_a_ff fc ff frame))), (a1, .inr (2, [.int cnt, .int 0, .int mk])), (a2, .inr (3, [.ref a6, .int (X2_take_messageCount mcn bts bc (X4_statusOf_r frame)), .int (X2_take_bits bts bc (X4_statusOf_r frame)), .int (X2_take_bitCount bc (X4_statusOf_r frame))])), (a6, .inl (cA6, 4, .inl (X2_take_a_mf mcn bts bc mf (X4_statusOf_r frame))))] H := hP
    have hD : va_D A [(h0, .inr (5, [.int tol, .ref a1, .ref a2, .ref a3, .ref a4, .ref a5, .int (X4_keepFrame_frameCount fc), .long le, .long cal, .int inf, .int nib, .int nc])), (a5, .inl (cA5, 64, .inl (X4_keepFrame_a_ff fc ff frame))), (a1, .inr (2, [.int cnt, .int 0, .int mk])), (a2, .inr (3, [.ref a6, .int (X2_take_messageCount mcn bts bc (X4_statusOf_r frame)), .int (X2_take_bits bts bc (X4_statusOf_r frame)), .int (X2_take_bitCount bc (X4_statusOf_r frame))])), (a6, .inl (cA6, 4, .inl (X2_take_a_mf mcn bts bc mf (X4_statusOf_r frame))))] := hD
    refine W.widen (k := 0) (n := 0) (Nat.le_of_ble_eq_true rfl) (Nat.le_of_ble_eq_true rfl) ?_
    refine lv_if_ne (tgt := 55) hx hb dX4_finishFrame_45 (by decide) (fun c_7 => ?_) (fun c_7 => ?_)
    · have e_8 : X4_keepFrame_frameCount fc = X4_finishFrame_frameCount fc := by rw [X4_finishFrame_frameCount]
      have e_9 : cnt = X4_finishFrame_count cnt bts bc frame := by rw [X4_finishFrame_count, if_neg c_3, if_neg c_7]
      have e_10 : (0 : Int32) = X4_finishFrame_streak str bts bc frame := by rw [X4_finishFrame_streak, if_neg c_3, if_neg c_7]
      have e_11 : mk = X4_finishFrame_mark str mk bts bc frame := by rw [X4_finishFrame_mark, if_neg c_3, if_neg c_7]
      have e_12 : X2_take_messageCount mcn bts bc (X4_statusOf_r frame) = X4_finishFrame_messageCount mcn bts bc frame := by rw [X4_finishFrame_messageCount, if_neg c_3]
      have e_13 : X2_take_bits bts bc (X4_statusOf_r frame) = X4_finishFrame_bits bts bc frame := by rw [X4_finishFrame_bits, if_neg c_3]
      have e_14 : X2_take_bitCount bc (X4_statusOf_r frame) = X4_finishFrame_bitCount bc frame := by rw [X4_finishFrame_bitCount, if_neg c_3]
      have e_15 : X2_take_a_mf mcn bts bc mf (X4_statusOf_r frame) = X4_finishFrame_a_mf mcn bts bc mf frame := by rw [X4_finishFrame_a_mf, if_neg c_3]
      have e_16 : X4_keepFrame_a_ff fc ff frame = X4_finishFrame_a_ff fc ff frame := by rw [X4_finishFrame_a_ff]
      have hP9 : va_P (dC, dI) vwCl [(h0, .inr (5, [.int tol, .ref a1, .ref a2, .ref a3, .ref a4, .ref a5, .int (X4_finishFrame_frameCount fc), .long le, .long cal, .int inf, .int nib, .int nc])), (a1, .inr (2, [.int (X4_finishFrame_count cnt bts bc frame), .int (X4_finishFrame_streak str bts bc frame), .int (X4_finishFrame_mark str mk bts bc frame)])), (a2, .inr (3, [.ref a6, .int (X4_finishFrame_messageCount mcn bts bc frame), .int (X4_finishFrame_bits bts bc frame), .int (X4_finishFrame_bitCount bc frame)])), (a6, .inl (cA6, 4, .inl (X4_finishFrame_a_mf mcn bts bc mf frame))), (a5, .inl (cA5, 64, .inl (X4_finishFrame_a_ff fc ff frame)))] H := by rw [← e_8, ← e_9, ← e_10, ← e_11, ← e_12, ← e_13, ← e_14, ← e_15, ← e_16]; exact hP.sub [0, 2, 3, 4, 1] rfl
      have hD9 : va_D A [(h0, .inr (5, [.int tol, .ref a1, .ref a2, .ref a3, .ref a4, .ref a5, .int (X4_finishFrame_frameCount fc), .long le, .long cal, .int inf, .int nib, .int nc])), (a1, .inr (2, [.int (X4_finishFrame_count cnt bts bc frame), .int (X4_finishFrame_streak str bts bc frame), .int (X4_finishFrame_mark str mk bts bc frame)])), (a2, .inr (3, [.ref a6, .int (X4_finishFrame_messageCount mcn bts bc frame), .int (X4_finishFrame_bits bts bc frame), .int (X4_finishFrame_bitCount bc frame)])), (a6, .inl (cA6, 4, .inl (X4_finishFrame_a_mf mcn bts bc mf frame))), (a5, .inl (cA5, 64, .inl (X4_finishFrame_a_ff fc ff frame)))] := by rw [← e_8, ← e_9, ← e_10, ← e_11, ← e_12, ← e_13, ← e_14, ← e_15, ← e_16]; exact hD.sub [0, 2, 3, 4, 1] (by decide) rfl
      exact W.vret hx hb hr (fun t ht hW => ⟨⟨(), rfl, trivial, po.ret ht hW hP9 hK hD9⟩, hS.F ht⟩) hS.2.2 dX4_finishFrame_55
    · refine lv_aload_n hx hb dX4_finishFrame_48 rfl (lv_at hl 0 rfl) ?_
      refine va_get (D := (dC, dI)) (ci := 5) (v := .ref a1) (C := RX4) (T := TX4) (N := 12) hx hb hts iX4 hown hK hP 0 rfl rfl 1 (by decide) (hts (.fieldLink RX4 16 "PulseRows" "faultLog" "LPulseRows$FaultLog;") (List.mem_of_getElem? (i := 2) rfl)) (fun _ h9 => h9) rfl dX4_finishFrame_49 ?_
      have hPc := hP.sub (ws' := [(a1, .inr (2, [.int cnt, .int 0, .int mk]))]) [2] rfl
      have hDc := hD.sub (ws' := [(a1, .inr (2, [.int cnt, .int 0, .int mk]))]) [2] (by decide) rfl
      have hKc := hK.sub (tys' := []) [] rfl
      have hFc := va_free (wc := [(a1, .inr (2, [.int cnt, .int 0, .int mk]))]) hD hS hA [2] rfl
      refine va_callv (va_runV (As := []) (rest := []) ⟨hx, hb, hml, hown, hts⟩ (k_X1_add l dC dI H.size a1 cnt 0 mk) (cwV 0 hts gX4_finishFrame_X1_add rfl rfl rfl (by decide +kernel) ⟨Nat.le_of_ble_eq_true rfl, Nat.le_of_ble_eq_true rfl⟩) ⟨pr.blind, va_recv hKc hPc (ci := 2) (q0 := 0) rfl rfl, fun U hU hW => ⟨rfl, pr.call hU hW hPc hKc hDc⟩⟩ rfl rfl hl.1 rfl (lv_room (Nat.le_of_ble_eq_true rfl)) dX4_finishFrame_52 ⟨Nat.le_of_ble_eq_true rfl, Nat.le_of_ble_eq_true rfl⟩) hS (fun q _ h => hFc q h) hFc (fun u t H1 locs ht hvm hw hB hz1 hk1 hS => ?_)
      obtain ⟨hP, hD⟩ := po.join (wr := [(h0, .inr (5, [.int tol, .ref a1, .ref a2, .ref a3, .ref a4, .ref a5, .int (X4_keepFrame_frameCount fc), .long le, .long cal, .int inf, .int nib, .int nc])), (a5, .inl (cA5, 64, .inl (X4_keepFrame_a_ff fc ff frame))), (a2, .inr (3, [.ref a6, .int (X2_take_messageCount mcn bts bc (X4_statusOf_r frame)), .int (X2_take_bits bts bc (X4_statusOf_r frame)), .int (X2_take_bitCount bc (X4_statusOf_r frame))])), (a6, .inl (cA6, 4, .inl (X2_take_a_mf mcn bts bc mf (X4_statusOf_r frame))))]) hP hD [2] [0, 1, 3, 4] rfl rfl (by decide) (by decide) hk1 hFc ht hB
      generalize H1 = H at hP hS ⊢
      clear ht hvm hB hz1 hk1 hPc hDc hKc hFc
      have hP : va_P (dC, dI) vwCl [(h0, .inr (5, [.int tol, .ref a1, .ref a2, .ref a3, .ref a4, .ref a5, .int (X4_keepFrame_frameCount fc), .long le, .long cal, .int inf, .int nib, .int nc])), (a5, .inl (cA5, 64, .inl (X4_keepFrame_a_ff fc ff frame))), (a2, .inr (3, [.ref a6, .int (X2_take_messageCount mcn bts bc (X4_statusOf_r frame)), .int (X2_take_bits bts bc (X4_statusOf_r frame)), .int (X2_take_bitCount bc (X4_statusOf_r frame))])), (a6, .inl (cA6, 4, .inl (X2_take_a_mf mcn bts bc mf (X4_statusOf_r frame)))), (a1, .inr (2, [.int (X1_add_count cnt), .int (X1_add_streak 0), .int (X1_add_mark 0 mk)]))] H := hP
      have hD : va_D A [(h0, .inr (5, [.int tol, .ref a1, .ref a2, .ref a3, .ref a4, .ref a5, .int (X4_keepFrame_frameCount fc), .long le, .long cal, .int inf, .int nib, .int nc])), (a5, .inl (cA5, 64, .inl (X4_keepFrame_a_ff fc ff frame))), (a2, .inr (3, [.ref a6, .int (X2_take_messageCount mcn bts bc (X4_statusOf_r frame)), .int (X2_take_bits bts bc (X4_statusOf_r frame)), .int (X2_take_bitCount bc (X4_statusOf_r frame))])), (a6, .inl (cA6, 4, .inl (X2_take_a_mf mcn bts bc mf (X4_statusOf_r frame)))), (a1, .inr (2, [.int (X1_add_count cnt), .int (X1_add_streak 0), .int (X1_add_mark 0 mk)]))] := hD
      refine W.widen (k := 0) (n := 0) (Nat.le_of_ble_eq_true rfl) (Nat.le_of_ble_eq_true rfl) ?_
      have e_18 : X4_keepFrame_frameCount fc = X4_finishFrame_frameCount fc := by rw [X4_finishFrame_frameCount]
      have e_19 : X1_add_count cnt = X4_finishFrame_count cnt bts bc frame := by rw [X4_finishFrame_count, if_neg c_3, if_pos c_7]
      have e_20 : X1_add_streak 0 = X4_finishFrame_streak str bts bc frame := by rw [X4_finishFrame_streak, if_neg c_3, if_pos c_7]
      have e_21 : X1_add_mark 0 mk = X4_finishFrame_mark str mk bts bc frame := by rw [X4_finishFrame_mark, if_neg c_3, if_pos c_7]
      have e_22 : X2_take_messageCount mcn bts bc (X4_statusOf_r frame) = X4_finishFrame_messageCount mcn bts bc frame := by rw [X4_finishFrame_messageCount, if_neg c_3]
      have e_23 : X2_take_bits bts bc (X4_statusOf_r frame) = X4_finishFrame_bits bts bc frame := by rw [X4_finishFrame_bits, if_neg c_3]
      have e_24 : X2_take_bitCount bc (X4_statusOf_r frame) = X4_finishFrame_bitCount bc frame := by rw [X4_finishFrame_bitCount, if_neg c_3]
      have e_25 : X2_take_a_mf mcn bts bc mf (X4_statusOf_r frame) = X4_finishFrame_a_mf mcn bts bc mf frame := by rw [X4_finishFrame_a_mf, if_neg c_3]
      have e_26 : X4_keepFrame_a_ff fc ff frame = X4_finishFrame_a_ff fc ff frame := by rw [X4_finishFrame_a_ff]
      have hP9 : va_P (dC, dI) vwCl [(h0, .inr (5, [.int tol, .ref a1, .ref a2, .ref a3, .ref a4, .ref a5, .int (X4_finishFrame_frameCount fc), .long le, .long cal, .int inf, .int nib, .int nc])), (a1, .inr (2, [.int (X4_finishFrame_count cnt bts bc frame), .int (X4_finishFrame_streak str bts bc frame), .int (X4_finishFrame_mark str mk bts bc frame)])), (a2, .inr (3, [.ref a6, .int (X4_finishFrame_messageCount mcn bts bc frame), .int (X4_finishFrame_bits bts bc frame), .int (X4_finishFrame_bitCount bc frame)])), (a6, .inl (cA6, 4, .inl (X4_finishFrame_a_mf mcn bts bc mf frame))), (a5, .inl (cA5, 64, .inl (X4_finishFrame_a_ff fc ff frame)))] H := by rw [← e_18, ← e_19, ← e_20, ← e_21, ← e_22, ← e_23, ← e_24, ← e_25, ← e_26]; exact hP.sub [0, 4, 2, 3, 1] rfl
      have hD9 : va_D A [(h0, .inr (5, [.int tol, .ref a1, .ref a2, .ref a3, .ref a4, .ref a5, .int (X4_finishFrame_frameCount fc), .long le, .long cal, .int inf, .int nib, .int nc])), (a1, .inr (2, [.int (X4_finishFrame_count cnt bts bc frame), .int (X4_finishFrame_streak str bts bc frame), .int (X4_finishFrame_mark str mk bts bc frame)])), (a2, .inr (3, [.ref a6, .int (X4_finishFrame_messageCount mcn bts bc frame), .int (X4_finishFrame_bits bts bc frame), .int (X4_finishFrame_bitCount bc frame)])), (a6, .inl (cA6, 4, .inl (X4_finishFrame_a_mf mcn bts bc mf frame))), (a5, .inl (cA5, 64, .inl (X4_finishFrame_a_ff fc ff frame)))] := by rw [← e_18, ← e_19, ← e_20, ← e_21, ← e_22, ← e_23, ← e_24, ← e_25, ← e_26]; exact hD.sub [0, 4, 2, 3, 1] (by decide) rfl
      exact W.vret hx hb hr (fun t ht hW => ⟨⟨(), rfl, trivial, po.ret ht hW hP9 hK hD9⟩, hS.F ht⟩) hS.2.2 dX4_finishFrame_55
  · refine lv_aload_n hx hb dX4_finishFrame_12 rfl (lv_at hl 0 rfl) ?_
    refine va_get (D := (dC, dI)) (ci := 5) (v := .ref a2) (C := RX4) (T := TX4) (N := 12) hx hb hts iX4 hown hK hP 3 rfl rfl 2 (by decide) (hts (.fieldLink RX4 23 "PulseRows" "slowChannel" "LPulseRows$SlowChannel;") (List.mem_of_getElem? (i := 1) rfl)) (fun _ h9 => h9) rfl dX4_finishFrame_13 ?_
    have hPc := hP.sub (ws' := [(a2, .inr (3, [.ref a6, .int mcn, .int bts, .int bc]))]) [1] rfl
    have hDc := hD.sub (ws' := [(a2, .inr (3, [.ref a6, .int mcn, .int bts, .int bc]))]) [1] (by decide) rfl
    have hKc := hK.sub (tys' := []) [] rfl
    have hFc := va_free (wc := [(a2, .inr (3, [.ref a6, .int mcn, .int bts, .int bc]))]) hD hS hA [1] rfl
    refine va_callv (va_runV (As := []) (rest := []) ⟨hx, hb, hml, hown, hts⟩ (k_X2_dropRow l dC dI H.size a2 a6 mcn bts bc) (cwV 0 hts gX4_finishFrame_X2_dropRow rfl rfl rfl (by decide +kernel) ⟨Nat.le_of_ble_eq_true rfl, Nat.le_of_ble_eq_true rfl⟩) ⟨pr.blind, va_recv hKc hPc (ci := 3) (q0 := 0) rfl rfl, fun U hU hW => ⟨rfl, pr.call hU hW hPc hKc hDc⟩⟩ rfl rfl hl.1 rfl (lv_room (Nat.le_of_ble_eq_true rfl)) dX4_finishFrame_16 ⟨Nat.le_of_ble_eq_true rfl, Nat.le_of_ble_eq_true rfl⟩) hS (fun q _ h => hFc q h) hFc (fun u t H1 locs ht hvm hw hB hz1 hk1 hS => ?_)
    obtain ⟨hP, hD⟩ := po.join (wr := [(a1, .inr (2, [.int cnt, .int str, .int mk])), (a6, .inl (cA6, 4, .inl mf)), (h0, .inr (5, [.int tol, .ref a1, .ref a2, .ref a3, .ref a4, .ref a5, .int (X4_keepFrame_frameCount fc), .long le, .long cal, .int inf, .int nib, .int nc])), (a5, .inl (cA5, 64, .inl (X4_keepFrame_a_ff fc ff frame)))]) hP hD [1] [0, 2, 3, 4] rfl rfl (by decide) (by decide) hk1 hFc ht hB
    generalize H1 = H at hP hS ⊢
    clear ht hvm hB hz1 hk1 hPc hDc hKc hFc
    have hP : va_P (dC, dI) vwCl [(a1, .inr (2, [.int cnt, .int str, .int mk])), (a6, .inl (cA6, 4, .inl mf)), (h0, .inr (5, [.int tol, .ref a1, .ref a2, .ref a3, .ref a4, .ref a5, .int (X4_keepFrame_frameCount fc), .long le, .long cal, .int inf, .int nib, .int nc])), (a5, .inl (cA5, 64, .inl (X4_keepFrame_a_ff fc ff frame))), (a2, .inr (3, [.ref a6, .int mcn, .int 0, .int 0]))] H := hP
    have hD : va_D A [(a1, .inr (2, [.int cnt, .int str, .int mk])), (a6, .inl (cA6, 4, .inl mf)), (h0, .inr (5, [.int tol, .ref a1, .ref a2, .ref a3, .ref a4, .ref a5, .int (X4_keepFrame_frameCount fc), .long le, .long cal, .int inf, .int nib, .int nc])), (a5, .inl (cA5, 64, .inl (X4_keepFrame_a_ff fc ff frame))), (a2, .inr (3, [.ref a6, .int mcn, .int 0, .int 0]))] := hD
    refine W.widen (k := 0) (n := 0) (Nat.le_of_ble_eq_true rfl) (Nat.le_of_ble_eq_true rfl) ?_
    refine lv_aload_n hx hb dX4_finishFrame_19 rfl (lv_at hl 0 rfl) ?_
    refine va_get (D := (dC, dI)) (ci := 5) (v := .ref a1) (C := RX4) (T := TX4) (N := 12) hx hb hts iX4 hown hK hP 2 rfl rfl 1 (by decide) (hts (.fieldLink RX4 16 "PulseRows" "faultLog" "LPulseRows$FaultLog;") (List.mem_of_getElem? (i := 2) rfl)) (fun _ h9 => h9) rfl dX4_finishFrame_20 ?_
    have hPc := hP.sub (ws' := [(a1, .inr (2, [.int cnt, .int str, .int mk]))]) [0] rfl
    have hDc := hD.sub (ws' := [(a1, .inr (2, [.int cnt, .int str, .int mk]))]) [0] (by decide) rfl
    have hKc := hK.sub (tys' := []) [] rfl
    have hFc := va_free (wc := [(a1, .inr (2, [.int cnt, .int str, .int mk]))]) hD hS hA [0] rfl
    refine va_callv (va_runV (As := []) (rest := []) ⟨hx, hb, hml, hown, hts⟩ (k_X1_add l dC dI H.size a1 cnt str mk) (cwV 0 hts gX4_finishFrame_X1_add rfl rfl rfl (by decide +kernel) ⟨Nat.le_of_ble_eq_true rfl, Nat.le_of_ble_eq_true rfl⟩) ⟨pr.blind, va_recv hKc hPc (ci := 2) (q0 := 0) rfl rfl, fun U hU hW => ⟨rfl, pr.call hU hW hPc hKc hDc⟩⟩ rfl rfl hl.1 rfl (lv_room (Nat.le_of_ble_eq_true rfl)) dX4_finishFrame_23 ⟨Nat.le_of_ble_eq_true rfl, Nat.le_of_ble_eq_true rfl⟩) hS (fun q _ h => hFc q h) hFc (fun u t H1 locs ht hvm hw hB hz1 hk1 hS => ?_)
    obtain ⟨hP, hD⟩ := po.join (wr := [(a6, .inl (cA6, 4, .inl mf)), (h0, .inr (5, [.int tol, .ref a1, .ref a2, .ref a3, .ref a4, .ref a5, .int (X4_keepFrame_frameCount fc), .long le, .long cal, .int inf, .int nib, .int nc])), (a5, .inl (cA5, 64, .inl (X4_keepFrame_a_ff fc ff frame))), (a2, .inr (3, [.ref a6, .int mcn, .int 0, .int 0]))]) hP hD [0] [1, 2, 3, 4] rfl rfl (by decide) (by decide) hk1 hFc ht hB
    generalize H1 = H at hP hS ⊢
    clear ht hvm hB hz1 hk1 hPc hDc hKc hFc
    have hP : va_P (dC, dI) vwCl [(a6, .inl (cA6, 4, .inl mf)), (h0, .inr (5, [.int tol, .ref a1, .ref a2, .ref a3, .ref a4, .ref a5, .int (X4_keepFrame_frameCount fc), .long le, .long cal, .int inf, .int nib, .int nc])), (a5, .inl (cA5, 64, .inl (X4_keepFrame_a_ff fc ff frame))), (a2, .inr (3, [.ref a6, .int mcn, .int 0, .int 0])), (a1, .inr (2, [.int (X1_add_count cnt), .int (X1_add_streak str), .int (X1_add_mark str mk)]))] H := hP
    have hD : va_D A [(a6, .inl (cA6, 4, .inl mf)), (h0, .inr (5, [.int tol, .ref a1, .ref a2, .ref a3, .ref a4, .ref a5, .int (X4_keepFrame_frameCount fc), .long le, .long cal, .int inf, .int nib, .int nc])), (a5, .inl (cA5, 64, .inl (X4_keepFrame_a_ff fc ff frame))), (a2, .inr (3, [.ref a6, .int mcn, .int 0, .int 0])), (a1, .inr (2, [.int (X1_add_count cnt), .int (X1_add_streak str), .int (X1_add_mark str mk)]))] := hD
    refine W.widen (k := 0) (n := 0) (Nat.le_of_ble_eq_true rfl) (Nat.le_of_ble_eq_true rfl) ?_
    have e_29 : X4_keepFrame_frameCount fc = X4_finishFrame_frameCount fc := by rw [X4_finishFrame_frameCount]
    have e_30 : X1_add_count cnt = X4_finishFrame_count cnt bts bc frame := by rw [X4_finishFrame_count, if_pos c_3]
    have e_31 : X1_add_streak str = X4_finishFrame_streak str bts bc frame := by rw [X4_finishFrame_streak, if_pos c_3]
    have e_32 : X1_add_mark str mk = X4_finishFrame_mark str mk bts bc frame := by rw [X4_finishFrame_mark, if_pos c_3]
    have e_33 : mcn = X4_finishFrame_messageCount mcn bts bc frame := by rw [X4_finishFrame_messageCount, if_pos c_3]
    have e_34 : (0 : Int32) = X4_finishFrame_bits bts bc frame := by rw [X4_finishFrame_bits, if_pos c_3]
    have e_35 : (0 : Int32) = X4_finishFrame_bitCount bc frame := by rw [X4_finishFrame_bitCount, if_pos c_3]
    have e_36 : mf = X4_finishFrame_a_mf mcn bts bc mf frame := by rw [X4_finishFrame_a_mf, if_pos c_3]
    have e_37 : X4_keepFrame_a_ff fc ff frame = X4_finishFrame_a_ff fc ff frame := by rw [X4_finishFrame_a_ff]
    have hP9 : va_P (dC, dI) vwCl [(h0, .inr (5, [.int tol, .ref a1, .ref a2, .ref a3, .ref a4, .ref a5, .int (X4_finishFrame_frameCount fc), .long le, .long cal, .int inf, .int nib, .int nc])), (a1, .inr (2, [.int (X4_finishFrame_count cnt bts bc frame), .int (X4_finishFrame_streak str bts bc frame), .int (X4_finishFrame_mark str mk bts bc frame)])), (a2, .inr (3, [.ref a6, .int (X4_finishFrame_messageCount mcn bts bc frame), .int (X4_finishFrame_bits bts bc frame), .int (X4_finishFrame_bitCount bc frame)])), (a6, .inl (cA6, 4, .inl (X4_finishFrame_a_mf mcn bts bc mf frame))), (a5, .inl (cA5, 64, .inl (X4_finishFrame_a_ff fc ff frame)))] H := by rw [← e_29, ← e_30, ← e_31, ← e_32, ← e_33, ← e_34, ← e_35, ← e_36, ← e_37]; exact hP.sub [1, 4, 3, 0, 2] rfl
    have hD9 : va_D A [(h0, .inr (5, [.int tol, .ref a1, .ref a2, .ref a3, .ref a4, .ref a5, .int (X4_finishFrame_frameCount fc), .long le, .long cal, .int inf, .int nib, .int nc])), (a1, .inr (2, [.int (X4_finishFrame_count cnt bts bc frame), .int (X4_finishFrame_streak str bts bc frame), .int (X4_finishFrame_mark str mk bts bc frame)])), (a2, .inr (3, [.ref a6, .int (X4_finishFrame_messageCount mcn bts bc frame), .int (X4_finishFrame_bits bts bc frame), .int (X4_finishFrame_bitCount bc frame)])), (a6, .inl (cA6, 4, .inl (X4_finishFrame_a_mf mcn bts bc mf frame))), (a5, .inl (cA5, 64, .inl (X4_finishFrame_a_ff fc ff frame)))] := by rw [← e_29, ← e_30, ← e_31, ← e_32, ← e_33, ← e_34, ← e_35, ← e_36, ← e_37]; exact hD.sub [1, 4, 3, 0, 2] (by decide) rfl
    exact W.vret hx hb hr (fun t ht hW => ⟨⟨(), rfl, trivial, po.ret ht hW hP9 hK hD9⟩, hS.F ht⟩) hS.2.2 dX4_finishFrame_26
def X4_takeCalibration_calibration (tol : Int32) (cal : Int64) (len : Int64) : Int64 := if (X4_isTaken_r tol cal len) = 0 then cal else len
def X4_takeCalibration_inFrame (tol : Int32) (cal : Int64) (len : Int64) : Int32 := X4_isTaken_r tol cal len
def X4_takeCalibration_count (tol : Int32) (cal : Int64) (cnt : Int32) (len : Int64) : Int32 := if (X4_isTaken_r tol cal len) = 0 then (X1_add_count cnt) else cnt
def X4_takeCalibration_streak (tol : Int32) (cal : Int64) (str : Int32) (len : Int64) : Int32 := if (X4_isTaken_r tol cal len) = 0 then (X1_add_streak str) else str
def X4_takeCalibration_mark (tol : Int32) (cal : Int64) (str : Int32) (mk : Int32) (len : Int64) : Int32 := if (X4_isTaken_r tol cal len) = 0 then (X1_add_mark str mk) else mk
set_option maxHeartbeats 4000000 in
set_option maxRecDepth 100000 in
theorem k_X4_takeCalibration (l : Launch) (dC : Nat → ClassId) (dI : Nat → Nat → Nat) (sz : Nat) (h0 : Nat) (tol : Int32) (a1 : Nat) (a2 : Nat) (a3 : Nat) (a4 : Nat) (a5 : Nat) (fc : Int32) (le : Int64) (cal : Int64) (inf : Int32) (nib : Int32) (nc : Int32) (cnt : Int32) (str : Int32) (mk : Int32) (len : Int64)  : Met l yX4_takeCalibration wsX4_takeCalibration ({ frames := 2, cells := 0, slots := 0, locals := 37 }) (va_Pc [.ref h0, .long len] (pr (dC, dI) [] [(h0, .inr (5, [.int tol, .ref a1, .ref a2, .ref a3, .ref a4, .ref a5, .int fc, .long le, .long cal, .int inf, .int nib, .int nc])), (a1, .inr (2, [.int cnt, .int str, .int mk]))] sz)) (va_Qv (fun _ : Unit => True) (fun _ t => po (dC, dI) [] (va_A [(h0, .inr (5, [.int tol, .ref a1, .ref a2, .ref a3, .ref a4, .ref a5, .int fc, .long le, .long cal, .int inf, .int nib, .int nc])), (a1, .inr (2, [.int cnt, .int str, .int mk]))] sz) [(h0, .inr (5, [.int tol, .ref a1, .ref a2, .ref a3, .ref a4, .ref a5, .int fc, .long le, .long (X4_takeCalibration_calibration tol cal len), .int (X4_takeCalibration_inFrame tol cal len), .int 0, .int 0])), (a1, .inr (2, [.int (X4_takeCalibration_count tol cal cnt len), .int (X4_takeCalibration_streak tol cal str len), .int (X4_takeCalibration_mark tol cal str mk len)]))] t) (va_A [(h0, .inr (5, [.int tol, .ref a1, .ref a2, .ref a3, .ref a4, .ref a5, .int fc, .long le, .long cal, .int inf, .int nib, .int nc])), (a1, .inr (2, [.int cnt, .int str, .int mk]))] sz)) 0 0 (va_A [(h0, .inr (5, [.int tol, .ref a1, .ref a2, .ref a3, .ref a4, .ref a5, .int fc, .long le, .long cal, .int inf, .int nib, .int nc])), (a1, .inr (2, [.int cnt, .int str, .int mk]))] sz) := by
  refine Met.ofW (cc := cX4_takeCalibration) (maxL := 3) (ret := none) (by decide) rfl ?_
  intro p e s m args below meth c s₁ B hml hv
  obtain ⟨rfl, hsz, hP, hK, hD0⟩ := hv
  have hx := B.exec
  have hb := B.bytes
  have hr := B.returns
  have hts := atoms_spec (ws := wsX4_takeCalibration) B.pre
  have hown : s.vm.findClass RX4 = some m.cls := findClass_of_methodNamed B.named
  have hlocks := B.notSynchronized
  subst hsz
  have hD := hD0.self (sz := s.heap.size)
  generalize hAe : va_A [(h0, .inr (5, [.int tol, .ref a1, .ref a2, .ref a3, .ref a4, .ref a5, .int fc, .long le, .long cal, .int inf, .int nib, .int nc])), (a1, .inr (2, [.int cnt, .int str, .int mk]))] s.heap.size = A at hD ⊢
  have hA : ∀ q : Nat, s.heap.size ≤ q → A q := fun q h => by rw [← hAe]; exact Or.inr h
  have hS : va_S A s.heap s.heap [] := va_S.rf
  have hP : va_P (dC, dI) vwCl [(h0, .inr (5, [.int tol, .ref a1, .ref a2, .ref a3, .ref a4, .ref a5, .int fc, .long le, .long cal, .int inf, .int nib, .int nc])), (a1, .inr (2, [.int cnt, .int str, .int mk]))] s.heap := hP
  have iX4 : ∀ w ∈ wsX40, w ∈ wsX4_takeCalibration := by decide +kernel
  have hl := lv_entry ([.ref h0, .long len]) (n := 3) (Nat.le_of_ble_eq_true rfl)
  rw [lg_entry_eq]
  generalize (lg_sl ([.ref h0, .long len]) ++ List.replicate (3 - (lg_sl ([.ref h0, .long len])).length) Slot.unset).toArray = ls at hl ⊢
  have hl : lv_has ls 3 [(0, .ref h0), (1, .long len)] := hl
  refine lv_aload_n hx hb dX4_takeCalibration_0 rfl (lv_at hl 0 rfl) ?_
  refine lv_iconst (v := 0) hx hb dX4_takeCalibration_1 (by decide) ?_
  refine va_put (D := (dC, dI)) (ci := 5) (v := .int 0) (ty := .int) (C := RX4) (T := TX4) (N := 12) hx hb hts iX4 tyX4 tyX4_ok nmX4 hown hK hP hD hS 0 rfl rfl 10 (by decide) (hts (.fieldLink RX4 149 "PulseRows" "nibbles" "I") (List.mem_of_getElem? (i := 1) rfl)) (fun _ h9 => h9) rfl (by decide +kernel) rfl rfl (Nat.le_of_ble_eq_true rfl) dX4_takeCalibration_2 (fun H locs hP hD hS => ?_)
  have hP : va_P (dC, dI) vwCl [(h0, .inr (5, [.int tol, .ref a1, .ref a2, .ref a3, .ref a4, .ref a5, .int fc, .long le, .long cal, .int inf, .int 0, .int nc])), (a1, .inr (2, [.int cnt, .int str, .int mk]))] H := hP
  have hD : va_D A [(h0, .inr (5, [.int tol, .ref a1, .ref a2, .ref a3, .ref a4, .ref a5, .int fc, .long le, .long cal, .int inf, .int 0, .int nc])), (a1, .inr (2, [.int cnt, .int str, .int mk]))] := hD
  refine lv_aload_n hx hb dX4_takeCalibration_5 rfl (lv_at hl 0 rfl) ?_
  refine lv_iconst (v := 0) hx hb dX4_takeCalibration_6 (by decide) ?_
  refine va_put (D := (dC, dI)) (ci := 5) (v := .int 0) (ty := .int) (C := RX4) (T := TX4) (N := 12) hx hb hts iX4 tyX4 tyX4_ok nmX4 hown hK hP hD hS 0 rfl rfl 11 (by decide) (hts (.fieldLink RX4 66 "PulseRows" "nibbleCount" "I") (List.mem_of_getElem? (i := 2) rfl)) (fun _ h9 => h9) rfl (by decide +kernel) rfl rfl (Nat.le_of_ble_eq_true rfl) dX4_takeCalibration_7 (fun H locs hP hD hS => ?_)
  have hP : va_P (dC, dI) vwCl [(h0, .inr (5, [.int tol, .ref a1, .ref a2, .ref a3, .ref a4, .ref a5, .int fc, .long le, .long cal, .int inf, .int 0, .int 0])), (a1, .inr (2, [.int cnt, .int str, .int mk]))] H := hP
  have hD : va_D A [(h0, .inr (5, [.int tol, .ref a1, .ref a2, .ref a3, .ref a4, .ref a5, .int fc, .long le, .long cal, .int inf, .int 0, .int 0])), (a1, .inr (2, [.int cnt, .int str, .int mk]))] := hD
  refine lv_aload_n hx hb dX4_takeCalibration_10 rfl (lv_at hl 0 rfl) ?_
  refine lv_aload_n hx hb dX4_takeCalibration_11 rfl (lv_at hl 0 rfl) ?_
  refine lv_lload_n hx hb dX4_takeCalibration_12 rfl (lv_at hl 1 rfl) ?_
  have hPc := hP.sub (ws' := [(h0, .inr (5, [.int tol, .ref a1, .ref a2, .ref a3, .ref a4, .ref a5, .int fc, .long le, .long cal, .int inf, .int 0, .int 0]))]) [0] rfl
  have hDc := hD.sub (ws' := [(h0, .inr (5, [.int tol, .ref a1, .ref a2, .ref a3, .ref a4, .ref a5, .int fc, .long le, .long cal, .int inf, .int 0, .int 0]))]) [0] (by decide) rfl
  have hKc := hK.sub (tys' := []) [] rfl
  have hFc := va_free (wc := [(h0, .inr (5, [.int tol, .ref a1, .ref a2, .ref a3, .ref a4, .ref a5, .int fc, .long le, .long cal, .int inf, .int 0, .int 0]))]) hD hS hA [0] rfl
  refine va_calli (va_runV (As := [.long len]) (rest := [.ref h0]) ⟨hx, hb, hml, hown, hts⟩ (k_X4_isTaken l dC dI H.size h0 tol a1 a2 a3 a4 a5 fc le cal inf 0 0 len) (cwV 1 hts gX4_takeCalibration_X4_isTaken rfl rfl rfl (by decide +kernel) ⟨Nat.le_of_ble_eq_true rfl, Nat.le_of_ble_eq_true rfl⟩) ⟨pr.blind, va_recv hKc hPc (ci := 5) (q0 := 0) rfl rfl, fun U hU hW => ⟨rfl, pr.call hU hW hPc hKc hDc⟩⟩ rfl rfl hl.1 rfl (lv_room (Nat.le_of_ble_eq_true rfl)) dX4_takeCalibration_13 ⟨Nat.le_of_ble_eq_true rfl, Nat.le_of_ble_eq_true rfl⟩) hS (fun q _ h => hFc q h) hFc (fun r_1 u t H1 locs ht hvm hw hB hz1 hk1 hS => ?_)
  subst r_1
  obtain ⟨hP, hD⟩ := po.join (wr := [(a1, .inr (2, [.int cnt, .int str, .int mk]))]) hP hD [0] [1] rfl rfl (by decide) (by decide) hk1 hFc ht hB
  generalize H1 = H at hP hS ⊢
  clear ht hvm hB hz1 hk1 hPc hDc hKc hFc
  have hP : va_P (dC, dI) vwCl [(a1, .inr (2, [.int cnt, .int str, .int mk])), (h0, .inr (5, [.int tol, .ref a1, .ref a2, .ref a3, .ref a4, .ref a5, .int fc, .long le, .long cal, .int inf, .int 0, .int 0]))] H := hP
  have hD : va_D A [(a1, .inr (2, [.int cnt, .int str, .int mk])), (h0, .inr (5, [.int tol, .ref a1, .ref a2, .ref a3, .ref a4, .ref a5, .int fc, .long le, .long cal, .int inf, .int 0, .int 0]))] := hD
  refine W.widen (k := 0) (n := 0) (Nat.le_of_ble_eq_true rfl) (Nat.le_of_ble_eq_true rfl) ?_
  refine va_put (D := (dC, dI)) (ci := 5) (v := .int (X4_isTaken_r tol cal len)) (ty := .boolean) (C := RX4) (T := TX4) (N := 12) hx hb hts iX4 tyX4 tyX4_ok nmX4 hown hK hP hD hS 1 rfl rfl 9 (by decide) (hts (.fieldLink RX4 55 "PulseRows" "inFrame" "Z") (List.mem_of_getElem? (i := 3) rfl)) (fun _ h9 => h9) rfl (by decide +kernel) (X4_isTaken_r_z tol cal len).nar (X4_isTaken_r_z tol cal len).fit (Nat.le_of_ble_eq_true rfl) dX4_takeCalibration_16 (fun H locs hP hD hS => ?_)
  have hP : va_P (dC, dI) vwCl [(a1, .inr (2, [.int cnt, .int str, .int mk])), (h0, .inr (5, [.int tol, .ref a1, .ref a2, .ref a3, .ref a4, .ref a5, .int fc, .long le, .long cal, .int (X4_isTaken_r tol cal len), .int 0, .int 0]))] H := hP
  have hD : va_D A [(a1, .inr (2, [.int cnt, .int str, .int mk])), (h0, .inr (5, [.int tol, .ref a1, .ref a2, .ref a3, .ref a4, .ref a5, .int fc, .long le, .long cal, .int (X4_isTaken_r tol cal len), .int 0, .int 0]))] := hD
  refine lv_aload_n hx hb dX4_takeCalibration_19 rfl (lv_at hl 0 rfl) ?_
  refine va_get (D := (dC, dI)) (ci := 5) (v := .int (X4_isTaken_r tol cal len)) (C := RX4) (T := TX4) (N := 12) hx hb hts iX4 hown hK hP 1 rfl rfl 9 (by decide) (hts (.fieldLink RX4 55 "PulseRows" "inFrame" "Z") (List.mem_of_getElem? (i := 3) rfl)) (fun _ h9 => h9) rfl dX4_takeCalibration_20 ?_
  refine lv_if_eq (tgt := 34) hx hb dX4_takeCalibration_23 (by decide) (fun c_2 => ?_) (fun c_2 => ?_)
  · refine lv_aload_n hx hb dX4_takeCalibration_34 rfl (lv_at hl 0 rfl) ?_
    refine va_get (D := (dC, dI)) (ci := 5) (v := .ref a1) (C := RX4) (T := TX4) (N := 12) hx hb hts iX4 hown hK hP 1 rfl rfl 1 (by decide) (hts (.fieldLink RX4 16 "PulseRows" "faultLog" "LPulseRows$FaultLog;") (List.mem_of_getElem? (i := 5) rfl)) (fun _ h9 => h9) rfl dX4_takeCalibration_35 ?_
    have hPc := hP.sub (ws' := [(a1, .inr (2, [.int cnt, .int str, .int mk]))]) [0] rfl
    have hDc := hD.sub (ws' := [(a1, .inr (2, [.int cnt, .int str, .int mk]))]) [0] (by decide) rfl
    have hKc := hK.sub (tys' := []) [] rfl
    have hFc := va_free (wc := [(a1, .inr (2, [.int cnt, .int str, .int mk]))]) hD hS hA [0] rfl
    refine va_callv (va_runV (As := []) (rest := []) ⟨hx, hb, hml, hown, hts⟩ (k_X1_add l dC dI H.size a1 cnt str mk) (cwV 0 hts gX4_takeCalibration_X1_add rfl rfl rfl (by decide +kernel) ⟨Nat.le_of_ble_eq_true rfl, Nat.le_of_ble_eq_true rfl⟩) ⟨pr.blind, va_recv hKc hPc (ci := 2) (q0 := 0) rfl rfl, fun U hU hW => ⟨rfl, pr.call hU hW hPc hKc hDc⟩⟩ rfl rfl hl.1 rfl (lv_room (Nat.le_of_ble_eq_true rfl)) dX4_takeCalibration_38 ⟨Nat.le_of_ble_eq_true rfl, Nat.le_of_ble_eq_true rfl⟩) hS (fun q _ h => hFc q h) hFc (fun u t H1 locs ht hvm hw hB hz1 hk1 hS => ?_)
    obtain ⟨hP, hD⟩ := po.join (wr := [(h0, .inr (5, [.int tol, .ref a1, .ref a2, .ref a3, .ref a4, .ref a5, .int fc, .long le, .long cal, .int (X4_isTaken_r tol cal len), .int 0, .int 0]))]) hP hD [0] [1] rfl rfl (by decide) (by decide) hk1 hFc ht hB
    generalize H1 = H at hP hS ⊢
    clear ht hvm hB hz1 hk1 hPc hDc hKc hFc
    have hP : va_P (dC, dI) vwCl [(h0, .inr (5, [.int tol, .ref a1, .ref a2, .ref a3, .ref a4, .ref a5, .int fc, .long le, .long cal, .int (X4_isTaken_r tol cal len), .int 0, .int 0])), (a1, .inr (2, [.int (X1_add_count cnt), .int (X1_add_streak str), .int (X1_add_mark str mk)]))] H := hP
    have hD : va_D A [(h0, .inr (5, [.int tol, .ref a1, .ref a2, .ref a3, .ref a4, .ref a5, .int fc, .long le, .long cal, .int (X4_isTaken_r tol cal len), .int 0, .int 0])), (a1, .inr (2, [.int (X1_add_count cnt), .int (X1_add_streak str), .int (X1_add_mark str mk)]))] := hD
    refine W.widen (k := 0) (n := 0) (Nat.le_of_ble_eq_true rfl) (Nat.le_of_ble_eq_true rfl) ?_
    have e_4 : cal = X4_takeCalibration_calibration tol cal len := by rw [X4_takeCalibration_calibration, if_pos c_2]
    have e_5 : X4_isTaken_r tol cal len = X4_takeCalibration_inFrame tol cal len := by rw [X4_takeCalibration_inFrame]
    have e_8 : X1_add_count cnt = X4_takeCalibration_count tol cal cnt len := by rw [X4_takeCalibration_count, if_pos c_2]
    have e_9 : X1_add_streak str = X4_takeCalibration_streak tol cal str len := by rw [X4_takeCalibration_streak, if_pos c_2]
    have e_10 : X1_add_mark str mk = X4_takeCalibration_mark tol cal str mk len := by rw [X4_takeCalibration_mark, if_pos c_2]
    have hP9 : va_P (dC, dI) vwCl [(h0, .inr (5, [.int tol, .ref a1, .ref a2, .ref a3, .ref a4, .ref a5, .int fc, .long le, .long (X4_takeCalibration_calibration tol cal len), .int (X4_takeCalibration_inFrame tol cal len), .int 0, .int 0])), (a1, .inr (2, [.int (X4_takeCalibration_count tol cal cnt len), .int (X4_takeCalibration_streak tol cal str len), .int (X4_takeCalibration_mark tol cal str mk len)]))] H := by rw [← e_4, ← e_5, ← e_8, ← e_9, ← e_10]; exact hP.sub [0, 1] rfl
    have hD9 : va_D A [(h0, .inr (5, [.int tol, .ref a1, .ref a2, .ref a3, .ref a4, .ref a5, .int fc, .long le, .long (X4_takeCalibration_calibration tol cal len), .int (X4_takeCalibration_inFrame tol cal len), .int 0, .int 0])), (a1, .inr (2, [.int (X4_takeCalibration_count tol cal cnt len), .int (X4_takeCalibration_streak tol cal str len), .int (X4_takeCalibration_mark tol cal str mk len)]))] := by rw [← e_4, ← e_5, ← e_8, ← e_9, ← e_10]; exact hD.sub [0, 1] (by decide) rfl
    exact W.vret hx hb hr (fun t ht hW => ⟨⟨(), rfl, trivial, po.ret ht hW hP9 hK hD9⟩, hS.F ht⟩) hS.2.2 dX4_takeCalibration_41
  · refine lv_aload_n hx hb dX4_takeCalibration_26 rfl (lv_at hl 0 rfl) ?_
    refine lv_lload_n hx hb dX4_takeCalibration_27 rfl (lv_at hl 1 rfl) ?_
    refine va_put (D := (dC, dI)) (ci := 5) (v := .long len) (ty := .long) (C := RX4) (T := TX4) (N := 12) hx hb hts iX4 tyX4 tyX4_ok nmX4 hown hK hP hD hS 1 rfl rfl 8 (by decide) (hts (.fieldLink RX4 152 "PulseRows" "calibration" "J") (List.mem_of_getElem? (i := 4) rfl)) (fun _ h9 => h9) rfl (by decide +kernel) rfl rfl (Nat.le_of_ble_eq_true rfl) dX4_takeCalibration_28 (fun H locs hP hD hS => ?_)
    have hP : va_P (dC, dI) vwCl [(a1, .inr (2, [.int cnt, .int str, .int mk])), (h0, .inr (5, [.int tol, .ref a1, .ref a2, .ref a3, .ref a4, .ref a5, .int fc, .long le, .long len, .int (X4_isTaken_r tol cal len), .int 0, .int 0]))] H := hP
    have hD : va_D A [(a1, .inr (2, [.int cnt, .int str, .int mk])), (h0, .inr (5, [.int tol, .ref a1, .ref a2, .ref a3, .ref a4, .ref a5, .int fc, .long le, .long len, .int (X4_isTaken_r tol cal len), .int 0, .int 0]))] := hD
    refine lv_goto (tgt := 41) hx hb dX4_takeCalibration_31 (by decide) ?_
    have e_11 : len = X4_takeCalibration_calibration tol cal len := by rw [X4_takeCalibration_calibration, if_neg c_2]
    have e_12 : X4_isTaken_r tol cal len = X4_takeCalibration_inFrame tol cal len := by rw [X4_takeCalibration_inFrame]
    have e_15 : cnt = X4_takeCalibration_count tol cal cnt len := by rw [X4_takeCalibration_count, if_neg c_2]
    have e_16 : str = X4_takeCalibration_streak tol cal str len := by rw [X4_takeCalibration_streak, if_neg c_2]
    have e_17 : mk = X4_takeCalibration_mark tol cal str mk len := by rw [X4_takeCalibration_mark, if_neg c_2]
    have hP9 : va_P (dC, dI) vwCl [(h0, .inr (5, [.int tol, .ref a1, .ref a2, .ref a3, .ref a4, .ref a5, .int fc, .long le, .long (X4_takeCalibration_calibration tol cal len), .int (X4_takeCalibration_inFrame tol cal len), .int 0, .int 0])), (a1, .inr (2, [.int (X4_takeCalibration_count tol cal cnt len), .int (X4_takeCalibration_streak tol cal str len), .int (X4_takeCalibration_mark tol cal str mk len)]))] H := by rw [← e_11, ← e_12, ← e_15, ← e_16, ← e_17]; exact hP.sub [1, 0] rfl
    have hD9 : va_D A [(h0, .inr (5, [.int tol, .ref a1, .ref a2, .ref a3, .ref a4, .ref a5, .int fc, .long le, .long (X4_takeCalibration_calibration tol cal len), .int (X4_takeCalibration_inFrame tol cal len), .int 0, .int 0])), (a1, .inr (2, [.int (X4_takeCalibration_count tol cal cnt len), .int (X4_takeCalibration_streak tol cal str len), .int (X4_takeCalibration_mark tol cal str mk len)]))] := by rw [← e_11, ← e_12, ← e_15, ← e_16, ← e_17]; exact hD.sub [1, 0] (by decide) rfl
    exact W.vret hx hb hr (fun t ht hW => ⟨⟨(), rfl, trivial, po.ret ht hW hP9 hK hD9⟩, hS.F ht⟩) hS.2.2 dX4_takeCalibration_41
def X4_takeNibble_frameCount (fc : Int32) (cal : Int64) (nc : Int32) (len : Int64) : Int32 := if (X4_nibbleOf_r len cal) = (-1) then fc else (if (nc + 1) = 8 then (X4_finishFrame_frameCount fc) else fc)
def X4_takeNibble_inFrame (cal : Int64) (inf : Int32) (nc : Int32) (len : Int64) : Int32 := if (X4_nibbleOf_r len cal) = (-1) then 0 else (if (nc + 1) = 8 then 0 else inf)
def X4_takeNibble_nibbles (cal : Int64) (nib : Int32) (len : Int64) : Int32 := if (X4_nibbleOf_r len cal) = (-1) then nib else ((nib <<< ((4 : Int32) &&& 31)) ||| (X4_nibbleOf_r len cal))
def X4_takeNibble_nibbleCount (cal : Int64) (nc : Int32) (len : Int64) : Int32 := if (X4_nibbleOf_r len cal) = (-1) then 0 else (nc + 1)
def X4_takeNibble_count (cal : Int64) (nib : Int32) (nc : Int32) (cnt : Int32) (bts : Int32) (bc : Int32) (len : Int64) : Int32 := if (X4_nibbleOf_r len cal) = (-1) then (X1_add_count cnt) else (if (nc + 1) = 8 then (X4_finishFrame_count cnt bts bc ((nib <<< ((4 : Int32) &&& 31)) ||| (X4_nibbleOf_r len cal))) else cnt)
def X4_takeNibble_streak (cal : Int64) (nib : Int32) (nc : Int32) (str : Int32) (bts : Int32) (bc : Int32) (len : Int64) : Int32 := if (X4_nibbleOf_r len cal) = (-1) then (X1_add_streak str) else (if (nc + 1) = 8 then (X4_finishFrame_streak str bts bc ((nib <<< ((4 : Int32) &&& 31)) ||| (X4_nibbleOf_r len cal))) else str)
def X4_takeNibble_mark (cal : Int64) (nib : Int32) (nc : Int32) (str : Int32) (mk : Int32) (bts : Int32) (bc : Int32) (len : Int64) : Int32 := if (X4_nibbleOf_r len cal) = (-1) then (X1_add_mark str mk) else (if (nc + 1) = 8 then (X4_finishFrame_mark str mk bts bc ((nib <<< ((4 : Int32) &&& 31)) ||| (X4_nibbleOf_r len cal))) else mk)
def X4_takeNibble_messageCount (cal : Int64) (nib : Int32) (nc : Int32) (mcn : Int32) (bts : Int32) (bc : Int32) (len : Int64) : Int32 := if (X4_nibbleOf_r len cal) = (-1) then mcn else (if (nc + 1) = 8 then (X4_finishFrame_messageCount mcn bts bc ((nib <<< ((4 : Int32) &&& 31)) ||| (X4_nibbleOf_r len cal))) else mcn)
def X4_takeNibble_bits (cal : Int64) (nib : Int32) (nc : Int32) (bts : Int32) (bc : Int32) (len : Int64) : Int32 := if (X4_nibbleOf_r len cal) = (-1) then bts else (if (nc + 1) = 8 then (X4_finishFrame_bits bts bc ((nib <<< ((4 : Int32) &&& 31)) ||| (X4_nibbleOf_r len cal))) else bts)
def X4_takeNibble_bitCount (cal : Int64) (nib : Int32) (nc : Int32) (bc : Int32) (len : Int64) : Int32 := if (X4_nibbleOf_r len cal) = (-1) then bc else (if (nc + 1) = 8 then (X4_finishFrame_bitCount bc ((nib <<< ((4 : Int32) &&& 31)) ||| (X4_nibbleOf_r len cal))) else bc)
def X4_takeNibble_a_mf (cal : Int64) (nib : Int32) (nc : Int32) (mcn : Int32) (bts : Int32) (bc : Int32) (mf : Nat → Int32) (len : Int64) : Nat → Int32 := if (X4_nibbleOf_r len cal) = (-1) then mf else (if (nc + 1) = 8 then (X4_finishFrame_a_mf mcn bts bc mf ((nib <<< ((4 : Int32) &&& 31)) ||| (X4_nibbleOf_r len cal))) else mf)
def X4_takeNibble_a_ff (fc : Int32) (cal : Int64) (nib : Int32) (nc : Int32) (ff : Nat → Int32) (len : Int64) : Nat → Int32 := if (X4_nibbleOf_r len cal) = (-1) then ff else (if (nc + 1) = 8 then (X4_finishFrame_a_ff fc ff ((nib <<< ((4 : Int32) &&& 31)) ||| (X4_nibbleOf_r len cal))) else ff)
set_option maxHeartbeats 4000000 in
set_option maxRecDepth 100000 in
theorem k_X4_takeNibble (l : Launch) (dC : Nat → ClassId) (dI : Nat → Nat → Nat) (sz : Nat) (tb : Nat) (h0 : Nat) (tol : Int32) (a1 : Nat) (a2 : Nat) (a3 : Nat) (a4 : Nat) (a5 : Nat) (fc : Int32) (le : Int64) (cal : Int64) (inf : Int32) (nib : Int32) (nc : Int32) (cnt : Int32) (str : Int32) (mk : Int32) (a6 : Nat) (mcn : Int32) (bts : Int32) (bc : Int32) (cA6 : ClassId) (mf : Nat → Int32) (cA5 : ClassId) (ff : Nat → Int32) (len : Int64) (hfc : ¬ fc < 0) (hmc : ¬ mcn < 0) : Met l yX4_takeNibble wsX4_takeNibble ({ frames := 5, cells := 0, slots := 0, locals := 109 }) (va_Pc [.ref h0, .long len] (prE tb (dC, dI) [(cA5, .int), (cA6, .int)] [(h0, .inr (5, [.int tol, .ref a1, .ref a2, .ref a3, .ref a4, .ref a5, .int fc, .long le, .long cal, .int inf, .int nib, .int nc])), (a1, .inr (2, [.int cnt, .int str, .int mk])), (a2, .inr (3, [.ref a6, .int mcn, .int bts, .int bc])), (a6, .inl (cA6, 4, .inl mf)), (a5, .inl (cA5, 64, .inl ff))] sz)) (va_Qv (fun _ : Unit => True) (fun _ t => po (dC, dI) [(cA5, .int), (cA6, .int)] (va_A [(h0, .inr (5, [.int tol, .ref a1, .ref a2, .ref a3, .ref a4, .ref a5, .int fc, .long le, .long cal, .int inf, .int nib, .int nc])), (a1, .inr (2, [.int cnt, .int str, .int mk])), (a2, .inr (3, [.ref a6, .int mcn, .int bts, .int bc])), (a6, .inl (cA6, 4, .inl mf)), (a5, .inl (cA5, 64, .inl ff))] sz) [(h0, .inr (5, [.int tol, .ref a1, .ref a2, .ref a3, .ref a4, .ref a5, .int (X4_takeNibble_frameCount fc cal nc len), .long le, .long cal, .int (X4_takeNibble_inFrame cal inf nc len), .int (X4_takeNibble_nibbles cal nib len), .int (X4_takeNibble_nibbleCount cal nc len)])), (a1, .inr (2, [.int (X4_takeNibble_count cal nib nc cnt bts bc len), .int (X4_takeNibble_streak cal nib nc str bts bc len), .int (X4_takeNibble_mark cal nib nc str mk bts bc len)])), (a2, .inr (3, [.ref a6, .int (X4_takeNibble_messageCount cal nib nc mcn bts bc len), .int (X4_takeNibble_bits cal nib nc bts bc len), .int (X4_takeNibble_bitCount cal nib nc bc len)])), (a6, .inl (cA6, 4, .inl (X4_takeNibble_a_mf cal nib nc mcn bts bc mf len))), (a5, .inl (cA5, 64, .inl (X4_takeNibble_a_ff fc cal nib nc ff len)))] t) (va_A [(h0, .inr (5, [.int tol, .ref a1, .ref a2, .ref a3, .ref a4, .ref a5, .int fc, .long le, .long cal, .int inf, .int nib, .int nc])), (a1, .inr (2, [.int cnt, .int str, .int mk])), (a2, .inr (3, [.ref a6, .int mcn, .int bts, .int bc])), (a6, .inl (cA6, 4, .inl mf)), (a5, .inl (cA5, 64, .inl ff))] sz)) 0 0 (va_A [(h0, .inr (5, [.int tol, .ref a1, .ref a2, .ref a3, .ref a4, .ref a5, .int fc, .long le, .long cal, .int inf, .int nib, .int nc])), (a1, .inr (2, [.int cnt, .int str, .int mk])), (a2, .inr (3, [.ref a6, .int mcn, .int bts, .int bc])), (a6, .inl (cA6, 4, .inl mf)), (a5, .inl (cA5, 64, .inl ff))] sz) := by
  refine Met.ofW (cc := cX4_takeNibble) (maxL := 4) (ret := none) (by decide) rfl ?_
  intro p e s m args below meth c s₁ B hml hv
  obtain ⟨rfl, ⟨hsz, hP, hK, hD0⟩, hE⟩ := hv
  have hx := B.exec
  have hb := B.bytes
  have hr := B.returns
  have hts := atoms_spec (ws := wsX4_takeNibble) B.pre
  have hown : s.vm.findClass RX4 = some m.cls := findClass_of_methodNamed B.named
  have hlocks := B.notSynchronized
  subst hsz
  have hD := hD0.self (sz := s.heap.size)
  generalize hAe : va_A [(h0, .inr (5, [.int tol, .ref a1, .ref a2, .ref a3, .ref a4, .ref a5, .int fc, .long le, .long cal, .int inf, .int nib, .int nc])), (a1, .inr (2, [.int cnt, .int str, .int mk])), (a2, .inr (3, [.ref a6, .int mcn, .int bts, .int bc])), (a6, .inl (cA6, 4, .inl mf)), (a5, .inl (cA5, 64, .inl ff))] s.heap.size = A at hD hE ⊢
  have hA : ∀ q : Nat, s.heap.size ≤ q → A q := fun q h => by rw [← hAe]; exact Or.inr h
  have hS : va_S A s.heap s.heap [] := va_S.rf
  have hP : va_P (dC, dI) vwCl [(h0, .inr (5, [.int tol, .ref a1, .ref a2, .ref a3, .ref a4, .ref a5, .int fc, .long le, .long cal, .int inf, .int nib, .int nc])), (a1, .inr (2, [.int cnt, .int str, .int mk])), (a2, .inr (3, [.ref a6, .int mcn, .int bts, .int bc])), (a6, .inl (cA6, 4, .inl mf)), (a5, .inl (cA5, 64, .inl ff))] s.heap := hP
  have iX4 : ∀ w ∈ wsX40, w ∈ wsX4_takeNibble := by decide +kernel
  have hl := lv_entry ([.ref h0, .long len]) (n := 4) (Nat.le_of_ble_eq_true rfl)
  rw [lg_entry_eq]
  generalize (lg_sl ([.ref h0, .long len]) ++ List.replicate (4 - (lg_sl ([.ref h0, .long len])).length) Slot.unset).toArray = ls at hl ⊢
  have hl : lv_has ls 4 [(0, .ref h0), (1, .long len)] := hl
  refine lv_lload_n hx hb dX4_takeNibble_0 rfl (lv_at hl 1 rfl) ?_
  refine lv_aload_n hx hb dX4_takeNibble_1 rfl (lv_at hl 0 rfl) ?_
  refine va_get (D := (dC, dI)) (ci := 5) (v := .long cal) (C := RX4) (T := TX4) (N := 12) hx hb hts iX4 hown hK hP 0 rfl rfl 8 (by decide) (hts (.fieldLink RX4 152 "PulseRows" "calibration" "J") (List.mem_of_getElem? (i := 1) rfl)) (fun _ h9 => h9) rfl dX4_takeNibble_2 ?_
  have hPc := hP.sub (ws' := []) [] rfl
  have hDc := hD.sub (ws' := []) [] (by decide) rfl
  have hKc := hK.sub (tys' := []) [] rfl
  have hFc := va_free (wc := []) hD hS hA [] rfl
  refine va_calli (va_runS (As := [.long len, .long cal]) (rest := []) ⟨hx, hb, hml, hown, hts⟩ (k_X4_nibbleOf l dC dI s.heap.size len cal) (va_cwS 2 hts gX4_takeNibble_X4_nibbleOf rfl rfl rfl (by decide +kernel) ⟨Nat.le_of_ble_eq_true rfl, Nat.le_of_ble_eq_true rfl⟩) ⟨pr.blind, fun U hU hW => ⟨rfl, pr.call hU hW hPc hKc hDc⟩⟩ rfl rfl hl.1 rfl (lv_room (Nat.le_of_ble_eq_true rfl)) dX4_takeNibble_5 ⟨Nat.le_of_ble_eq_true rfl, Nat.le_of_ble_eq_true rfl⟩) hS (fun q _ h => hFc q h) hFc (fun r_1 u t H1 locs ht hvm hw hB hz1 hk1 hS => ?_)
  subst r_1
  obtain ⟨hP, hD⟩ := po.join (wr := [(h0, .inr (5, [.int tol, .ref a1, .ref a2, .ref a3, .ref a4, .ref a5, .int fc, .long le, .long cal, .int inf, .int nib, .int nc])), (a1, .inr (2, [.int cnt, .int str, .int mk])), (a2, .inr (3, [.ref a6, .int mcn, .int bts, .int bc])), (a6, .inl (cA6, 4, .inl mf)), (a5, .inl (cA5, 64, .inl ff))]) hP hD [] [0, 1, 2, 3, 4] rfl rfl (by decide) (by decide) hk1 hFc ht hB
  generalize H1 = H at hP hS ⊢
  clear ht hvm hB hz1 hk1 hPc hDc hKc hFc
  have hP : va_P (dC, dI) vwCl [(h0, .inr (5, [.int tol, .ref a1, .ref a2, .ref a3, .ref a4, .ref a5, .int fc, .long le, .long cal, .int inf, .int nib, .int nc])), (a1, .inr (2, [.int cnt, .int str, .int mk])), (a2, .inr (3, [.ref a6, .int mcn, .int bts, .int bc])), (a6, .inl (cA6, 4, .inl mf)), (a5, .inl (cA5, 64, .inl ff))] H := hP
  have hD : va_D A [(h0, .inr (5, [.int tol, .ref a1, .ref a2, .ref a3, .ref a4, .ref a5, .int fc, .long le, .long cal, .int inf, .int nib, .int nc])), (a1, .inr (2, [.int cnt, .int str, .int mk])), (a2, .inr (3, [.ref a6, .int mcn, .int bts, .int bc])), (a6, .inl (cA6, 4, .inl mf)), (a5, .inl (cA5, 64, .inl ff))] := hD
  refine W.widen (k := 0) (n := 0) (Nat.le_of_ble_eq_true rfl) (Nat.le_of_ble_eq_true rfl) ?_
  refine lv_istore_n (lv' := [(3, .int (X4_nibbleOf_r len cal)), (0, .ref h0), (1, .long len)]) hx hb dX4_takeNibble_8 rfl hl (by decide) rfl (fun ls hl => ?_)
  refine lv_iload_n hx hb dX4_takeNibble_9 rfl (lv_at hl 0 rfl) ?_
  refine lv_iconst (v := (-1)) hx hb dX4_takeNibble_10 (by decide) ?_
  refine lv_icmp_ne (tgt := 32) hx hb dX4_takeNibble_11 (by decide) (fun c_2 => ?_) (fun c_2 => ?_)
  · refine lv_aload_n hx hb dX4_takeNibble_32 rfl (lv_at hl 1 rfl) ?_
    refine lv_aload_n hx hb dX4_takeNibble_33 rfl (lv_at hl 1 rfl) ?_
    refine va_get (D := (dC, dI)) (ci := 5) (v := .int nib) (C := RX4) (T := TX4) (N := 12) hx hb hts iX4 hown hK hP 0 rfl rfl 10 (by decide) (hts (.fieldLink RX4 149 "PulseRows" "nibbles" "I") (List.mem_of_getElem? (i := 5) rfl)) (fun _ h9 => h9) rfl dX4_takeNibble_34 ?_
    refine lv_iconst (v := 4) hx hb dX4_takeNibble_37 (by decide) ?_
    refine lv_ishl hx hb dX4_takeNibble_38 ?_
    refine lv_iload_n hx hb dX4_takeNibble_39 rfl (lv_at hl 0 rfl) ?_
    refine lv_ior hx hb dX4_takeNibble_40 ?_
    refine va_put (D := (dC, dI)) (ci := 5) (v := .int ((nib <<< ((4 : Int32) &&& 31)) ||| (X4_nibbleOf_r len cal))) (ty := .int) (C := RX4) (T := TX4) (N := 12) hx hb hts iX4 tyX4 tyX4_ok nmX4 hown hK hP hD hS 0 rfl rfl 10 (by decide) (hts (.fieldLink RX4 149 "PulseRows" "nibbles" "I") (List.mem_of_getElem? (i := 5) rfl)) (fun _ h9 => h9) rfl (by decide +kernel) rfl rfl (Nat.le_of_ble_eq_true rfl) dX4_takeNibble_41 (fun H locs hP hD hS => ?_)
    have hP : va_P (dC, dI) vwCl [(h0, .inr (5, [.int tol, .ref a1, .ref a2, .ref a3, .ref a4, .ref a5, .int fc, .long le, .long cal, .int inf, .int ((nib <<< ((4 : Int32) &&& 31)) ||| (X4_nibbleOf_r len cal)), .int nc])), (a1, .inr (2, [.int cnt, .int str, .int mk])), (a2, .inr (3, [.ref a6, .int mcn, .int bts, .int bc])), (a6, .inl (cA6, 4, .inl mf)), (a5, .inl (cA5, 64, .inl ff))] H := hP
    have hD : va_D A [(h0, .inr (5, [.int tol, .ref a1, .ref a2, .ref a3, .ref a4, .ref a5, .int fc, .long le, .long cal, .int inf, .int ((nib <<< ((4 : Int32) &&& 31)) ||| (X4_nibbleOf_r len cal)), .int nc])), (a1, .inr (2, [.int cnt, .int str, .int mk])), (a2, .inr (3, [.ref a6, .int mcn, .int bts, .int bc])), (a6, .inl (cA6, 4, .inl mf)), (a5, .inl (cA5, 64, .inl ff))] := hD
    refine lv_aload_n hx hb dX4_takeNibble_44 rfl (lv_at hl 1 rfl) ?_
    refine lv_dup hx hb dX4_takeNibble_45 rfl ?_
    refine va_get (D := (dC, dI)) (ci := 5) (v := .int nc) (C := RX4) (T := TX4) (N := 12) hx hb hts iX4 hown hK hP 0 rfl rfl 11 (by decide) (hts (.fieldLink RX4 66 "PulseRows" "nibbleCount" "I") (List.mem_of_getElem? (i := 3) rfl)) (fun _ h9 => h9) rfl dX4_takeNibble_46 ?_
    refine lv_iconst (v := 1) hx hb dX4_takeNibble_49 (by decide) ?_
    refine lv_iadd hx hb dX4_takeNibble_50 ?_
    refine va_put (D := (dC, dI)) (ci := 5) (v := .int (nc + 1)) (ty := .int) (C := RX4) (T := TX4) (N := 12) hx hb hts iX4 tyX4 tyX4_ok nmX4 hown hK hP hD hS 0 rfl rfl 11 (by decide) (hts (.fieldLink RX4 66 "PulseRows" "nibbleCount" "I") (List.mem_of_getElem? (i := 3) rfl)) (fun _ h9 => h9) rfl (by decide +kernel) rfl rfl (Nat.le_of_ble_eq_true rfl) dX4_takeNibble_51 (fun H locs hP hD hS => ?_)
    have hP : va_P (dC, dI) vwCl [(h0, .inr (5, [.int tol, .ref a1, .ref a2, .ref a3, .ref a4, .ref a5, .int fc, .long le, .long cal, .int inf, .int ((nib <<< ((4 : Int32) &&& 31)) ||| (X4_nibbleOf_r len cal)), .int (nc + 1)])), (a1, .inr (2, [.int cnt, .int str, .int mk])), (a2, .inr (3, [.ref a6, .int mcn, .int bts, .int bc])), (a6, .inl (cA6, 4, .inl mf)), (a5, .inl (cA5, 64, .inl ff))] H := hP
    have hD : va_D A [(h0, .inr (5, [.int tol, .ref a1, .ref a2, .ref a3, .ref a4, .ref a5, .int fc, .long le, .long cal, .int inf, .int ((nib <<< ((4 : Int32) &&& 31)) ||| (X4_nibbleOf_r len cal)), .int (nc + 1)])), (a1, .inr (2, [.int cnt, .int str, .int mk])), (a2, .inr (3, [.ref a6, .int mcn, .int bts, .int bc])), (a6, .inl (cA6, 4, .inl mf)), (a5, .inl (cA5, 64, .inl ff))] := hD
    refine lv_aload_n hx hb dX4_takeNibble_54 rfl (lv_at hl 1 rfl) ?_
    refine va_get (D := (dC, dI)) (ci := 5) (v := .int (nc + 1)) (C := RX4) (T := TX4) (N := 12) hx hb hts iX4 hown hK hP 0 rfl rfl 11 (by decide) (hts (.fieldLink RX4 66 "PulseRows" "nibbleCount" "I") (List.mem_of_getElem? (i := 3) rfl)) (fun _ h9 => h9) rfl dX4_takeNibble_55 ?_
    refine lv_bipush (v := 8) hx hb dX4_takeNibble_58 (by decide) ?_
    refine lv_icmp_ne (tgt := 76) hx hb dX4_takeNibble_60 (by decide) (fun c_3 => ?_) (fun c_3 => ?_)
    · have e_4 : fc = X4_takeNibble_frameCount fc cal nc len := by rw [X4_takeNibble_frameCount, if_neg c_2, if_neg c_3]
      have e_5 : inf = X4_takeNibble_inFrame cal inf nc len := by rw [X4_takeNibble_inFrame, if_neg c_2, if_neg c_3]
      have e_6 : (nib <<< ((4 : Int32) &&& 31)) ||| (X4_nibbleOf_r len cal) = X4_takeNibble_nibbles cal nib len := by rw [X4_takeNibble_nibbles, if_neg c_2]
      have e_7 : nc + 1 = X4_takeNibble_nibbleCount cal nc len := by rw [X4_takeNibble_nibbleCount, if_neg c_2]
      have e_8 : cnt = X4_takeNibble_count cal nib nc cnt bts bc len := by rw [X4_takeNibble_count, if_neg c_2, if_neg c_3]
      have e_9 : str = X4_takeNibble_streak cal nib nc str bts bc len := by rw [X4_takeNibble_streak, if_neg c_2, if_neg c_3]
      have e_10 : mk = X4_takeNibble_mark cal nib nc str mk bts bc len := by rw [X4_takeNibble_mark, if_neg c_2, if_neg c_3]
      have e_11 : mcn = X4_takeNibble_messageCount cal nib nc mcn bts bc len := by rw [X4_takeNibble_messageCount, if_neg c_2, if_neg c_3]
      have e_12 : bts = X4_takeNibble_bits cal nib nc bts bc len := by rw [X4_takeNibble_bits, if_neg c_2, if_neg c_3]
      have e_13 : bc = X4_takeNibble_bitCount cal nib nc bc len := by rw [X4_takeNibble_bitCount, if_neg c_2, if_neg c_3]
      have e_14 : mf = X4_takeNibble_a_mf cal nib nc mcn bts bc mf len := by rw [X4_takeNibble_a_mf, if_neg c_2, if_neg c_3]
      have e_15 : ff = X4_takeNibble_a_ff fc cal nib nc ff len := by rw [X4_takeNibble_a_ff, if_neg c_2, if_neg c_3]
      have hP9 : va_P (dC, dI) vwCl [(h0, .inr (5, [.int tol, .ref a1, .ref a2, .ref a3, .ref a4, .ref a5, .int (X4_takeNibble_frameCount fc cal nc len), .long le, .long cal, .int (X4_takeNibble_inFrame cal inf nc len), .int (X4_takeNibble_nibbles cal nib len), .int (X4_takeNibble_nibbleCount cal nc len)])), (a1, .inr (2, [.int (X4_takeNibble_count cal nib nc cnt bts bc len), .int (X4_takeNibble_streak cal nib nc str bts bc len), .int (X4_takeNibble_mark cal nib nc str mk bts bc len)])), (a2, .inr (3, [.ref a6, .int (X4_takeNibble_messageCount cal nib nc mcn bts bc len), .int (X4_takeNibble_bits cal nib nc bts bc len), .int (X4_takeNibble_bitCount cal nib nc bc len)])), (a6, .inl (cA6, 4, .inl (X4_takeNibble_a_mf cal nib nc mcn bts bc mf len))), (a5, .inl (cA5, 64, .inl (X4_takeNibble_a_ff fc cal nib nc ff len)))] H := by rw [← e_4, ← e_5, ← e_6, ← e_7, ← e_8, ← e_9, ← e_10, ← e_11, ← e_12, ← e_13, ← e_14, ← e_15]; exact hP.sub [0, 1, 2, 3, 4] rfl
      have hD9 : va_D A [(h0, .inr (5, [.int tol, .ref a1, .ref a2, .ref a3, .ref a4, .ref a5, .int (X4_takeNibble_frameCount fc cal nc len), .long le, .long cal, .int (X4_takeNibble_inFrame cal inf nc len), .int (X4_takeNibble_nibbles cal nib len), .int (X4_takeNibble_nibbleCount cal nc len)])), (a1, .inr (2, [.int (X4_takeNibble_count cal nib nc cnt bts bc len), .int (X4_takeNibble_streak cal nib nc str bts bc len), .int (X4_takeNibble_mark cal nib nc str mk bts bc len)])), (a2, .inr (3, [.ref a6, .int (X4_takeNibble_messageCount cal nib nc mcn bts bc len), .int (X4_takeNibble_bits cal nib nc bts bc len), .int (X4_takeNibble_bitCount cal nib nc bc len)])), (a6, .inl (cA6, 4, .inl (X4_takeNibble_a_mf cal nib nc mcn bts bc mf len))), (a5, .inl (cA5, 64, .inl (X4_takeNibble_a_ff fc cal nib nc ff len)))] := by rw [← e_4, ← e_5, ← e_6, ← e_7, ← e_8, ← e_9, ← e_10, ← e_11, ← e_12, ← e_13, ← e_14, ← e_15]; exact hD.sub [0, 1, 2, 3, 4] (by decide) rfl
      exact W.vret hx hb hr (fun t ht hW => ⟨⟨(), rfl, trivial, po.ret ht hW hP9 hK hD9⟩, hS.F ht⟩) hS.2.2 dX4_takeNibble_76
    · refine lv_aload_n hx hb dX4_takeNibble_63 rfl (lv_at hl 1 rfl) ?_
      refine lv_iconst (v := 0) hx hb dX4_takeNibble_64 (by decide) ?_
      refine va_put (D := (dC, dI)) (ci := 5) (v := .int 0) (ty := .boolean) (C := RX4) (T := TX4) (N := 12) hx hb hts iX4 tyX4 tyX4_ok nmX4 hown hK hP hD hS 0 rfl rfl 9 (by decide) (hts (.fieldLink RX4 55 "PulseRows" "inFrame" "Z") (List.mem_of_getElem? (i := 2) rfl)) (fun _ h9 => h9) rfl (by decide +kernel) rfl rfl (Nat.le_of_ble_eq_true rfl) dX4_takeNibble_65 (fun H locs hP hD hS => ?_)
      have hP : va_P (dC, dI) vwCl [(h0, .inr (5, [.int tol, .ref a1, .ref a2, .ref a3, .ref a4, .ref a5, .int fc, .long le, .long cal, .int 0, .int ((nib <<< ((4 : Int32) &&& 31)) ||| (X4_nibbleOf_r len cal)), .int (nc + 1)])), (a1, .inr (2, [.int cnt, .int str, .int mk])), (a2, .inr (3, [.ref a6, .int mcn, .int bts, .int bc])), (a6, .inl (cA6, 4, .inl mf)), (a5, .inl (cA5, 64, .inl ff))] H := hP
      have hD : va_D A [(h0, .inr (5, [.int tol, .ref a1, .ref a2, .ref a3, .ref a4, .ref a5, .int fc, .long le, .long cal, .int 0, .int ((nib <<< ((4 : Int32) &&& 31)) ||| (X4_nibbleOf_r len cal)), .int (nc + 1)])), (a1, .inr (2, [.int cnt, .int str, .int mk])), (a2, .inr (3, [.ref a6, .int mcn, .int bts, .int bc])), (a6, .inl (cA6, 4, .inl mf)), (a5, .inl (cA5, 64, .inl ff))] := hD
      refine lv_aload_n hx hb dX4_takeNibble_68 rfl (lv_at hl 1 rfl) ?_
      refine lv_aload_n hx hb dX4_takeNibble_69 rfl (lv_at hl 1 rfl) ?_
      refine va_get (D := (dC, dI)) (ci := 5) (v := .int ((nib <<< ((4 : Int32) &&& 31)) ||| (X4_nibbleOf_r len cal))) (C := RX4) (T := TX4) (N := 12) hx hb hts iX4 hown hK hP 0 rfl rfl 10 (by decide) (hts (.fieldLink RX4 149 "PulseRows" "nibbles" "I") (List.mem_of_getElem? (i := 5) rfl)) (fun _ h9 => h9) rfl dX4_takeNibble_70 ?_
      have hPc := hP.sub (ws' := [(h0, .inr (5, [.int tol, .ref a1, .ref a2, .ref a3, .ref a4, .ref a5, .int fc, .long le, .long cal, .int 0, .int ((nib <<< ((4 : Int32) &&& 31)) ||| (X4_nibbleOf_r len cal)), .int (nc + 1)])), (a1, .inr (2, [.int cnt, .int str, .int mk])), (a2, .inr (3, [.ref a6, .int mcn, .int bts, .int bc])), (a6, .inl (cA6, 4, .inl mf)), (a5, .inl (cA5, 64, .inl ff))]) [0, 1, 2, 3, 4] rfl
      have hDc := hD.sub (ws' := [(h0, .inr (5, [.int tol, .ref a1, .ref a2, .ref a3, .ref a4, .ref a5, .int fc, .long le, .long cal, .int 0, .int ((nib <<< ((4 : Int32) &&& 31)) ||| (X4_nibbleOf_r len cal)), .int (nc + 1)])), (a1, .inr (2, [.int cnt, .int str, .int mk])), (a2, .inr (3, [.ref a6, .int mcn, .int bts, .int bc])), (a6, .inl (cA6, 4, .inl mf)), (a5, .inl (cA5, 64, .inl ff))]) [0, 1, 2, 3, 4] (by decide) rfl
      have hKc := hK.sub (tys' := [(cA5, .int), (cA6, .int)]) [0, 1] rfl
      have hFc := va_free (wc := [(h0, .inr (5, [.int tol, .ref a1, .ref a2, .ref a3, .ref a4, .ref a5, .int fc, .long le, .long cal, .int 0, .int ((nib <<< ((4 : Int32) &&& 31)) ||| (X4_nibbleOf_r len cal)), .int (nc + 1)])), (a1, .inr (2, [.int cnt, .int str, .int mk])), (a2, .inr (3, [.ref a6, .int mcn, .int bts, .int bc])), (a6, .inl (cA6, 4, .inl mf)), (a5, .inl (cA5, 64, .inl ff))]) hD hS hA [0, 1, 2, 3, 4] rfl
      refine va_callv (va_runV (As := [.int ((nib <<< ((4 : Int32) &&& 31)) ||| (X4_nibbleOf_r len cal))]) (rest := []) ⟨hx, hb, hml, hown, hts⟩ (k_X4_finishFrame l dC dI H.size tb h0 tol a1 a2 a3 a4 a5 fc le cal 0 ((nib <<< ((4 : Int32) &&& 31)) ||| (X4_nibbleOf_r len cal)) (nc + 1) cnt str mk a6 mcn bts bc cA6 mf cA5 ff ((nib <<< ((4 : Int32) &&& 31)) ||| (X4_nibbleOf_r len cal)) (hfc) (hmc)) (cwV 1 hts gX4_takeNibble_X4_finishFrame rfl rfl rfl (by decide +kernel) ⟨Nat.le_of_ble_eq_true rfl, Nat.le_of_ble_eq_true rfl⟩) ⟨prE.blind, va_recv hKc hPc (ci := 5) (q0 := 0) rfl rfl, fun U hU hW => ⟨rfl, prE.call hE hS hFc hU hW hPc hKc hDc⟩⟩ rfl rfl hl.1 rfl (lv_room (Nat.le_of_ble_eq_true rfl)) dX4_takeNibble_73 ⟨Nat.le_of_ble_eq_true rfl, Nat.le_of_ble_eq_true rfl⟩) hS (fun q _ h => hFc q h) hFc (fun u t H1 locs ht hvm hw hB hz1 hk1 hS => ?_)
      obtain ⟨hP, hD⟩ := po.join (wr := []) hP hD [0, 1, 2, 3, 4] [] rfl rfl (by decide) (by decide) hk1 hFc ht hB
      generalize H1 = H at hP hS ⊢
      clear ht hvm hB hz1 hk1 hPc hDc hKc hFc
      have hP : va_P (dC, dI) vwCl [(h0, .inr (5, [.int tol, .ref a1, .ref a2, .ref a3, .ref a4, .ref a5, .int (X4_finishFrame_frameCount fc), .long le, .long cal, .int 0, .int ((nib <<< ((4 : Int32) &&& 31)) ||| (X4_nibbleOf_r len cal)), .int (nc + 1)])), (a1, .inr (2, [.int (X4_finishFrame_count cnt bts bc ((nib <<< ((4 : Int32) &&& 31)) ||| (X4_nibbleOf_r len cal))), .int (X4_finishFrame_streak str bts bc ((nib <<< ((4 : Int32) &&& 31)) ||| (X4_nibbleOf_r len cal))), .int (X4_finishFrame_mark str mk bts bc ((nib <<< ((4 : Int32) &&& 31)) ||| (X4_nibbleOf_r len cal)))])), (a2, .inr (3, [.ref a6, .int (X4_finishFrame_messageCount mcn bts bc ((nib <<< ((4 : Int32) &&& 31)) ||| (X4_nibbleOf_r len cal))), .int (X4_finishFrame_bits bts bc ((nib <<< ((4 : Int32) &&& 31)) ||| (X4_nibbleOf_r len cal))), .int (X4_finishFrame_bitCount bc ((nib <<< ((4 : Int32) &&& 31)) ||| (X4_nibbleOf_r len cal)))])), (a6, .inl (cA6, 4, .inl (X4_finishFrame_a_mf mcn bts bc mf ((nib <<< ((4 : Int32) &&& 31)) ||| (X4_nibbleOf_r len cal))))), (a5, .inl (cA5, 64, .inl (X4_finishFrame_a_ff fc ff ((nib <<< ((4 : Int32) &&& 31)) ||| (X4_nibbleOf_r len cal)))))] H := hP
      have hD : va_D A [(h0, .inr (5, [.int tol, .ref a1, .ref a2, .ref a3, .ref a4, .ref a5, .int (X4_finishFrame_frameCount fc), .long le, .long cal, .int 0, .int ((nib <<< ((4 : Int32) &&& 31)) ||| (X4_nibbleOf_r len cal)), .int (nc + 1)])), (a1, .inr (2, [.int (X4_finishFrame_count cnt bts bc ((nib <<< ((4 : Int32) &&& 31)) ||| (X4_nibbleOf_r len cal))), .int (X4_finishFrame_streak str bts bc ((nib <<< ((4 : Int32) &&& 31)) ||| (X4_nibbleOf_r len cal))), .int (X4_finishFrame_mark str mk bts bc ((nib <<< ((4 : Int32) &&& 31)) ||| (X4_nibbleOf_r len cal)))])), (a2, .inr (3, [.ref a6, .int (X4_finishFrame_messageCount mcn bts bc ((nib <<< ((4 : Int32) &&& 31)) ||| (X4_nibbleOf_r len cal))), .int (X4_finishFrame_bits bts bc ((nib <<< ((4 : Int32) &&& 31)) ||| (X4_nibbleOf_r len cal))), .int (X4_finishFrame_bitCount bc ((nib <<< ((4 : Int32) &&& 31)) ||| (X4_nibbleOf_r len cal)))])), (a6, .inl (cA6, 4, .inl (X4_finishFrame_a_mf mcn bts bc mf ((nib <<< ((4 : Int32) &&& 31)) ||| (X4_nibbleOf_r len cal))))), (a5, .inl (cA5, 64, .inl (X4_finishFrame_a_ff fc ff ((nib <<< ((4 : Int32) &&& 31)) ||| (X4_nibbleOf_r len cal)))))] := hD
      refine W.widen (k := 0) (n := 0) (Nat.le_of_ble_eq_true rfl) (Nat.le_of_ble_eq_true rfl) ?_
      have e_17 : X4_finishFrame_frameCount fc = X4_takeNibble_frameCount fc cal nc len := by rw [X4_takeNibble_frameCount, if_neg c_2, if_pos c_3]
      have e_18 : (0 : Int32) = X4_takeNibble_inFrame cal inf nc len := by rw [X4_takeNibble_inFrame, if_neg c_2, if_pos c_3]
      have e_19 : (nib <<< ((4 : Int32) &&& 31)) ||| (X4_nibbleOf_r len cal) = X4_takeNibble_nibbles cal nib len := by rw [X4_takeNibble_nibbles, if_neg c_2]
      have e_20 : nc + 1 = X4_takeNibble_nibbleCount cal nc len := by rw [X4_takeNibble_nibbleCount, if_neg c_2]
      have e_21 : X4_finishFrame_count cnt bts bc ((nib <<< ((4 : Int32) &&& 31)) ||| (X4_nibbleOf_r len cal)) = X4_takeNibble_count cal nib nc cnt bts bc len := by rw [X4_takeNibble_count, if_neg c_2, if_pos c_3]
      have e_22 : X4_finishFrame_streak str bts bc ((nib <<< ((4 : Int32) &&& 31)) ||| (X4_nibbleOf_r len cal)) = X4_takeNibble_streak cal nib nc str bts bc len := by rw [X4_takeNibble_streak, if_neg c_2, if_pos c_3]
      have e_23 : X4_finishFrame_mark str mk bts bc ((nib <<< ((4 : Int32) &&& 31)) ||| (X4_nibbleOf_r len cal)) = X4_takeNibble_mark cal nib nc str mk bts bc len := by rw [X4_takeNibble_mark, if_neg c_2, if_pos c_3]
      have e_24 : X4_finishFrame_messageCount mcn bts bc ((nib <<< ((4 : Int32) &&& 31)) ||| (X4_nibbleOf_r len cal)) = X4_takeNibble_messageCount cal nib nc mcn bts bc len := by rw [X4_takeNibble_messageCount, if_neg c_2, if_pos c_3]
      have e_25 : X4_finishFrame_bits bts bc ((nib <<< ((4 : Int32) &&& 31)) ||| (X4_nibbleOf_r len cal)) = X4_takeNibble_bits cal nib nc bts bc len := by rw [X4_takeNibble_bits, if_neg c_2, if_pos c_3]
      have e_26 : X4_finishFrame_bitCount bc ((nib <<< ((4 : Int32) &&& 31)) ||| (X4_nibbleOf_r len cal)) = X4_takeNibble_bitCount cal nib nc bc len := by rw [X4_takeNibble_bitCount, if_neg c_2, if_pos c_3]
      have e_27 : X4_finishFrame_a_mf mcn bts bc mf ((nib <<< ((4 : Int32) &&& 31)) ||| (X4_nibbleOf_r len cal)) = X4_takeNibble_a_mf cal nib nc mcn bts bc mf len := by rw [X4_takeNibble_a_mf, if_neg c_2, if_pos c_3]
      have e_28 : X4_finishFrame_a_ff fc ff ((nib <<< ((4 : Int32) &&& 31)) ||| (X4_nibbleOf_r len cal)) = X4_takeNibble_a_ff fc cal nib nc ff len := by rw [X4_takeNibble_a_ff, if_neg c_2, if_pos c_3]
      have hP9 : va_P (dC, dI) vwCl [(h0, .inr (5, [.int tol, .ref a1, .ref a2, .ref a3, .ref a4, .ref a5, .int (X4_takeNibble_frameCount fc cal nc len), .long le, .long cal, .int (X4_takeNibble_inFrame cal inf nc len), .int (X4_takeNibble_nibbles cal nib len), .int (X4_takeNibble_nibbleCount cal nc len)])), (a1, .inr (2, [.int (X4_takeNibble_count cal nib nc cnt bts bc len), .int (X4_takeNibble_streak cal nib nc str bts bc len), .int (X4_takeNibble_mark cal nib nc str mk bts bc len)])), (a2, .inr (3, [.ref a6, .int (X4_takeNibble_messageCount cal nib nc mcn bts bc len), .int (X4_takeNibble_bits cal nib nc bts bc len), .int (X4_takeNibble_bitCount cal nib nc bc len)])), (a6, .inl (cA6, 4, .inl (X4_takeNibble_a_mf cal nib nc mcn bts bc mf len))), (a5, .inl (cA5, 64, .inl (X4_takeNibble_a_ff fc cal nib nc ff len)))] H := by rw [← e_17, ← e_18, ← e_19, ← e_20, ← e_21, ← e_22, ← e_23, ← e_24, ← e_25, ← e_26, ← e_27, ← e_28]; exact hP.sub [0, 1, 2, 3, 4] rfl
      have hD9 : va_D A [(h0, .inr (5, [.int tol, .ref a1, .ref a2, .ref a3, .ref a4, .ref a5, .int (X4_takeNibble_frameCount fc cal nc len), .long le, .long cal, .int (X4_takeNibble_inFrame cal inf nc len), .int (X4_takeNibble_nibbles cal nib len), .int (X4_takeNibble_nibbleCount cal nc len)])), (a1, .inr (2, [.int (X4_takeNibble_count cal nib nc cnt bts bc len), .int (X4_takeNibble_streak cal nib nc str bts bc len), .int (X4_takeNibble_mark cal nib nc str mk bts bc len)])), (a2, .inr (3, [.ref a6, .int (X4_takeNibble_messageCount cal nib nc mcn bts bc len), .int (X4_takeNibble_bits cal nib nc bts bc len), .int (X4_takeNibble_bitCount cal nib nc bc len)])), (a6, .inl (cA6, 4, .inl (X4_takeNibble_a_mf cal nib nc mcn bts bc mf len))), (a5, .inl (cA5, 64, .inl (X4_takeNibble_a_ff fc cal nib nc ff len)))] := by rw [← e_17, ← e_18, ← e_19, ← e_20, ← e_21, ← e_22, ← e_23, ← e_24, ← e_25, ← e_26, ← e_27, ← e_28]; exact hD.sub [0, 1, 2, 3, 4] (by decide) rfl
      exact W.vret hx hb hr (fun t ht hW => ⟨⟨(), rfl, trivial, po.ret ht hW hP9 hK hD9⟩, hS.F ht⟩) hS.2.2 dX4_takeNibble_76
  · refine lv_aload_n hx hb dX4_takeNibble_14 rfl (lv_at hl 1 rfl) ?_
    refine lv_iconst (v := 0) hx hb dX4_takeNibble_15 (by decide) ?_
    refine va_put (D := (dC, dI)) (ci := 5) (v := .int 0) (ty := .boolean) (C := RX4) (T := TX4) (N := 12) hx hb hts iX4 tyX4 tyX4_ok nmX4 hown hK hP hD hS 0 rfl rfl 9 (by decide) (hts (.fieldLink RX4 55 "PulseRows" "inFrame" "Z") (List.mem_of_getElem? (i := 2) rfl)) (fun _ h9 => h9) rfl (by decide +kernel) rfl rfl (Nat.le_of_ble_eq_true rfl) dX4_takeNibble_16 (fun H locs hP hD hS => ?_)
    have hP : va_P (dC, dI) vwCl [(h0, .inr (5, [.int tol, .ref a1, .ref a2, .ref a3, .ref a4, .ref a5, .int fc, .long le, .long cal, .int 0, .int nib, .int nc])), (a1, .inr (2, [.int cnt, .int str, .int mk])), (a2, .inr (3, [.ref a6, .int mcn, .int bts, .int bc])), (a6, .inl (cA6, 4, .inl mf)), (a5, .inl (cA5, 64, .inl ff))] H := hP
    have hD : va_D A [(h0, .inr (5, [.int tol, .ref a1, .ref a2, .ref a3, .ref a4, .ref a5, .int fc, .long le, .long cal, .int 0, .int nib, .int nc])), (a1, .inr (2, [.int cnt, .int str, .int mk])), (a2, .inr (3, [.ref a6, .int mcn, .int bts, .int bc])), (a6, .inl (cA6, 4, .inl mf)), (a5, .inl (cA5, 64, .inl ff))] := hD
    refine lv_aload_n hx hb dX4_takeNibble_19 rfl (lv_at hl 1 rfl) ?_
    refine lv_iconst (v := 0) hx hb dX4_takeNibble_20 (by decide) ?_
    refine va_put (D := (dC, dI)) (ci := 5) (v := .int 0) (ty := .int) (C := RX4) (T := TX4) (N := 12) hx hb hts iX4 tyX4 tyX4_ok nmX4 hown hK hP hD hS 0 rfl rfl 11 (by decide) (hts (.fieldLink RX4 66 "PulseRows" "nibbleCount" "I") (List.mem_of_getElem? (i := 3) rfl)) (fun _ h9 => h9) rfl (by decide +kernel) rfl rfl (Nat.le_of_ble_eq_true rfl) dX4_takeNibble_21 (fun H locs hP hD hS => ?_)
    have hP : va_P (dC, dI) vwCl [(h0, .inr (5, [.int tol, .ref a1, .ref a2, .ref a3, .ref a4, .ref a5, .int fc, .long le, .long cal, .int 0, .int nib, .int 0])), (a1, .inr (2, [.int cnt, .int str, .int mk])), (a2, .inr (3, [.ref a6, .int mcn, .int bts, .int bc])), (a6, .inl (cA6, 4, .inl mf)), (a5, .inl (cA5, 64, .inl ff))] H := hP
    have hD : va_D A [(h0, .inr (5, [.int tol, .ref a1, .ref a2, .ref a3, .ref a4, .ref a5, .int fc, .long le, .long cal, .int 0, .int nib, .int 0])), (a1, .inr (2, [.int cnt, .int str, .int mk])), (a2, .inr (3, [.ref a6, .int mcn, .int bts, .int bc])), (a6, .inl (cA6, 4, .inl mf)), (a5, .inl (cA5, 64, .inl ff))] := hD
    refine lv_aload_n hx hb dX4_takeNibble_24 rfl (lv_at hl 1 rfl) ?_
    refine va_get (D := (dC, dI)) (ci := 5) (v := .ref a1) (C := RX4) (T := TX4) (N := 12) hx hb hts iX4 hown hK hP 0 rfl rfl 1 (by decide) (hts (.fieldLink RX4 16 "PulseRows" "faultLog" "LPulseRows$FaultLog;") (List.mem_of_getElem? (i := 4) rfl)) (fun _ h9 => h9) rfl dX4_takeNibble_25 ?_
    have hPc := hP.sub (ws' := [(a1, .inr (2, [.int cnt, .int str, .int mk]))]) [1] rfl
    have hDc := hD.sub (ws' := [(a1, .inr (2, [.int cnt, .int str, .int mk]))]) [1] (by decide) rfl
    have hKc := hK.sub (tys' := []) [] rfl
    have hFc := va_free (wc := [(a1, .inr (2, [.int cnt, .int str, .int mk]))]) hD hS hA [1] rfl
    refine va_callv (va_runV (As := []) (rest := []) ⟨hx, hb, hml, hown, hts⟩ (k_X1_add l dC dI H.size a1 cnt str mk) (cwV 0 hts gX4_takeNibble_X1_add rfl rfl rfl (by decide +kernel) ⟨Nat.le_of_ble_eq_true rfl, Nat.le_of_ble_eq_true rfl⟩) ⟨pr.blind, va_recv hKc hPc (ci := 2) (q0 := 0) rfl rfl, fun U hU hW => ⟨rfl, pr.call hU hW hPc hKc hDc⟩⟩ rfl rfl hl.1 rfl (lv_room (Nat.le_of_ble_eq_true rfl)) dX4_takeNibble_28 ⟨Nat.le_of_ble_eq_true rfl, Nat.le_of_ble_eq_true rfl⟩) hS (fun q _ h => hFc q h) hFc (fun u t H1 locs ht hvm hw hB hz1 hk1 hS => ?_)
    obtain ⟨hP, hD⟩ := po.join (wr := [(h0, .inr (5, [.int tol, .ref a1, .ref a2, .ref a3, .ref a4, .ref a5, .int fc, .long le, .long cal, .int 0, .int nib, .int 0])), (a2, .inr (3, [.ref a6, .int mcn, .int bts, .int bc])), (a6, .inl (cA6, 4, .inl mf)), (a5, .inl (cA5, 64, .inl ff))]) hP hD [1] [0, 2, 3, 4] rfl rfl (by decide) (by decide) hk1 hFc ht hB
    generalize H1 = H at hP hS ⊢
    clear ht hvm hB hz1 hk1 hPc hDc hKc hFc
    have hP : va_P (dC, dI) vwCl [(h0, .inr (5, [.int tol, .ref a1, .ref a2, .ref a3, .ref a4, .ref a5, .int fc, .long le, .long cal, .int 0, .int nib, .int 0])), (a2, .inr (3, [.ref a6, .int mcn, .int bts, .int bc])), (a6, .inl (cA6, 4, .inl mf)), (a5, .inl (cA5, 64, .inl ff)), (a1, .inr (2, [.int (X1_add_count cnt), .int (X1_add_streak str), .int (X1_add_mark str mk)]))] H := hP
    have hD : va_D A [(h0, .inr (5, [.int tol, .ref a1, .ref a2, .ref a3, .ref a4, .ref a5, .int fc, .long le, .long cal, .int 0, .int nib, .int 0])), (a2, .inr (3, [.ref a6, .int mcn, .int bts, .int bc])), (a6, .inl (cA6, 4, .inl mf)), (a5, .inl (cA5, 64, .inl ff)), (a1, .inr (2, [.int (X1_add_count cnt), .int (X1_add_streak str), .int (X1_add_mark str mk)]))] := hD
    refine W.widen (k := 0) (n := 0) (Nat.le_of_ble_eq_true rfl) (Nat.le_of_ble_eq_true rfl) ?_
    have e_30 : fc = X4_takeNibble_frameCount fc cal nc len := by rw [X4_takeNibble_frameCount, if_pos c_2]
    have e_31 : (0 : Int32) = X4_takeNibble_inFrame cal inf nc len := by rw [X4_takeNibble_inFrame, if_pos c_2]
    have e_32 : nib = X4_takeNibble_nibbles cal nib len := by rw [X4_takeNibble_nibbles, if_pos c_2]
    have e_33 : (0 : Int32) = X4_takeNibble_nibbleCount cal nc len := by rw [X4_takeNibble_nibbleCount, if_pos c_2]
    have e_34 : X1_add_count cnt = X4_takeNibble_count cal nib nc cnt bts bc len := by rw [X4_takeNibble_count, if_pos c_2]
    have e_35 : X1_add_streak str = X4_takeNibble_streak cal nib nc str bts bc len := by rw [X4_takeNibble_streak, if_pos c_2]
    have e_36 : X1_add_mark str mk = X4_takeNibble_mark cal nib nc str mk bts bc len := by rw [X4_takeNibble_mark, if_pos c_2]
    have e_37 : mcn = X4_takeNibble_messageCount cal nib nc mcn bts bc len := by rw [X4_takeNibble_messageCount, if_pos c_2]
    have e_38 : bts = X4_takeNibble_bits cal nib nc bts bc len := by rw [X4_takeNibble_bits, if_pos c_2]
    have e_39 : bc = X4_takeNibble_bitCount cal nib nc bc len := by rw [X4_takeNibble_bitCount, if_pos c_2]
    have e_40 : mf = X4_takeNibble_a_mf cal nib nc mcn bts bc mf len := by rw [X4_takeNibble_a_mf, if_pos c_2]
    have e_41 : ff = X4_takeNibble_a_ff fc cal nib nc ff len := by rw [X4_takeNibble_a_ff, if_pos c_2]
    have hP9 : va_P (dC, dI) vwCl [(h0, .inr (5, [.int tol, .ref a1, .ref a2, .ref a3, .ref a4, .ref a5, .int (X4_takeNibble_frameCount fc cal nc len), .long le, .long cal, .int (X4_takeNibble_inFrame cal inf nc len), .int (X4_takeNibble_nibbles cal nib len), .int (X4_takeNibble_nibbleCount cal nc len)])), (a1, .inr (2, [.int (X4_takeNibble_count cal nib nc cnt bts bc len), .int (X4_takeNibble_streak cal nib nc str bts bc len), .int (X4_takeNibble_mark cal nib nc str mk bts bc len)])), (a2, .inr (3, [.ref a6, .int (X4_takeNibble_messageCount cal nib nc mcn bts bc len), .int (X4_takeNibble_bits cal nib nc bts bc len), .int (X4_takeNibble_bitCount cal nib nc bc len)])), (a6, .inl (cA6, 4, .inl (X4_takeNibble_a_mf cal nib nc mcn bts bc mf len))), (a5, .inl (cA5, 64, .inl (X4_takeNibble_a_ff fc cal nib nc ff len)))] H := by rw [← e_30, ← e_31, ← e_32, ← e_33, ← e_34, ← e_35, ← e_36, ← e_37, ← e_38, ← e_39, ← e_40, ← e_41]; exact hP.sub [0, 4, 1, 2, 3] rfl
    have hD9 : va_D A [(h0, .inr (5, [.int tol, .ref a1, .ref a2, .ref a3, .ref a4, .ref a5, .int (X4_takeNibble_frameCount fc cal nc len), .long le, .long cal, .int (X4_takeNibble_inFrame cal inf nc len), .int (X4_takeNibble_nibbles cal nib len), .int (X4_takeNibble_nibbleCount cal nc len)])), (a1, .inr (2, [.int (X4_takeNibble_count cal nib nc cnt bts bc len), .int (X4_takeNibble_streak cal nib nc str bts bc len), .int (X4_takeNibble_mark cal nib nc str mk bts bc len)])), (a2, .inr (3, [.ref a6, .int (X4_takeNibble_messageCount cal nib nc mcn bts bc len), .int (X4_takeNibble_bits cal nib nc bts bc len), .int (X4_takeNibble_bitCount cal nib nc bc len)])), (a6, .inl (cA6, 4, .inl (X4_takeNibble_a_mf cal nib nc mcn bts bc mf len))), (a5, .inl (cA5, 64, .inl (X4_takeNibble_a_ff fc cal nib nc ff len)))] := by rw [← e_30, ← e_31, ← e_32, ← e_33, ← e_34, ← e_35, ← e_36, ← e_37, ← e_38, ← e_39, ← e_40, ← e_41]; exact hD.sub [0, 4, 1, 2, 3] (by decide) rfl
    exact W.vret hx hb hr (fun t ht hW => ⟨⟨(), rfl, trivial, po.ret ht hW hP9 hK hD9⟩, hS.F ht⟩) hS.2.2 dX4_takeNibble_31
def X4_edge_frameCount (fc : Int32) (le : Int64) (cal : Int64) (inf : Int32) (nc : Int32) (tm : Int64) : Int32 := if (X4_isOutsideTime_r tm) = 0 then (if le < tm then (if inf = 0 then fc else (X4_takeNibble_frameCount fc cal nc (tm - le))) else fc) else fc
def X4_edge_lastEdge (le : Int64) (tm : Int64) : Int64 := if (X4_isOutsideTime_r tm) = 0 then (if le < tm then tm else le) else le
def X4_edge_calibration (tol : Int32) (le : Int64) (cal : Int64) (inf : Int32) (tm : Int64) : Int64 := if (X4_isOutsideTime_r tm) = 0 then (if le < tm then (if inf = 0 then (if le < 0 then cal else (X4_takeCalibration_calibration tol cal (tm - le))) else cal) else cal) else cal
def X4_edge_inFrame (tol : Int32) (le : Int64) (cal : Int64) (inf : Int32) (nc : Int32) (tm : Int64) : Int32 := if (X4_isOutsideTime_r tm) = 0 then (if le < tm then (if inf = 0 then (if le < 0 then inf else (X4_takeCalibration_inFrame tol cal (tm - le))) else (X4_takeNibble_inFrame cal inf nc (tm - le))) else inf) else inf
def X4_edge_nibbles (le : Int64) (cal : Int64) (inf : Int32) (nib : Int32) (tm : Int64) : Int32 := if (X4_isOutsideTime_r tm) = 0 then (if le < tm then (if inf = 0 then (if le < 0 then nib else 0) else (X4_takeNibble_nibbles cal nib (tm - le))) else nib) else nib
def X4_edge_nibbleCount (le : Int64) (cal : Int64) (inf : Int32) (nc : Int32) (tm : Int64) : Int32 := if (X4_isOutsideTime_r tm) = 0 then (if le < tm then (if inf = 0 then (if le < 0 then nc else 0) else (X4_takeNibble_nibbleCount cal nc (tm - le))) else nc) else nc
def X4_edge_count (tol : Int32) (le : Int64) (cal : Int64) (inf : Int32) (nib : Int32) (nc : Int32) (cnt : Int32) (bts : Int32) (bc : Int32) (tm : Int64) : Int32 := if (X4_isOutsideTime_r tm) = 0 then (if le < tm then (if inf = 0 then (if le < 0 then cnt else (X4_takeCalibration_count tol cal cnt (tm - le))) else (X4_takeNibble_count cal nib nc cnt bts bc (tm - le))) else cnt) else cnt
def X4_edge_streak (tol : Int32) (le : Int64) (cal : Int64) (inf : Int32) (nib : Int32) (nc : Int32) (str : Int32) (bts : Int32) (bc : Int32) (tm : Int64) : Int32 := if (X4_isOutsideTime_r tm) = 0 then (if le < tm then (if inf = 0 then (if le < 0 then str else (X4_takeCalibration_streak tol cal str (tm - le))) else (X4_takeNibble_streak cal nib nc str bts bc (tm - le))) else str) else str
def X4_edge_mark (tol : Int32) (le : Int64) (cal : Int64) (inf : Int32) (nib : Int32) (nc : Int32) (str : Int32) (mk : Int32) (bts : Int32) (bc : Int32) (tm : Int64) : Int32 := if (X4_isOutsideTime_r tm) = 0 then (if le < tm then (if inf = 0 then (if le < 0 then mk else (X4_takeCalibration_mark tol cal str mk (tm - le))) else (X4_takeNibble_mark cal nib nc str mk bts bc (tm - le))) else mk) else mk
def X4_edge_messageCount (le : Int64) (cal : Int64) (inf : Int32) (nib : Int32) (nc : Int32) (mcn : Int32) (bts : Int32) (bc : Int32) (tm : Int64) : Int32 := if (X4_isOutsideTime_r tm) = 0 then (if le < tm then (if inf = 0 then mcn else (X4_takeNibble_messageCount cal nib nc mcn bts bc (tm - le))) else mcn) else mcn
def X4_edge_bits (le : Int64) (cal : Int64) (inf : Int32) (nib : Int32) (nc : Int32) (bts : Int32) (bc : Int32) (tm : Int64) : Int32 := if (X4_isOutsideTime_r tm) = 0 then (if le < tm then (if inf = 0 then bts else (X4_takeNibble_bits cal nib nc bts bc (tm - le))) else bts) else bts
def X4_edge_bitCount (le : Int64) (cal : Int64) (inf : Int32) (nib : Int32) (nc : Int32) (bc : Int32) (tm : Int64) : Int32 := if (X4_isOutsideTime_r tm) = 0 then (if le < tm then (if inf = 0 then bc else (X4_takeNibble_bitCount cal nib nc bc (tm - le))) else bc) else bc
def X4_edge_a_mf (le : Int64) (cal : Int64) (inf : Int32) (nib : Int32) (nc : Int32) (mcn : Int32) (bts : Int32) (bc : Int32) (mf : Nat → Int32) (tm : Int64) : Nat → Int32 := if (X4_isOutsideTime_r tm) = 0 then (if le < tm then (if inf = 0 then mf else (X4_takeNibble_a_mf cal nib nc mcn bts bc mf (tm - le))) else mf) else mf
def X4_edge_a_ff (fc : Int32) (le : Int64) (cal : Int64) (inf : Int32) (nib : Int32) (nc : Int32) (ff : Nat → Int32) (tm : Int64) : Nat → Int32 := if (X4_isOutsideTime_r tm) = 0 then (if le < tm then (if inf = 0 then ff else (X4_takeNibble_a_ff fc cal nib nc ff (tm - le))) else ff) else ff
def X4_edge_r (le : Int64) (cal : Int64) (inf : Int32) (nc : Int32) (tm : Int64) : Int32 := if (X4_isOutsideTime_r tm) = 0 then (if le < tm then (if inf = 0 then (if le < 0 then nc else 0) else (X4_takeNibble_nibbleCount cal nc (tm - le))) else (-2)) else (-2)
set_option maxHeartbeats 4000000 in
set_option maxRecDepth 100000 in
theorem k_X4_edge (l : Launch) (dC : Nat → ClassId) (dI : Nat → Nat → Nat) (sz : Nat) (tb : Nat) (h0 : Nat) (tol : Int32) (a1 : Nat) (a2 : Nat) (a3 : Nat) (a4 : Nat) (a5 : Nat) (fc : Int32) (le : Int64) (cal : Int64) (inf : Int32) (nib : Int32) (nc : Int32) (cnt : Int32) (str : Int32) (mk : Int32) (a6 : Nat) (mcn : Int32) (bts : Int32) (bc : Int32) (cA6 : ClassId) (mf : Nat → Int32) (cA5 : ClassId) (ff : Nat → Int32) (tm : Int64) (hfc : ¬ fc < 0) (hmc : ¬ mcn < 0) : Met l yX4_edge wsX4_edge ({ frames := 6, cells := 0, slots := 0, locals := 132 }) (va_Pc [.ref h0, .long tm] (prE tb (dC, dI) [(cA5, .int), (cA6, .int)] [(h0, .inr (5, [.int tol, .ref a1, .ref a2, .ref a3, .ref a4, .ref a5, .int fc, .long le, .long cal, .int inf, .int nib, .int nc])), (a1, .inr (2, [.int cnt, .int str, .int mk])), (a2, .inr (3, [.ref a6, .int mcn, .int bts, .int bc])), (a6, .inl (cA6, 4, .inl mf)), (a5, .inl (cA5, 64, .inl ff))] sz)) (va_Qi (fun (r : Int32) (_ : Unit) => r = X4_edge_r le cal inf nc tm) (fun _ t => po (dC, dI) [(cA5, .int), (cA6, .int)] (va_A [(h0, .inr (5, [.int tol, .ref a1, .ref a2, .ref a3, .ref a4, .ref a5, .int fc, .long le, .long cal, .int inf, .int nib, .int nc])), (a1, .inr (2, [.int cnt, .int str, .int mk])), (a2, .inr (3, [.ref a6, .int mcn, .int bts, .int bc])), (a6, .inl (cA6, 4, .inl mf)), (a5, .inl (cA5, 64, .inl ff))] sz) [(h0, .inr (5, [.int tol, .ref a1, .ref a2, .ref a3, .ref a4, .ref a5, .int (X4_edge_frameCount fc le cal inf nc tm), .long (X4_edge_lastEdge le tm), .long (X4_edge_calibration tol le cal inf tm), .int (X4_edge_inFrame tol le cal inf nc tm), .int (X4_edge_nibbles le cal inf nib tm), .int (X4_edge_nibbleCount le cal inf nc tm)])), (a1, .inr (2, [.int (X4_edge_count tol le cal inf nib nc cnt bts bc tm), .int (X4_edge_streak tol le cal inf nib nc str bts bc tm), .int (X4_edge_mark tol le cal inf nib nc str mk bts bc tm)])), (a2, .inr (3, [.ref a6, .int (X4_edge_messageCount le cal inf nib nc mcn bts bc tm), .int (X4_edge_bits le cal inf nib nc bts bc tm), .int (X4_edge_bitCount le cal inf nib nc bc tm)])), (a6, .inl (cA6, 4, .inl (X4_edge_a_mf le cal inf nib nc mcn bts bc mf tm))), (a5, .inl (cA5, 64, .inl (X4_edge_a_ff fc le cal inf nib nc ff tm)))] t) (va_A [(h0, .inr (5, [.int tol, .ref a1, .ref a2, .ref a3, .ref a4, .ref a5, .int fc, .long le, .long cal, .int inf, .int nib, .int nc])), (a1, .inr (2, [.int cnt, .int str, .int mk])), (a2, .inr (3, [.ref a6, .int mcn, .int bts, .int bc])), (a6, .inl (cA6, 4, .inl mf)), (a5, .inl (cA5, 64, .inl ff))] sz)) 0 0 (va_A [(h0, .inr (5, [.int tol, .ref a1, .ref a2, .ref a3, .ref a4, .ref a5, .int fc, .long le, .long cal, .int inf, .int nib, .int nc])), (a1, .inr (2, [.int cnt, .int str, .int mk])), (a2, .inr (3, [.ref a6, .int mcn, .int bts, .int bc])), (a6, .inl (cA6, 4, .inl mf)), (a5, .inl (cA5, 64, .inl ff))] sz) := by
  refine Met.ofW (cc := cX4_edge) (maxL := 3) (ret := (some .int)) (by decide) rfl ?_
  intro p e s m args below meth c s₁ B hml hv
  obtain ⟨rfl, ⟨hsz, hP, hK, hD0⟩, hE⟩ := hv
  have hx := B.exec
  have hb := B.bytes
  have hr := B.returns
  have hts := atoms_spec (ws := wsX4_edge) B.pre
  have hown : s.vm.findClass RX4 = some m.cls := findClass_of_methodNamed B.named
  have hlocks := B.notSynchronized
  subst hsz
  have hD := hD0.self (sz := s.heap.size)
  generalize hAe : va_A [(h0, .inr (5, [.int tol, .ref a1, .ref a2, .ref a3, .ref a4, .ref a5, .int fc, .long le, .long cal, .int inf, .int nib, .int nc])), (a1, .inr (2, [.int cnt, .int str, .int mk])), (a2, .inr (3, [.ref a6, .int mcn, .int bts, .int bc])), (a6, .inl (cA6, 4, .inl mf)), (a5, .inl (cA5, 64, .inl ff))] s.heap.size = A at hD hE ⊢
  have hA : ∀ q : Nat, s.heap.size ≤ q → A q := fun q h => by rw [← hAe]; exact Or.inr h
  have hS : va_S A s.heap s.heap [] := va_S.rf
  have hP : va_P (dC, dI) vwCl [(h0, .inr (5, [.int tol, .ref a1, .ref a2, .ref a3, .ref a4, .ref a5, .int fc, .long le, .long cal, .int inf, .int nib, .int nc])), (a1, .inr (2, [.int cnt, .int str, .int mk])), (a2, .inr (3, [.ref a6, .int mcn, .int bts, .int bc])), (a6, .inl (cA6, 4, .inl mf)), (a5, .inl (cA5, 64, .inl ff))] s.heap := hP
  have iX4 : ∀ w ∈ wsX40, w ∈ wsX4_edge := by decide +kernel
  have hl := lv_entry ([.ref h0, .long tm]) (n := 3) (Nat.le_of_ble_eq_true rfl)
  rw [lg_entry_eq]
  generalize (lg_sl ([.ref h0, .long tm]) ++ List.replicate (3 - (lg_sl ([.ref h0, .long tm])).length) Slot.unset).toArray = ls at hl ⊢
  have hl : lv_has ls 3 [(0, .ref h0), (1, .long tm)] := hl
  refine lv_lload_n hx hb dX4_edge_0 rfl (lv_at hl 1 rfl) ?_
  have hPc := hP.sub (ws' := []) [] rfl
  have hDc := hD.sub (ws' := []) [] (by decide) rfl
  have hKc := hK.sub (tys' := []) [] rfl
  have hFc := va_free (wc := []) hD hS hA [] rfl
  refine va_calli (va_runS (As := [.long tm]) (rest := []) ⟨hx, hb, hml, hown, hts⟩ (k_X4_isOutsideTime l dC dI s.heap.size tm) (va_cwS 1 hts gX4_edge_X4_isOutsideTime rfl rfl rfl (by decide +kernel) ⟨Nat.le_of_ble_eq_true rfl, Nat.le_of_ble_eq_true rfl⟩) ⟨pr.blind, fun U hU hW => ⟨rfl, pr.call hU hW hPc hKc hDc⟩⟩ rfl rfl hl.1 rfl (lv_room (Nat.le_of_ble_eq_true rfl)) dX4_edge_1 ⟨Nat.le_of_ble_eq_true rfl, Nat.le_of_ble_eq_true rfl⟩) hS (fun q _ h => hFc q h) hFc (fun r_1 u t H1 locs ht hvm hw hB hz1 hk1 hS => ?_)
  subst r_1
  obtain ⟨hP, hD⟩ := po.join (wr := [(h0, .inr (5, [.int tol, .ref a1, .ref a2, .ref a3, .ref a4, .ref a5, .int fc, .long le, .long cal, .int inf, .int nib, .int nc])), (a1, .inr (2, [.int cnt, .int str, .int mk])), (a2, .inr (3, [.ref a6, .int mcn, .int bts, .int bc])), (a6, .inl (cA6, 4, .inl mf)), (a5, .inl (cA5, 64, .inl ff))]) hP hD [] [0, 1, 2, 3, 4] rfl rfl (by decide) (by decide) hk1 hFc ht hB
  generalize H1 = H at hP hS ⊢
  clear ht hvm hB hz1 hk1 hPc hDc hKc hFc
  have hP : va_P (dC, dI) vwCl [(h0, .inr (5, [.int tol, .ref a1, .ref a2, .ref a3, .ref a4, .ref a5, .int fc, .long le, .long cal, .int inf, .int nib, .int nc])), (a1, .inr (2, [.int cnt, .int str, .int mk])), (a2, .inr (3, [.ref a6, .int mcn, .int bts, .int bc])), (a6, .inl (cA6, 4, .inl mf)), (a5, .inl (cA5, 64, .inl ff))] H := hP
  have hD : va_D A [(h0, .inr (5, [.int tol, .ref a1, .ref a2, .ref a3, .ref a4, .ref a5, .int fc, .long le, .long cal, .int inf, .int nib, .int nc])), (a1, .inr (2, [.int cnt, .int str, .int mk])), (a2, .inr (3, [.ref a6, .int mcn, .int bts, .int bc])), (a6, .inl (cA6, 4, .inl mf)), (a5, .inl (cA5, 64, .inl ff))] := hD
  refine W.widen (k := 0) (n := 0) (Nat.le_of_ble_eq_true rfl) (Nat.le_of_ble_eq_true rfl) ?_
  refine lv_if_ne (tgt := 16) hx hb dX4_edge_4 (by decide) (fun c_2 => ?_) (fun c_2 => ?_)
  · refine lv_bipush (v := (-2)) hx hb dX4_edge_16 (by decide) ?_
    have e_3 : fc = X4_edge_frameCount fc le cal inf nc tm := by rw [X4_edge_frameCount, if_neg c_2]
    have e_4 : le = X4_edge_lastEdge le tm := by rw [X4_edge_lastEdge, if_neg c_2]
    have e_5 : cal = X4_edge_calibration tol le cal inf tm := by rw [X4_edge_calibration, if_neg c_2]
    have e_6 : inf = X4_edge_inFrame tol le cal inf nc tm := by rw [X4_edge_inFrame, if_neg c_2]
    have e_7 : nib = X4_edge_nibbles le cal inf nib tm := by rw [X4_edge_nibbles, if_neg c_2]
    have e_8 : nc = X4_edge_nibbleCount le cal inf nc tm := by rw [X4_edge_nibbleCount, if_neg c_2]
    have e_9 : cnt = X4_edge_count tol le cal inf nib nc cnt bts bc tm := by rw [X4_edge_count, if_neg c_2]
    have e_10 : str = X4_edge_streak tol le cal inf nib nc str bts bc tm := by rw [X4_edge_streak, if_neg c_2]
    have e_11 : mk = X4_edge_mark tol le cal inf nib nc str mk bts bc tm := by rw [X4_edge_mark, if_neg c_2]
    have e_12 : mcn = X4_edge_messageCount le cal inf nib nc mcn bts bc tm := by rw [X4_edge_messageCount, if_neg c_2]
    have e_13 : bts = X4_edge_bits le cal inf nib nc bts bc tm := by rw [X4_edge_bits, if_neg c_2]
    have e_14 : bc = X4_edge_bitCount le cal inf nib nc bc tm := by rw [X4_edge_bitCount, if_neg c_2]
    have e_15 : mf = X4_edge_a_mf le cal inf nib nc mcn bts bc mf tm := by rw [X4_edge_a_mf, if_neg c_2]
    have e_16 : ff = X4_edge_a_ff fc le cal inf nib nc ff tm := by rw [X4_edge_a_ff, if_neg c_2]
    have hP9 : va_P (dC, dI) vwCl [(h0, .inr (5, [.int tol, .ref a1, .ref a2, .ref a3, .ref a4, .ref a5, .int (X4_edge_frameCount fc le cal inf nc tm), .long (X4_edge_lastEdge le tm), .long (X4_edge_calibration tol le cal inf tm), .int (X4_edge_inFrame tol le cal inf nc tm), .int (X4_edge_nibbles le cal inf nib tm), .int (X4_edge_nibbleCount le cal inf nc tm)])), (a1, .inr (2, [.int (X4_edge_count tol le cal inf nib nc cnt bts bc tm), .int (X4_edge_streak tol le cal inf nib nc str bts bc tm), .int (X4_edge_mark tol le cal inf nib nc str mk bts bc tm)])), (a2, .inr (3, [.ref a6, .int (X4_edge_messageCount le cal inf nib nc mcn bts bc tm), .int (X4_edge_bits le cal inf nib nc bts bc tm), .int (X4_edge_bitCount le cal inf nib nc bc tm)])), (a6, .inl (cA6, 4, .inl (X4_edge_a_mf le cal inf nib nc mcn bts bc mf tm))), (a5, .inl (cA5, 64, .inl (X4_edge_a_ff fc le cal inf nib nc ff tm)))] H := by rw [← e_3, ← e_4, ← e_5, ← e_6, ← e_7, ← e_8, ← e_9, ← e_10, ← e_11, ← e_12, ← e_13, ← e_14, ← e_15, ← e_16]; exact hP.sub [0, 1, 2, 3, 4] rfl
    have hD9 : va_D A [(h0, .inr (5, [.int tol, .ref a1, .ref a2, .ref a3, .ref a4, .ref a5, .int (X4_edge_frameCount fc le cal inf nc tm), .long (X4_edge_lastEdge le tm), .long (X4_edge_calibration tol le cal inf tm), .int (X4_edge_inFrame tol le cal inf nc tm), .int (X4_edge_nibbles le cal inf nib tm), .int (X4_edge_nibbleCount le cal inf nc tm)])), (a1, .inr (2, [.int (X4_edge_count tol le cal inf nib nc cnt bts bc tm), .int (X4_edge_streak tol le cal inf nib nc str bts bc tm), .int (X4_edge_mark tol le cal inf nib nc str mk bts bc tm)])), (a2, .inr (3, [.ref a6, .int (X4_edge_messageCount le cal inf nib nc mcn bts bc tm), .int (X4_edge_bits le cal inf nib nc bts bc tm), .int (X4_edge_bitCount le cal inf nib nc bc tm)])), (a6, .inl (cA6, 4, .inl (X4_edge_a_mf le cal inf nib nc mcn bts bc mf tm))), (a5, .inl (cA5, 64, .inl (X4_edge_a_ff fc le cal inf nib nc ff tm)))] := by rw [← e_3, ← e_4, ← e_5, ← e_6, ← e_7, ← e_8, ← e_9, ← e_10, ← e_11, ← e_12, ← e_13, ← e_14, ← e_15, ← e_16]; exact hD.sub [0, 1, 2, 3, 4] (by decide) rfl
    have e_17 : ((-2) : Int32) = X4_edge_r le cal inf nc tm := by rw [X4_edge_r, if_neg c_2]
    exact W.iret (v := (-2)) hx hb hr (fun t ht hW => ⟨⟨_, (), rfl, e_17, po.ret ht hW hP9 hK hD9⟩, hS.F ht⟩) hS.2.2 dX4_edge_18
  · refine lv_lload_n hx hb dX4_edge_7 rfl (lv_at hl 1 rfl) ?_
    refine lv_aload_n hx hb dX4_edge_8 rfl (lv_at hl 0 rfl) ?_
    refine va_get (D := (dC, dI)) (ci := 5) (v := .long le) (C := RX4) (T := TX4) (N := 12) hx hb hts iX4 hown hK hP 0 rfl rfl 7 (by decide) (hts (.fieldLink RX4 47 "PulseRows" "lastEdge" "J") (List.mem_of_getElem? (i := 1) rfl)) (fun _ h9 => h9) rfl dX4_edge_9 ?_
    refine W.lcmp hx hb dX4_edge_12 ?_
    refine lv_if_gt (tgt := 19) hx hb dX4_edge_13 (by decide) (fun c_18 => ?_) (fun c_18 => ?_)
    · rw [lg_cmp_gt] at c_18
      refine lv_aload_n hx hb dX4_edge_19 rfl (lv_at hl 0 rfl) ?_
      refine va_get (D := (dC, dI)) (ci := 5) (v := .int inf) (C := RX4) (T := TX4) (N := 12) hx hb hts iX4 hown hK hP 0 rfl rfl 9 (by decide) (hts (.fieldLink RX4 55 "PulseRows" "inFrame" "Z") (List.mem_of_getElem? (i := 2) rfl)) (fun _ h9 => h9) rfl dX4_edge_20 ?_
      refine lv_if_eq (tgt := 39) hx hb dX4_edge_23 (by decide) (fun c_19 => ?_) (fun c_19 => ?_)
      · refine lv_aload_n hx hb dX4_edge_39 rfl (lv_at hl 0 rfl) ?_
        refine va_get (D := (dC, dI)) (ci := 5) (v := .long le) (C := RX4) (T := TX4) (N := 12) hx hb hts iX4 hown hK hP 0 rfl rfl 7 (by decide) (hts (.fieldLink RX4 47 "PulseRows" "lastEdge" "J") (List.mem_of_getElem? (i := 1) rfl)) (fun _ h9 => h9) rfl dX4_edge_40 ?_
        refine lv_lconst (v := 0) hx hb dX4_edge_43 (by decide) ?_
        refine W.lcmp hx hb dX4_edge_44 ?_
        refine lv_if_lt (tgt := 58) hx hb dX4_edge_45 (by decide) (fun c_20 => ?_) (fun c_20 => ?_)
        · rw [lg_cmp_lt] at c_20
          refine lv_aload_n hx hb dX4_edge_58 rfl (lv_at hl 0 rfl) ?_
          refine lv_lload_n hx hb dX4_edge_59 rfl (lv_at hl 1 rfl) ?_
          refine va_put (D := (dC, dI)) (ci := 5) (v := .long tm) (ty := .long) (C := RX4) (T := TX4) (N := 12) hx hb hts iX4 tyX4 tyX4_ok nmX4 hown hK hP hD hS 0 rfl rfl 7 (by decide) (hts (.fieldLink RX4 47 "PulseRows" "lastEdge" "J") (List.mem_of_getElem? (i := 1) rfl)) (fun _ h9 => h9) rfl (by decide +kernel) rfl rfl (Nat.le_of_ble_eq_true rfl) dX4_edge_60 (fun H locs hP hD hS => ?_)
          have hP : va_P (dC, dI) vwCl [(h0, .inr (5, [.int tol, .ref a1, .ref a2, .ref a3, .ref a4, .ref a5, .int fc, .long tm, .long cal, .int inf, .int nib, .int nc])), (a1, .inr (2, [.int cnt, .int str, .int mk])), (a2, .inr (3, [.ref a6, .int mcn, .int bts, .int bc])), (a6, .inl (cA6, 4, .inl mf)), (a5, .inl (cA5, 64, .inl ff))] H := hP
          have hD : va_D A [(h0, .inr (5, [.int tol, .ref a1, .ref a2, .ref a3, .ref a4, .ref a5, .int fc, .long tm, .long cal, .int inf, .int nib, .int nc])), (a1, .inr (2, [.int cnt, .int str, .int mk])), (a2, .inr (3, [.ref a6, .int mcn, .int bts, .int bc])), (a6, .inl (cA6, 4, .inl mf)), (a5, .inl (cA5, 64, .inl ff))] := hD
          refine lv_aload_n hx hb dX4_edge_63 rfl (lv_at hl 0 rfl) ?_
          refine va_get (D := (dC, dI)) (ci := 5) (v := .int nc) (C := RX4) (T := TX4) (N := 12) hx hb hts iX4 hown hK hP 0 rfl rfl 11 (by decide) (hts (.fieldLink RX4 66 "PulseRows" "nibbleCount" "I") (List.mem_of_getElem? (i := 3) rfl)) (fun _ h9 => h9) rfl dX4_edge_64 ?_
          have e_21 : fc = X4_edge_frameCount fc le cal inf nc tm := by rw [X4_edge_frameCount, if_pos c_2, if_pos c_18, if_pos c_19]
          have e_22 : tm = X4_edge_lastEdge le tm := by rw [X4_edge_lastEdge, if_pos c_2, if_pos c_18]
          have e_23 : cal = X4_edge_calibration tol le cal inf tm := by rw [X4_edge_calibration, if_pos c_2, if_pos c_18, if_pos c_19, if_pos c_20]
          have e_24 : inf = X4_edge_inFrame tol le cal inf nc tm := by rw [X4_edge_inFrame, if_pos c_2, if_pos c_18, if_pos c_19, if_pos c_20]
          have e_25 : nib = X4_edge_nibbles le cal inf nib tm := by rw [X4_edge_nibbles, if_pos c_2, if_pos c_18, if_pos c_19, if_pos c_20]
          have e_26 : nc = X4_edge_nibbleCount le cal inf nc tm := by rw [X4_edge_nibbleCount, if_pos c_2, if_pos c_18, if_pos c_19, if_pos c_20]
          have e_27 : cnt = X4_edge_count tol le cal inf nib nc cnt bts bc tm := by rw [X4_edge_count, if_pos c_2, if_pos c_18, if_pos c_19, if_pos c_20]
          have e_28 : str = X4_edge_streak tol le cal inf nib nc str bts bc tm := by rw [X4_edge_streak, if_pos c_2, if_pos c_18, if_pos c_19, if_pos c_20]
          have e_29 : mk = X4_edge_mark tol le cal inf nib nc str mk bts bc tm := by rw [X4_edge_mark, if_pos c_2, if_pos c_18, if_pos c_19, if_pos c_20]
          have e_30 : mcn = X4_edge_messageCount le cal inf nib nc mcn bts bc tm := by rw [X4_edge_messageCount, if_pos c_2, if_pos c_18, if_pos c_19]
          have e_31 : bts = X4_edge_bits le cal inf nib nc bts bc tm := by rw [X4_edge_bits, if_pos c_2, if_pos c_18, if_pos c_19]
          have e_32 : bc = X4_edge_bitCount le cal inf nib nc bc tm := by rw [X4_edge_bitCount, if_pos c_2, if_pos c_18, if_pos c_19]
          have e_33 : mf = X4_edge_a_mf le cal inf nib nc mcn bts bc mf tm := by rw [X4_edge_a_mf, if_pos c_2, if_pos c_18, if_pos c_19]
          have e_34 : ff = X4_edge_a_ff fc le cal inf nib nc ff tm := by rw [X4_edge_a_ff, if_pos c_2, if_pos c_18, if_pos c_19]
          have hP9 : va_P (dC, dI) vwCl [(h0, .inr (5, [.int tol, .ref a1, .ref a2, .ref a3, .ref a4, .ref a5, .int (X4_edge_frameCount fc le cal inf nc tm), .long (X4_edge_lastEdge le tm), .long (X4_edge_calibration tol le cal inf tm), .int (X4_edge_inFrame tol le cal inf nc tm), .int (X4_edge_nibbles le cal inf nib tm), .int (X4_edge_nibbleCount le cal inf nc tm)])), (a1, .inr (2, [.int (X4_edge_count tol le cal inf nib nc cnt bts bc tm), .int (X4_edge_streak tol le cal inf nib nc str bts bc tm), .int (X4_edge_mark tol le cal inf nib nc str mk bts bc tm)])), (a2, .inr (3, [.ref a6, .int (X4_edge_messageCount le cal inf nib nc mcn bts bc tm), .int (X4_edge_bits le cal inf nib nc bts bc tm), .int (X4_edge_bitCount le cal inf nib nc bc tm)])), (a6, .inl (cA6, 4, .inl (X4_edge_a_mf le cal inf nib nc mcn bts bc mf tm))), (a5, .inl (cA5, 64, .inl (X4_edge_a_ff fc le cal inf nib nc ff tm)))] H := by rw [← e_21, ← e_22, ← e_23, ← e_24, ← e_25, ← e_26, ← e_27, ← e_28, ← e_29, ← e_30, ← e_31, ← e_32, ← e_33, ← e_34]; exact hP.sub [0, 1, 2, 3, 4] rfl
          have hD9 : va_D A [(h0, .inr (5, [.int tol, .ref a1, .ref a2, .ref a3, .ref a4, .ref a5, .int (X4_edge_frameCount fc le cal inf nc tm), .long (X4_edge_lastEdge le tm), .long (X4_edge_calibration tol le cal inf tm), .int (X4_edge_inFrame tol le cal inf nc tm), .int (X4_edge_nibbles le cal inf nib tm), .int (X4_edge_nibbleCount le cal inf nc tm)])), (a1, .inr (2, [.int (X4_edge_count tol le cal inf nib nc cnt bts bc tm), .int (X4_edge_streak tol le cal inf nib nc str bts bc tm), .int (X4_edge_mark tol le cal inf nib nc str mk bts bc tm)])), (a2, .inr (3, [.ref a6, .int (X4_edge_messageCount le cal inf nib nc mcn bts bc tm), .int (X4_edge_bits le cal inf nib nc bts bc tm), .int (X4_edge_bitCount le cal inf nib nc bc tm)])), (a6, .inl (cA6, 4, .inl (X4_edge_a_mf le cal inf nib nc mcn bts bc mf tm))), (a5, .inl (cA5, 64, .inl (X4_edge_a_ff fc le cal inf nib nc ff tm)))] := by rw [← e_21, ← e_22, ← e_23, ← e_24, ← e_25, ← e_26, ← e_27, ← e_28, ← e_29, ← e_30, ← e_31, ← e_32, ← e_33, ← e_34]; exact hD.sub [0, 1, 2, 3, 4] (by decide) rfl
          have e_35 : nc = X4_edge_r le cal inf nc tm := by rw [X4_edge_r, if_pos c_2, if_pos c_18, if_pos c_19, if_pos c_20]
          exact W.iret (v := nc) hx hb hr (fun t ht hW => ⟨⟨_, (), rfl, e_35, po.ret ht hW hP9 hK hD9⟩, hS.F ht⟩) hS.2.2 dX4_edge_67
        · rw [lg_cmp_lt] at c_20
          refine lv_aload_n hx hb dX4_edge_48 rfl (lv_at hl 0 rfl) ?_
          refine lv_lload_n hx hb dX4_edge_49 rfl (lv_at hl 1 rfl) ?_
          refine lv_aload_n hx hb dX4_edge_50 rfl (lv_at hl 0 rfl) ?_
          refine va_get (D := (dC, dI)) (ci := 5) (v := .long le) (C := RX4) (T := TX4) (N := 12) hx hb hts iX4 hown hK hP 0 rfl rfl 7 (by decide) (hts (.fieldLink RX4 47 "PulseRows" "lastEdge" "J") (List.mem_of_getElem? (i := 1) rfl)) (fun _ h9 => h9) rfl dX4_edge_51 ?_
          refine lv_lsub hx hb dX4_edge_54 ?_
          have hPc := hP.sub (ws' := [(h0, .inr (5, [.int tol, .ref a1, .ref a2, .ref a3, .ref a4, .ref a5, .int fc, .long le, .long cal, .int inf, .int nib, .int nc])), (a1, .inr (2, [.int cnt, .int str, .int mk]))]) [0, 1] rfl
          have hDc := hD.sub (ws' := [(h0, .inr (5, [.int tol, .ref a1, .ref a2, .ref a3, .ref a4, .ref a5, .int fc, .long le, .long cal, .int inf, .int nib, .int nc])), (a1, .inr (2, [.int cnt, .int str, .int mk]))]) [0, 1] (by decide) rfl
          have hKc := hK.sub (tys' := []) [] rfl
          have hFc := va_free (wc := [(h0, .inr (5, [.int tol, .ref a1, .ref a2, .ref a3, .ref a4, .ref a5, .int fc, .long le, .long cal, .int inf, .int nib, .int nc])), (a1, .inr (2, [.int cnt, .int str, .int mk]))]) hD hS hA [0, 1] rfl
          refine va_callv (va_runV (As := [.long (tm - le)]) (rest := []) ⟨hx, hb, hml, hown, hts⟩ (k_X4_takeCalibration l dC dI H.size h0 tol a1 a2 a3 a4 a5 fc le cal inf nib nc cnt str mk (tm - le)) (cwV 1 hts gX4_edge_X4_takeCalibration rfl rfl rfl (by decide +kernel) ⟨Nat.le_of_ble_eq_true rfl, Nat.le_of_ble_eq_true rfl⟩) ⟨pr.blind, va_recv hKc hPc (ci := 5) (q0 := 0) rfl rfl, fun U hU hW => ⟨rfl, pr.call hU hW hPc hKc hDc⟩⟩ rfl rfl hl.1 rfl (lv_room (Nat.le_of_ble_eq_true rfl)) dX4_edge_55 ⟨Nat.le_of_ble_eq_true rfl, Nat.le_of_ble_eq_true rfl⟩) hS (fun q _ h => hFc q h) hFc (fun u t H1 locs ht hvm hw hB hz1 hk1 hS => ?_)
          obtain ⟨hP, hD⟩ := po.join (wr := [(a2, .inr (3, [.ref a6, .int mcn, .int bts, .int bc])), (a6, .inl (cA6, 4, .inl mf)), (a5, .inl (cA5, 64, .inl ff))]) hP hD [0, 1] [2, 3, 4] rfl rfl (by decide) (by decide) hk1 hFc ht hB
          generalize H1 = H at hP hS ⊢
          clear ht hvm hB hz1 hk1 hPc hDc hKc hFc
          have hP : va_P (dC, dI) vwCl [(a2, .inr (3, [.ref a6, .int mcn, .int bts, .int bc])), (a6, .inl (cA6, 4, .inl mf)), (a5, .inl (cA5, 64, .inl ff)), (h0, .inr (5, [.int tol, .ref a1, .ref a2, .ref a3, .ref a4, .ref a5, .int fc, .long le, .long (X4_takeCalibration_calibration tol cal (tm - le)), .int (X4_takeCalibration_inFrame tol cal (tm - le)), .int 0, .int 0])), (a1, .inr (2, [.int (X4_takeCalibration_count tol cal cnt (tm - le)), .int (X4_takeCalibration_streak tol cal str (tm - le)), .int (X4_takeCalibration_mark tol cal str mk (tm - le))]))] H := hP
          have hD : va_D A [(a2, .inr (3, [.ref a6, .int mcn, .int bts, .int bc])), (a6, .inl (cA6, 4, .inl mf)), (a5, .inl (cA5, 64, .inl ff)), (h0, .inr (5, [.int tol, .ref a1, .ref a2, .ref a3, .ref a4, .ref a5, .int fc, .long le, .long (X4_takeCalibration_calibration tol cal (tm - le)), .int (X4_takeCalibration_inFrame tol cal (tm - le)), .int 0, .int 0])), (a1, .inr (2, [.int (X4_takeCalibration_count tol cal cnt (tm - le)), .int (X4_takeCalibration_streak tol cal str (tm - le)), .int (X4_takeCalibration_mark tol cal str mk (tm - le))]))] := hD
          refine W.widen (k := 0) (n := 0) (Nat.le_of_ble_eq_true rfl) (Nat.le_of_ble_eq_true rfl) ?_
          refine lv_aload_n hx hb dX4_edge_58 rfl (lv_at hl 0 rfl) ?_
          refine lv_lload_n hx hb dX4_edge_59 rfl (lv_at hl 1 rfl) ?_
          refine va_put (D := (dC, dI)) (ci := 5) (v := .long tm) (ty := .long) (C := RX4) (T := TX4) (N := 12) hx hb hts iX4 tyX4 tyX4_ok nmX4 hown hK hP hD hS 3 rfl rfl 7 (by decide) (hts (.fieldLink RX4 47 "PulseRows" "lastEdge" "J") (List.mem_of_getElem? (i := 1) rfl)) (fun _ h9 => h9) rfl (by decide +kernel) rfl rfl (Nat.le_of_ble_eq_true rfl) dX4_edge_60 (fun H locs hP hD hS => ?_)
          have hP : va_P (dC, dI) vwCl [(a2, .inr (3, [.ref a6, .int mcn, .int bts, .int bc])), (a6, .inl (cA6, 4, .inl mf)), (a5, .inl (cA5, 64, .inl ff)), (h0, .inr (5, [.int tol, .ref a1, .ref a2, .ref a3, .ref a4, .ref a5, .int fc, .long tm, .long (X4_takeCalibration_calibration tol cal (tm - le)), .int (X4_takeCalibration_inFrame tol cal (tm - le)), .int 0, .int 0])), (a1, .inr (2, [.int (X4_takeCalibration_count tol cal cnt (tm - le)), .int (X4_takeCalibration_streak tol cal str (tm - le)), .int (X4_takeCalibration_mark tol cal str mk (tm - le))]))] H := hP
          have hD : va_D A [(a2, .inr (3, [.ref a6, .int mcn, .int bts, .int bc])), (a6, .inl (cA6, 4, .inl mf)), (a5, .inl (cA5, 64, .inl ff)), (h0, .inr (5, [.int tol, .ref a1, .ref a2, .ref a3, .ref a4, .ref a5, .int fc, .long tm, .long (X4_takeCalibration_calibration tol cal (tm - le)), .int (X4_takeCalibration_inFrame tol cal (tm - le)), .int 0, .int 0])), (a1, .inr (2, [.int (X4_takeCalibration_count tol cal cnt (tm - le)), .int (X4_takeCalibration_streak tol cal str (tm - le)), .int (X4_takeCalibration_mark tol cal str mk (tm - le))]))] := hD
          refine lv_aload_n hx hb dX4_edge_63 rfl (lv_at hl 0 rfl) ?_
          refine va_get (D := (dC, dI)) (ci := 5) (v := .int 0) (C := RX4) (T := TX4) (N := 12) hx hb hts iX4 hown hK hP 3 rfl rfl 11 (by decide) (hts (.fieldLink RX4 66 "PulseRows" "nibbleCount" "I") (List.mem_of_getElem? (i := 3) rfl)) (fun _ h9 => h9) rfl dX4_edge_64 ?_
          have e_37 : fc = X4_edge_frameCount fc le cal inf nc tm := by rw [X4_edge_frameCount, if_pos c_2, if_pos c_18, if_pos c_19]
          have e_38 : tm = X4_edge_lastEdge le tm := by rw [X4_edge_lastEdge, if_pos c_2, if_pos c_18]
          have e_39 : X4_takeCalibration_calibration tol cal (tm - le) = X4_edge_calibration tol le cal inf tm := by rw [X4_edge_calibration, if_pos c_2, if_pos c_18, if_pos c_19, if_neg c_20]
          have e_40 : X4_takeCalibration_inFrame tol cal (tm - le) = X4_edge_inFrame tol le cal inf nc tm := by rw [X4_edge_inFrame, if_pos c_2, if_pos c_18, if_pos c_19, if_neg c_20]
          have e_41 : (0 : Int32) = X4_edge_nibbles le cal inf nib tm := by rw [X4_edge_nibbles, if_pos c_2, if_pos c_18, if_pos c_19, if_neg c_20]
          have e_42 : (0 : Int32) = X4_edge_nibbleCount le cal inf nc tm := by rw [X4_edge_nibbleCount, if_pos c_2, if_pos c_18, if_pos c_19, if_neg c_20]
          have e_43 : X4_takeCalibration_count tol cal cnt (tm - le) = X4_edge_count tol le cal inf nib nc cnt bts bc tm := by rw [X4_edge_count, if_pos c_2, if_pos c_18, if_pos c_19, if_neg c_20]
          have e_44 : X4_takeCalibration_streak tol cal str (tm - le) = X4_edge_streak tol le cal inf nib nc str bts bc tm := by rw [X4_edge_streak, if_pos c_2, if_pos c_18, if_pos c_19, if_neg c_20]
          have e_45 : X4_takeCalibration_mark tol cal str mk (tm - le) = X4_edge_mark tol le cal inf nib nc str mk bts bc tm := by rw [X4_edge_mark, if_pos c_2, if_pos c_18, if_pos c_19, if_neg c_20]
          have e_46 : mcn = X4_edge_messageCount le cal inf nib nc mcn bts bc tm := by rw [X4_edge_messageCount, if_pos c_2, if_pos c_18, if_pos c_19]
          have e_47 : bts = X4_edge_bits le cal inf nib nc bts bc tm := by rw [X4_edge_bits, if_pos c_2, if_pos c_18, if_pos c_19]
          have e_48 : bc = X4_edge_bitCount le cal inf nib nc bc tm := by rw [X4_edge_bitCount, if_pos c_2, if_pos c_18, if_pos c_19]
          have e_49 : mf = X4_edge_a_mf le cal inf nib nc mcn bts bc mf tm := by rw [X4_edge_a_mf, if_pos c_2, if_pos c_18, if_pos c_19]
          have e_50 : ff = X4_edge_a_ff fc le cal inf nib nc ff tm := by rw [X4_edge_a_ff, if_pos c_2, if_pos c_18, if_pos c_19]
          have hP9 : va_P (dC, dI) vwCl [(h0, .inr (5, [.int tol, .ref a1, .ref a2, .ref a3, .ref a4, .ref a5, .int (X4_edge_frameCount fc le cal inf nc tm), .long (X4_edge_lastEdge le tm), .long (X4_edge_calibration tol le cal inf tm), .int (X4_edge_inFrame tol le cal inf nc tm), .int (X4_edge_nibbles le cal inf nib tm), .int (X4_edge_nibbleCount le cal inf nc tm)])), (a1, .inr (2, [.int (X4_edge_count tol le cal inf nib nc cnt bts bc tm), .int (X4_edge_streak tol le cal inf nib nc str bts bc tm), .int (X4_edge_mark tol le cal inf nib nc str mk bts bc tm)])), (a2, .inr (3, [.ref a6, .int (X4_edge_messageCount le cal inf nib nc mcn bts bc tm), .int (X4_edge_bits le cal inf nib nc bts bc tm), .int (X4_edge_bitCount le cal inf nib nc bc tm)])), (a6, .inl (cA6, 4, .inl (X4_edge_a_mf le cal inf nib nc mcn bts bc mf tm))), (a5, .inl (cA5, 64, .inl (X4_edge_a_ff fc le cal inf nib nc ff tm)))] H := by rw [← e_37, ← e_38, ← e_39, ← e_40, ← e_41, ← e_42, ← e_43, ← e_44, ← e_45, ← e_46, ← e_47, ← e_48, ← e_49, ← e_50]; exact hP.sub [3, 4, 0, 1, 2] rfl
          have hD9 : va_D A [(h0, .inr (5, [.int tol, .ref a1, .ref a2, .ref a3, .ref a4, .ref a5, .int (X4_edge_frameCount fc le cal inf nc tm), .long (X4_edge_lastEdge le tm), .long (X4_edge_calibration tol le cal inf tm), .int (X4_edge_inFrame tol le cal inf nc tm), .int (X4_edge_nibbles le cal inf nib tm), .int (X4_edge_nibbleCount le cal inf nc tm)])), (a1, .inr (2, [.int (X4_edge_count tol le cal inf nib nc cnt bts bc tm), .int (X4_edge_streak tol le cal inf nib nc str bts bc tm), .int (X4_edge_mark tol le cal inf nib nc str mk bts bc tm)])), (a2, .inr (3, [.ref a6, .int (X4_edge_messageCount le cal inf nib nc mcn bts bc tm), .int (X4_edge_bits le cal inf nib nc bts bc tm), .int (X4_edge_bitCount le cal inf nib nc bc tm)])), (a6, .inl (cA6, 4, .inl (X4_edge_a_mf le cal inf nib nc mcn bts bc mf tm))), (a5, .inl (cA5, 64, .inl (X4_edge_a_ff fc le cal inf nib nc ff tm)))] := by rw [← e_37, ← e_38, ← e_39, ← e_40, ← e_41, ← e_42, ← e_43, ← e_44, ← e_45, ← e_46, ← e_47, ← e_48, ← e_49, ← e_50]; exact hD.sub [3, 4, 0, 1, 2] (by decide) rfl
          have e_51 : (0 : Int32) = X4_edge_r le cal inf nc tm := by rw [X4_edge_r, if_pos c_2, if_pos c_18, if_pos c_19, if_neg c_20]
          exact W.iret (v := 0) hx hb hr (fun t ht hW => ⟨⟨_, (), rfl, e_51, po.ret ht hW hP9 hK hD9⟩, hS.F ht⟩) hS.2.2 dX4_edge_67
      · refine lv_aload_n hx hb dX4_edge_26 rfl (lv_at hl 0 rfl) ?_
        refine lv_lload_n hx hb dX4_edge_27 rfl (lv_at hl 1 rfl) ?_
        refine lv_aload_n hx hb dX4_edge_28 rfl (lv_at hl 0 rfl) ?_
        refine va_get (D := (dC, dI)) (ci := 5) (v := .long le) (C := RX4) (T := TX4) (N := 12) hx hb hts iX4 hown hK hP 0 rfl rfl 7 (by decide) (hts (.fieldLink RX4 47 "PulseRows" "lastEdge" "J") (List.mem_of_getElem? (i := 1) rfl)) (fun _ h9 => h9) rfl dX4_edge_29 ?_
        refine lv_lsub hx hb dX4_edge_32 ?_
        have hPc := hP.sub (ws' := [(h0, .inr (5, [.int tol, .ref a1, .ref a2, .ref a3, .ref a4, .ref a5, .int fc, .long le, .long cal, .int inf, .int nib, .int nc])), (a1, .inr (2, [.int cnt, .int str, .int mk])), (a2, .inr (3, [.ref a6, .int mcn, .int bts, .int bc])), (a6, .inl (cA6, 4, .inl mf)), (a5, .inl (cA5, 64, .inl ff))]) [0, 1, 2, 3, 4] rfl
        have hDc := hD.sub (ws' := [(h0, .inr (5, [.int tol, .ref a1, .ref a2, .ref a3, .ref a4, .ref a5, .int fc, .long le, .long cal, .int inf, .int nib, .int nc])), (a1, .inr (2, [.int cnt, .int str, .int mk])), (a2, .inr (3, [.ref a6, .int mcn, .int bts, .int bc])), (a6, .inl (cA6, 4, .inl mf)), (a5, .inl (cA5, 64, .inl ff))]) [0, 1, 2, 3, 4] (by decide) rfl
        have hKc := hK.sub (tys' := [(cA5, .int), (cA6, .int)]) [0, 1] rfl
        have hFc := va_free (wc := [(h0, .inr (5, [.int tol, .ref a1, .ref a2, .ref a3, .ref a4, .ref a5, .int fc, .long le, .long cal, .int inf, .int nib, .int nc])), (a1, .inr (2, [.int cnt, .int str, .int mk])), (a2, .inr (3, [.ref a6, .int mcn, .int bts, .int bc])), (a6, .inl (cA6, 4, .inl mf)), (a5, .inl (cA5, 64, .inl ff))]) hD hS hA [0, 1, 2, 3, 4] rfl
        refine va_callv (va_runV (As := [.long (tm - le)]) (rest := []) ⟨hx, hb, hml, hown, hts⟩ (k_X4_takeNibble l dC dI H.size tb h0 tol a1 a2 a3 a4 a5 fc le cal inf nib nc cnt str mk a6 mcn bts bc cA6 mf cA5 ff (tm - le) (hfc) (hmc)) (cwV 1 hts gX4_edge_X4_takeNibble rfl rfl rfl (by decide +kernel) ⟨Nat.le_of_ble_eq_true rfl, Nat.le_of_ble_eq_true rfl⟩) ⟨prE.blind, va_recv hKc hPc (ci := 5) (q0 := 0) rfl rfl, fun U hU hW => ⟨rfl, prE.call hE hS hFc hU hW hPc hKc hDc⟩⟩ rfl rfl hl.1 rfl (lv_room (Nat.le_of_ble_eq_true rfl)) dX4_edge_33 ⟨Nat.le_of_ble_eq_true rfl, Nat.le_of_ble_eq_true rfl⟩) hS (fun q _ h => hFc q h) hFc (fun u t H1 locs ht hvm hw hB hz1 hk1 hS => ?_)
        obtain ⟨hP, hD⟩ := po.join (wr := []) hP hD [0, 1, 2, 3, 4] [] rfl rfl (by decide) (by decide) hk1 hFc ht hB
        generalize H1 = H at hP hS ⊢
        clear ht hvm hB hz1 hk1 hPc hDc hKc hFc
        have hP : va_P (dC, dI) vwCl [(h0, .inr (5, [.int tol, .ref a1, .ref a2, .ref a3, .ref a4, .ref a5, .int (X4_takeNibble_frameCount fc cal nc (tm - le)), .long le, .long cal, .int (X4_takeNibble_inFrame cal inf nc (tm - le)), .int (X4_takeNibble_nibbles cal nib (tm - le)), .int (X4_takeNibble_nibbleCount cal nc (tm - le))])), (a1, .inr (2, [.int (X4_takeNibble_count cal nib nc cnt bts bc (tm - le)), .int (X4_takeNibble_streak cal nib nc str bts bc (tm - le)), .int (X4_takeNibble_mark cal nib nc str mk bts bc (tm - le))])), (a2, .inr (3, [.ref a6, .int (X4_takeNibble_messageCount cal nib nc mcn bts bc (tm - le)), .int (X4_takeNibble_bits cal nib nc bts bc (tm - le)), .int (X4_takeNibble_bitCount cal nib nc bc (tm - le))])), (a6, .inl (cA6, 4, .inl (X4_takeNibble_a_mf cal nib nc mcn bts bc mf (tm - le)))), (a5, .inl (cA5, 64, .inl (X4_takeNibble_a_ff fc cal nib nc ff (tm - le))))] H := hP
        have hD : va_D A [(h0, .inr (5, [.int tol, .ref a1, .ref a2, .ref a3, .ref a4, .ref a5, .int (X4_takeNibble_frameCount fc cal nc (tm - le)), .long le, .long cal, .int (X4_takeNibble_inFrame cal inf nc (tm - le)), .int (X4_takeNibble_nibbles cal nib (tm - le)), .int (X4_takeNibble_nibbleCount cal nc (tm - le))])), (a1, .inr (2, [.int (X4_takeNibble_count cal nib nc cnt bts bc (tm - le)), .int (X4_takeNibble_streak cal nib nc str bts bc (tm - le)), .int (X4_takeNibble_mark cal nib nc str mk bts bc (tm - le))])), (a2, .inr (3, [.ref a6, .int (X4_takeNibble_messageCount cal nib nc mcn bts bc (tm - le)), .int (X4_takeNibble_bits cal nib nc bts bc (tm - le)), .int (X4_takeNibble_bitCount cal nib nc bc (tm - le))])), (a6, .inl (cA6, 4, .inl (X4_takeNibble_a_mf cal nib nc mcn bts bc mf (tm - le)))), (a5, .inl (cA5, 64, .inl (X4_takeNibble_a_ff fc cal nib nc ff (tm - le))))] := hD
        refine W.widen (k := 0) (n := 0) (Nat.le_of_ble_eq_true rfl) (Nat.le_of_ble_eq_true rfl) ?_
        refine lv_goto (tgt := 58) hx hb dX4_edge_36 (by decide) ?_
        refine lv_aload_n hx hb dX4_edge_58 rfl (lv_at hl 0 rfl) ?_
        refine lv_lload_n hx hb dX4_edge_59 rfl (lv_at hl 1 rfl) ?_
        refine va_put (D := (dC, dI)) (ci := 5) (v := .long tm) (ty := .long) (C := RX4) (T := TX4) (N := 12) hx hb hts iX4 tyX4 tyX4_ok nmX4 hown hK hP hD hS 0 rfl rfl 7 (by decide) (hts (.fieldLink RX4 47 "PulseRows" "lastEdge" "J") (List.mem_of_getElem? (i := 1) rfl)) (fun _ h9 => h9) rfl (by decide +kernel) rfl rfl (Nat.le_of_ble_eq_true rfl) dX4_edge_60 (fun H locs hP hD hS => ?_)
        have hP : va_P (dC, dI) vwCl [(h0, .inr (5, [.int tol, .ref a1, .ref a2, .ref a3, .ref a4, .ref a5, .int (X4_takeNibble_frameCount fc cal nc (tm - le)), .long tm, .long cal, .int (X4_takeNibble_inFrame cal inf nc (tm - le)), .int (X4_takeNibble_nibbles cal nib (tm - le)), .int (X4_takeNibble_nibbleCount cal nc (tm - le))])), (a1, .inr (2, [.int (X4_takeNibble_count cal nib nc cnt bts bc (tm - le)), .int (X4_takeNibble_streak cal nib nc str bts bc (tm - le)), .int (X4_takeNibble_mark cal nib nc str mk bts bc (tm - le))])), (a2, .inr (3, [.ref a6, .int (X4_takeNibble_messageCount cal nib nc mcn bts bc (tm - le)), .int (X4_takeNibble_bits cal nib nc bts bc (tm - le)), .int (X4_takeNibble_bitCount cal nib nc bc (tm - le))])), (a6, .inl (cA6, 4, .inl (X4_takeNibble_a_mf cal nib nc mcn bts bc mf (tm - le)))), (a5, .inl (cA5, 64, .inl (X4_takeNibble_a_ff fc cal nib nc ff (tm - le))))] H := hP
        have hD : va_D A [(h0, .inr (5, [.int tol, .ref a1, .ref a2, .ref a3, .ref a4, .ref a5, .int (X4_takeNibble_frameCount fc cal nc (tm - le)), .long tm, .long cal, .int (X4_takeNibble_inFrame cal inf nc (tm - le)), .int (X4_takeNibble_nibbles cal nib (tm - le)), .int (X4_takeNibble_nibbleCount cal nc (tm - le))])), (a1, .inr (2, [.int (X4_takeNibble_count cal nib nc cnt bts bc (tm - le)), .int (X4_takeNibble_streak cal nib nc str bts bc (tm - le)), .int (X4_takeNibble_mark cal nib nc str mk bts bc (tm - le))])), (a2, .inr (3, [.ref a6, .int (X4_takeNibble_messageCount cal nib nc mcn bts bc (tm - le)), .int (X4_takeNibble_bits cal nib nc bts bc (tm - le)), .int (X4_takeNibble_bitCount cal nib nc bc (tm - le))])), (a6, .inl (cA6, 4, .inl (X4_takeNibble_a_mf cal nib nc mcn bts bc mf (tm - le)))), (a5, .inl (cA5, 64, .inl (X4_takeNibble_a_ff fc cal nib nc ff (tm - le))))] := hD
        refine lv_aload_n hx hb dX4_edge_63 rfl (lv_at hl 0 rfl) ?_
        refine va_get (D := (dC, dI)) (ci := 5) (v := .int (X4_takeNibble_nibbleCount cal nc (tm - le))) (C := RX4) (T := TX4) (N := 12) hx hb hts iX4 hown hK hP 0 rfl rfl 11 (by decide) (hts (.fieldLink RX4 66 "PulseRows" "nibbleCount" "I") (List.mem_of_getElem? (i := 3) rfl)) (fun _ h9 => h9) rfl dX4_edge_64 ?_
        have e_53 : X4_takeNibble_frameCount fc cal nc (tm - le) = X4_edge_frameCount fc le cal inf nc tm := by rw [X4_edge_frameCount, if_pos c_2, if_pos c_18, if_neg c_19]
        have e_54 : tm = X4_edge_lastEdge le tm := by rw [X4_edge_lastEdge, if_pos c_2, if_pos c_18]
        have e_55 : cal = X4_edge_calibration tol le cal inf tm := by rw [X4_edge_calibration, if_pos c_2, if_pos c_18, if_neg c_19]
        have e_56 : X4_takeNibble_inFrame cal inf nc (tm - le) = X4_edge_inFrame tol le cal inf nc tm := by rw [X4_edge_inFrame, if_pos c_2, if_pos c_18, if_neg c_19]
        have e_57 : X4_takeNibble_nibbles cal nib (tm - le) = X4_edge_nibbles le cal inf nib tm := by rw [X4_edge_nibbles, if_pos c_2, if_pos c_18, if_neg c_19]
        have e_58 : X4_takeNibble_nibbleCount cal nc (tm - le) = X4_edge_nibbleCount le cal inf nc tm := by rw [X4_edge_nibbleCount, if_pos c_2, if_pos c_18, if_neg c_19]
        have e_59 : X4_takeNibble_count cal nib nc cnt bts bc (tm - le) = X4_edge_count tol le cal inf nib nc cnt bts bc tm := by rw [X4_edge_count, if_pos c_2, if_pos c_18, if_neg c_19]
        have e_60 : X4_takeNibble_streak cal nib nc str bts bc (tm - le) = X4_edge_streak tol le cal inf nib nc str bts bc tm := by rw [X4_edge_streak, if_pos c_2, if_pos c_18, if_neg c_19]
        have e_61 : X4_takeNibble_mark cal nib nc str mk bts bc (tm - le) = X4_edge_mark tol le cal inf nib nc str mk bts bc tm := by rw [X4_edge_mark, if_pos c_2, if_pos c_18, if_neg c_19]
        have e_62 : X4_takeNibble_messageCount cal nib nc mcn bts bc (tm - le) = X4_edge_messageCount le cal inf nib nc mcn bts bc tm := by rw [X4_edge_messageCount, if_pos c_2, if_pos c_18, if_neg c_19]
        have e_63 : X4_takeNibble_bits cal nib nc bts bc (tm - le) = X4_edge_bits le cal inf nib nc bts bc tm := by rw [X4_edge_bits, if_pos c_2, if_pos c_18, if_neg c_19]
        have e_64 : X4_takeNibble_bitCount cal nib nc bc (tm - le) = X4_edge_bitCount le cal inf nib nc bc tm := by rw [X4_edge_bitCount, if_pos c_2, if_pos c_18, if_neg c_19]
        have e_65 : X4_takeNibble_a_mf cal nib nc mcn bts bc mf (tm - le) = X4_edge_a_mf le cal inf nib nc mcn bts bc mf tm := by rw [X4_edge_a_mf, if_pos c_2, if_pos c_18, if_neg c_19]
        have e_66 : X4_takeNibble_a_ff fc cal nib nc ff (tm - le) = X4_edge_a_ff fc le cal inf nib nc ff tm := by rw [X4_edge_a_ff, if_pos c_2, if_pos c_18, if_neg c_19]
        have hP9 : va_P (dC, dI) vwCl [(h0, .inr (5, [.int tol, .ref a1, .ref a2, .ref a3, .ref a4, .ref a5, .int (X4_edge_frameCount fc le cal inf nc tm), .long (X4_edge_lastEdge le tm), .long (X4_edge_calibration tol le cal inf tm), .int (X4_edge_inFrame tol le cal inf nc tm), .int (X4_edge_nibbles le cal inf nib tm), .int (X4_edge_nibbleCount le cal inf nc tm)])), (a1, .inr (2, [.int (X4_edge_count tol le cal inf nib nc cnt bts bc tm), .int (X4_edge_streak tol le cal inf nib nc str bts bc tm), .int (X4_edge_mark tol le cal inf nib nc str mk bts bc tm)])), (a2, .inr (3, [.ref a6, .int (X4_edge_messageCount le cal inf nib nc mcn bts bc tm), .int (X4_edge_bits le cal inf nib nc bts bc tm), .int (X4_edge_bitCount le cal inf nib nc bc tm)])), (a6, .inl (cA6, 4, .inl (X4_edge_a_mf le cal inf nib nc mcn bts bc mf tm))), (a5, .inl (cA5, 64, .inl (X4_edge_a_ff fc le cal inf nib nc ff tm)))] H := by rw [← e_53, ← e_54, ← e_55, ← e_56, ← e_57, ← e_58, ← e_59, ← e_60, ← e_61, ← e_62, ← e_63, ← e_64, ← e_65, ← e_66]; exact hP.sub [0, 1, 2, 3, 4] rfl
        have hD9 : va_D A [(h0, .inr (5, [.int tol, .ref a1, .ref a2, .ref a3, .ref a4, .ref a5, .int (X4_edge_frameCount fc le cal inf nc tm), .long (X4_edge_lastEdge le tm), .long (X4_edge_calibration tol le cal inf tm), .int (X4_edge_inFrame tol le cal inf nc tm), .int (X4_edge_nibbles le cal inf nib tm), .int (X4_edge_nibbleCount le cal inf nc tm)])), (a1, .inr (2, [.int (X4_edge_count tol le cal inf nib nc cnt bts bc tm), .int (X4_edge_streak tol le cal inf nib nc str bts bc tm), .int (X4_edge_mark tol le cal inf nib nc str mk bts bc tm)])), (a2, .inr (3, [.ref a6, .int (X4_edge_messageCount le cal inf nib nc mcn bts bc tm), .int (X4_edge_bits le cal inf nib nc bts bc tm), .int (X4_edge_bitCount le cal inf nib nc bc tm)])), (a6, .inl (cA6, 4, .inl (X4_edge_a_mf le cal inf nib nc mcn bts bc mf tm))), (a5, .inl (cA5, 64, .inl (X4_edge_a_ff fc le cal inf nib nc ff tm)))] := by rw [← e_53, ← e_54, ← e_55, ← e_56, ← e_57, ← e_58, ← e_59, ← e_60, ← e_61, ← e_62, ← e_63, ← e_64, ← e_65, ← e_66]; exact hD.sub [0, 1, 2, 3, 4] (by decide) rfl
        have e_67 : X4_takeNibble_nibbleCount cal nc (tm - le) = X4_edge_r le cal inf nc tm := by rw [X4_edge_r, if_pos c_2, if_pos c_18, if_neg c_19]
        exact W.iret (v := X4_takeNibble_nibbleCount cal nc (tm - le)) hx hb hr (fun t ht hW => ⟨⟨_, (), rfl, e_67, po.ret ht hW hP9 hK hD9⟩, hS.F ht⟩) hS.2.2 dX4_edge_67
    · rw [lg_cmp_gt] at c_18
      refine lv_bipush (v := (-2)) hx hb dX4_edge_16 (by decide) ?_
      have e_68 : fc = X4_edge_frameCount fc le cal inf nc tm := by rw [X4_edge_frameCount, if_pos c_2, if_neg c_18]
      have e_69 : le = X4_edge_lastEdge le tm := by rw [X4_edge_lastEdge, if_pos c_2, if_neg c_18]
      have e_70 : cal = X4_edge_calibration tol le cal inf tm := by rw [X4_edge_calibration, if_pos c_2, if_neg c_18]
      have e_71 : inf = X4_edge_inFrame tol le cal inf nc tm := by rw [X4_edge_inFrame, if_pos c_2, if_neg c_18]
      have e_72 : nib = X4_edge_nibbles le cal inf nib tm := by rw [X4_edge_nibbles, if_pos c_2, if_neg c_18]
      have e_73 : nc = X4_edge_nibbleCount le cal inf nc tm := by rw [X4_edge_nibbleCount, if_pos c_2, if_neg c_18]
      have e_74 : cnt = X4_edge_count tol le cal inf nib nc cnt bts bc tm := by rw [X4_edge_count, if_pos c_2, if_neg c_18]
      have e_75 : str = X4_edge_streak tol le cal inf nib nc str bts bc tm := by rw [X4_edge_streak, if_pos c_2, if_neg c_18]
      have e_76 : mk = X4_edge_mark tol le cal inf nib nc str mk bts bc tm := by rw [X4_edge_mark, if_pos c_2, if_neg c_18]
      have e_77 : mcn = X4_edge_messageCount le cal inf nib nc mcn bts bc tm := by rw [X4_edge_messageCount, if_pos c_2, if_neg c_18]
      have e_78 : bts = X4_edge_bits le cal inf nib nc bts bc tm := by rw [X4_edge_bits, if_pos c_2, if_neg c_18]
      have e_79 : bc = X4_edge_bitCount le cal inf nib nc bc tm := by rw [X4_edge_bitCount, if_pos c_2, if_neg c_18]
      have e_80 : mf = X4_edge_a_mf le cal inf nib nc mcn bts bc mf tm := by rw [X4_edge_a_mf, if_pos c_2, if_neg c_18]
      have e_81 : ff = X4_edge_a_ff fc le cal inf nib nc ff tm := by rw [X4_edge_a_ff, if_pos c_2, if_neg c_18]
      have hP9 : va_P (dC, dI) vwCl [(h0, .inr (5, [.int tol, .ref a1, .ref a2, .ref a3, .ref a4, .ref a5, .int (X4_edge_frameCount fc le cal inf nc tm), .long (X4_edge_lastEdge le tm), .long (X4_edge_calibration tol le cal inf tm), .int (X4_edge_inFrame tol le cal inf nc tm), .int (X4_edge_nibbles le cal inf nib tm), .int (X4_edge_nibbleCount le cal inf nc tm)])), (a1, .inr (2, [.int (X4_edge_count tol le cal inf nib nc cnt bts bc tm), .int (X4_edge_streak tol le cal inf nib nc str bts bc tm), .int (X4_edge_mark tol le cal inf nib nc str mk bts bc tm)])), (a2, .inr (3, [.ref a6, .int (X4_edge_messageCount le cal inf nib nc mcn bts bc tm), .int (X4_edge_bits le cal inf nib nc bts bc tm), .int (X4_edge_bitCount le cal inf nib nc bc tm)])), (a6, .inl (cA6, 4, .inl (X4_edge_a_mf le cal inf nib nc mcn bts bc mf tm))), (a5, .inl (cA5, 64, .inl (X4_edge_a_ff fc le cal inf nib nc ff tm)))] H := by rw [← e_68, ← e_69, ← e_70, ← e_71, ← e_72, ← e_73, ← e_74, ← e_75, ← e_76, ← e_77, ← e_78, ← e_79, ← e_80, ← e_81]; exact hP.sub [0, 1, 2, 3, 4] rfl
      have hD9 : va_D A [(h0, .inr (5, [.int tol, .ref a1, .ref a2, .ref a3, .ref a4, .ref a5, .int (X4_edge_frameCount fc le cal inf nc tm), .long (X4_edge_lastEdge le tm), .long (X4_edge_calibration tol le cal inf tm), .int (X4_edge_inFrame tol le cal inf nc tm), .int (X4_edge_nibbles le cal inf nib tm), .int (X4_edge_nibbleCount le cal inf nc tm)])), (a1, .inr (2, [.int (X4_edge_count tol le cal inf nib nc cnt bts bc tm), .int (X4_edge_streak tol le cal inf nib nc str bts bc tm), .int (X4_edge_mark tol le cal inf nib nc str mk bts bc tm)])), (a2, .inr (3, [.ref a6, .int (X4_edge_messageCount le cal inf nib nc mcn bts bc tm), .int (X4_edge_bits le cal inf nib nc bts bc tm), .int (X4_edge_bitCount le cal inf nib nc bc tm)])), (a6, .inl (cA6, 4, .inl (X4_edge_a_mf le cal inf nib nc mcn bts bc mf tm))), (a5, .inl (cA5, 64, .inl (X4_edge_a_ff fc le cal inf nib nc ff tm)))] := by rw [← e_68, ← e_69, ← e_70, ← e_71, ← e_72, ← e_73, ← e_74, ← e_75, ← e_76, ← e_77, ← e_78, ← e_79, ← e_80, ← e_81]; exact hD.sub [0, 1, 2, 3, 4] (by decide) rfl
      have e_82 : ((-2) : Int32) = X4_edge_r le cal inf nc tm := by rw [X4_edge_r, if_pos c_2, if_neg c_18]
      exact W.iret (v := (-2)) hx hb hr (fun t ht hW => ⟨⟨_, (), rfl, e_82, po.ret ht hW hP9 hK hD9⟩, hS.F ht⟩) hS.2.2 dX4_edge_18
def X4_slow_r (mcn : Int32) (mf : Nat → Int32) (ix : Int32) : Int32 := if ix = (-1) then (X2_size_r mcn) else (X2_messageAt_r mcn mf ix)
set_option maxHeartbeats 4000000 in
set_option maxRecDepth 100000 in
theorem k_X4_slow (l : Launch) (dC : Nat → ClassId) (dI : Nat → Nat → Nat) (sz : Nat) (h0 : Nat) (tol : Int32) (a1 : Nat) (a2 : Nat) (a3 : Nat) (a4 : Nat) (a5 : Nat) (fc : Int32) (le : Int64) (cal : Int64) (inf : Int32) (nib : Int32) (nc : Int32) (a6 : Nat) (mcn : Int32) (bts : Int32) (bc : Int32) (cA6 : ClassId) (mf : Nat → Int32) (ix : Int32)  : Met l yX4_slow wsX4_slow ({ frames := 1, cells := 0, slots := 0, locals := 22 }) (va_Pc [.ref h0, .int ix] (pr (dC, dI) [(cA6, .int)] [(h0, .inr (5, [.int tol, .ref a1, .ref a2, .ref a3, .ref a4, .ref a5, .int fc, .long le, .long cal, .int inf, .int nib, .int nc])), (a2, .inr (3, [.ref a6, .int mcn, .int bts, .int bc])), (a6, .inl (cA6, 4, .inl mf))] sz)) (va_Qi (fun (r : Int32) (_ : Unit) => r = X4_slow_r mcn mf ix) (fun _ t => po (dC, dI) [(cA6, .int)] (va_A [(h0, .inr (5, [.int tol, .ref a1, .ref a2, .ref a3, .ref a4, .ref a5, .int fc, .long le, .long cal, .int inf, .int nib, .int nc])), (a2, .inr (3, [.ref a6, .int mcn, .int bts, .int bc])), (a6, .inl (cA6, 4, .inl mf))] sz) [(h0, .inr (5, [.int tol, .ref a1, .ref a2, .ref a3, .ref a4, .ref a5, .int fc, .long le, .long cal, .int inf, .int nib, .int nc])), (a2, .inr (3, [.ref a6, .int mcn, .int bts, .int bc])), (a6, .inl (cA6, 4, .inl mf))] t) (va_A [(h0, .inr (5, [.int tol, .ref a1, .ref a2, .ref a3, .ref a4, .ref a5, .int fc, .long le, .long cal, .int inf, .int nib, .int nc])), (a2, .inr (3, [.ref a6, .int mcn, .int bts, .int bc])), (a6, .inl (cA6, 4, .inl mf))] sz)) 0 0 (va_A [(h0, .inr (5, [.int tol, .ref a1, .ref a2, .ref a3, .ref a4, .ref a5, .int fc, .long le, .long cal, .int inf, .int nib, .int nc])), (a2, .inr (3, [.ref a6, .int mcn, .int bts, .int bc])), (a6, .inl (cA6, 4, .inl mf))] sz) := by
  refine Met.ofW (cc := cX4_slow) (maxL := 2) (ret := (some .int)) (by decide) rfl ?_
  intro p e s m args below meth c s₁ B hml hv
  obtain ⟨rfl, hsz, hP, hK, hD0⟩ := hv
  have hx := B.exec
  have hb := B.bytes
  have hr := B.returns
  have hts := atoms_spec (ws := wsX4_slow) B.pre
  have hown : s.vm.findClass RX4 = some m.cls := findClass_of_methodNamed B.named
  have hlocks := B.notSynchronized
  subst hsz
  have hD := hD0.self (sz := s.heap.size)
  generalize hAe : va_A [(h0, .inr (5, [.int tol, .ref a1, .ref a2, .ref a3, .ref a4, .ref a5, .int fc, .long le, .long cal, .int inf, .int nib, .int nc])), (a2, .inr (3, [.ref a6, .int mcn, .int bts, .int bc])), (a6, .inl (cA6, 4, .inl mf))] s.heap.size = A at hD ⊢
  have hA : ∀ q : Nat, s.heap.size ≤ q → A q := fun q h => by rw [← hAe]; exact Or.inr h
  have hS : va_S A s.heap s.heap [] := va_S.rf
  have hP : va_P (dC, dI) vwCl [(h0, .inr (5, [.int tol, .ref a1, .ref a2, .ref a3, .ref a4, .ref a5, .int fc, .long le, .long cal, .int inf, .int nib, .int nc])), (a2, .inr (3, [.ref a6, .int mcn, .int bts, .int bc])), (a6, .inl (cA6, 4, .inl mf))] s.heap := hP
  have iX4 : ∀ w ∈ wsX40, w ∈ wsX4_slow := by decide +kernel
  have hl := lv_entry ([.ref h0, .int ix]) (n := 2) (Nat.le_of_ble_eq_true rfl)
  rw [lg_entry_eq]
  generalize (lg_sl ([.ref h0, .int ix]) ++ List.replicate (2 - (lg_sl ([.ref h0, .int ix])).length) Slot.unset).toArray = ls at hl ⊢
  have hl : lv_has ls 2 [(0, .ref h0), (1, .int ix)] := hl
  refine lv_iload_n hx hb dX4_slow_0 rfl (lv_at hl 1 rfl) ?_
  refine lv_iconst (v := (-1)) hx hb dX4_slow_1 (by decide) ?_
  refine lv_icmp_ne (tgt := 15) hx hb dX4_slow_2 (by decide) (fun c_1 => ?_) (fun c_1 => ?_)
  · refine lv_aload_n hx hb dX4_slow_15 rfl (lv_at hl 0 rfl) ?_
    refine va_get (D := (dC, dI)) (ci := 5) (v := .ref a2) (C := RX4) (T := TX4) (N := 12) hx hb hts iX4 hown hK hP 0 rfl rfl 2 (by decide) (hts (.fieldLink RX4 23 "PulseRows" "slowChannel" "LPulseRows$SlowChannel;") (List.mem_of_getElem? (i := 1) rfl)) (fun _ h9 => h9) rfl dX4_slow_16 ?_
    refine lv_iload_n hx hb dX4_slow_19 rfl (lv_at hl 1 rfl) ?_
    have hPc := hP.sub (ws' := [(a2, .inr (3, [.ref a6, .int mcn, .int bts, .int bc])), (a6, .inl (cA6, 4, .inl mf))]) [1, 2] rfl
    have hDc := hD.sub (ws' := [(a2, .inr (3, [.ref a6, .int mcn, .int bts, .int bc])), (a6, .inl (cA6, 4, .inl mf))]) [1, 2] (by decide) rfl
    have hKc := hK.sub (tys' := [(cA6, .int)]) [0] rfl
    have hFc := va_free (wc := [(a2, .inr (3, [.ref a6, .int mcn, .int bts, .int bc])), (a6, .inl (cA6, 4, .inl mf))]) hD hS hA [1, 2] rfl
    refine va_calli (va_runV (As := [.int ix]) (rest := []) ⟨hx, hb, hml, hown, hts⟩ (k_X2_messageAt l dC dI s.heap.size a2 a6 mcn bts bc cA6 mf ix) (cwV 1 hts gX4_slow_X2_messageAt rfl rfl rfl (by decide +kernel) ⟨Nat.le_of_ble_eq_true rfl, Nat.le_of_ble_eq_true rfl⟩) ⟨pr.blind, va_recv hKc hPc (ci := 3) (q0 := 0) rfl rfl, fun U hU hW => ⟨rfl, pr.call hU hW hPc hKc hDc⟩⟩ rfl rfl hl.1 rfl (lv_room (Nat.le_of_ble_eq_true rfl)) dX4_slow_20 ⟨Nat.le_of_ble_eq_true rfl, Nat.le_of_ble_eq_true rfl⟩) hS (fun q _ h => hFc q h) hFc (fun r_2 u t H1 locs ht hvm hw hB hz1 hk1 hS => ?_)
    subst r_2
    obtain ⟨hP, hD⟩ := po.join (wr := [(h0, .inr (5, [.int tol, .ref a1, .ref a2, .ref a3, .ref a4, .ref a5, .int fc, .long le, .long cal, .int inf, .int nib, .int nc]))]) hP hD [1, 2] [0] rfl rfl (by decide) (by decide) hk1 hFc ht hB
    generalize H1 = H at hP hS ⊢
    clear ht hvm hB hz1 hk1 hPc hDc hKc hFc
    have hP : va_P (dC, dI) vwCl [(h0, .inr (5, [.int tol, .ref a1, .ref a2, .ref a3, .ref a4, .ref a5, .int fc, .long le, .long cal, .int inf, .int nib, .int nc])), (a2, .inr (3, [.ref a6, .int mcn, .int bts, .int bc])), (a6, .inl (cA6, 4, .inl mf))] H := hP
    have hD : va_D A [(h0, .inr (5, [.int tol, .ref a1, .ref a2, .ref a3, .ref a4, .ref a5, .int fc, .long le, .long cal, .int inf, .int nib, .int nc])), (a2, .inr (3, [.ref a6, .int mcn, .int bts, .int bc])), (a6, .inl (cA6, 4, .inl mf))] := hD
    refine W.widen (k := 0) (n := 0) (Nat.le_of_ble_eq_true rfl) (Nat.le_of_ble_eq_true rfl) ?_
    have hP9 : va_P (dC, dI) vwCl [(h0, .inr (5, [.int tol, .ref a1, .ref a2, .ref a3, .ref a4, .ref a5, .int fc, .long le, .long cal, .int inf, .int nib, .int nc])), (a2, .inr (3, [.ref a6, .int mcn, .int bts, .int bc])), (a6, .inl (cA6, 4, .inl mf))] H := by exact hP.sub [0, 1, 2] rfl
    have hD9 : va_D A [(h0, .inr (5, [.int tol, .ref a1, .ref a2, .ref a3, .ref a4, .ref a5, .int fc, .long le, .long cal, .int inf, .int nib, .int nc])), (a2, .inr (3, [.ref a6, .int mcn, .int bts, .int bc])), (a6, .inl (cA6, 4, .inl mf))] := by exact hD.sub [0, 1, 2] (by decide) rfl
    have e_3 : X2_messageAt_r mcn mf ix = X4_slow_r mcn mf ix := by rw [X4_slow_r, if_neg c_1]
    exact W.iret (v := X2_messageAt_r mcn mf ix) hx hb hr (fun t ht hW => ⟨⟨_, (), rfl, e_3, po.ret ht hW hP9 hK hD9⟩, hS.F ht⟩) hS.2.2 dX4_slow_23
  · refine lv_aload_n hx hb dX4_slow_5 rfl (lv_at hl 0 rfl) ?_
    refine va_get (D := (dC, dI)) (ci := 5) (v := .ref a2) (C := RX4) (T := TX4) (N := 12) hx hb hts iX4 hown hK hP 0 rfl rfl 2 (by decide) (hts (.fieldLink RX4 23 "PulseRows" "slowChannel" "LPulseRows$SlowChannel;") (List.mem_of_getElem? (i := 1) rfl)) (fun _ h9 => h9) rfl dX4_slow_6 ?_
    have hPc := hP.sub (ws' := [(a2, .inr (3, [.ref a6, .int mcn, .int bts, .int bc]))]) [1] rfl
    have hDc := hD.sub (ws' := [(a2, .inr (3, [.ref a6, .int mcn, .int bts, .int bc]))]) [1] (by decide) rfl
    have hKc := hK.sub (tys' := []) [] rfl
    have hFc := va_free (wc := [(a2, .inr (3, [.ref a6, .int mcn, .int bts, .int bc]))]) hD hS hA [1] rfl
    refine va_calli (va_runV (As := []) (rest := []) ⟨hx, hb, hml, hown, hts⟩ (k_X2_size l dC dI s.heap.size a2 a6 mcn bts bc) (cwV 0 hts gX4_slow_X2_size rfl rfl rfl (by decide +kernel) ⟨Nat.le_of_ble_eq_true rfl, Nat.le_of_ble_eq_true rfl⟩) ⟨pr.blind, va_recv hKc hPc (ci := 3) (q0 := 0) rfl rfl, fun U hU hW => ⟨rfl, pr.call hU hW hPc hKc hDc⟩⟩ rfl rfl hl.1 rfl (lv_room (Nat.le_of_ble_eq_true rfl)) dX4_slow_9 ⟨Nat.le_of_ble_eq_true rfl, Nat.le_of_ble_eq_true rfl⟩) hS (fun q _ h => hFc q h) hFc (fun r_4 u t H1 locs ht hvm hw hB hz1 hk1 hS => ?_)
    subst r_4
    obtain ⟨hP, hD⟩ := po.join (wr := [(h0, .inr (5, [.int tol, .ref a1, .ref a2, .ref a3, .ref a4, .ref a5, .int fc, .long le, .long cal, .int inf, .int nib, .int nc])), (a6, .inl (cA6, 4, .inl mf))]) hP hD [1] [0, 2] rfl rfl (by decide) (by decide) hk1 hFc ht hB
    generalize H1 = H at hP hS ⊢
    clear ht hvm hB hz1 hk1 hPc hDc hKc hFc
    have hP : va_P (dC, dI) vwCl [(h0, .inr (5, [.int tol, .ref a1, .ref a2, .ref a3, .ref a4, .ref a5, .int fc, .long le, .long cal, .int inf, .int nib, .int nc])), (a6, .inl (cA6, 4, .inl mf)), (a2, .inr (3, [.ref a6, .int mcn, .int bts, .int bc]))] H := hP
    have hD : va_D A [(h0, .inr (5, [.int tol, .ref a1, .ref a2, .ref a3, .ref a4, .ref a5, .int fc, .long le, .long cal, .int inf, .int nib, .int nc])), (a6, .inl (cA6, 4, .inl mf)), (a2, .inr (3, [.ref a6, .int mcn, .int bts, .int bc]))] := hD
    refine W.widen (k := 0) (n := 0) (Nat.le_of_ble_eq_true rfl) (Nat.le_of_ble_eq_true rfl) ?_
    refine lv_goto (tgt := 23) hx hb dX4_slow_12 (by decide) ?_
    have hP9 : va_P (dC, dI) vwCl [(h0, .inr (5, [.int tol, .ref a1, .ref a2, .ref a3, .ref a4, .ref a5, .int fc, .long le, .long cal, .int inf, .int nib, .int nc])), (a2, .inr (3, [.ref a6, .int mcn, .int bts, .int bc])), (a6, .inl (cA6, 4, .inl mf))] H := by exact hP.sub [0, 2, 1] rfl
    have hD9 : va_D A [(h0, .inr (5, [.int tol, .ref a1, .ref a2, .ref a3, .ref a4, .ref a5, .int fc, .long le, .long cal, .int inf, .int nib, .int nc])), (a2, .inr (3, [.ref a6, .int mcn, .int bts, .int bc])), (a6, .inl (cA6, 4, .inl mf))] := by exact hD.sub [0, 2, 1] (by decide) rfl
    have e_5 : X2_size_r mcn = X4_slow_r mcn mf ix := by rw [X4_slow_r, if_pos c_1]
    exact W.iret (v := X2_size_r mcn) hx hb hr (fun t ht hW => ⟨⟨_, (), rfl, e_5, po.ret ht hW hP9 hK hD9⟩, hS.F ht⟩) hS.2.2 dX4_slow_23
def X4_row_r (fc : Int32) (ff : Nat → Int32) (ix : Int32) (wt : Int32) : Int32 := if ix = (-1) then (if wt = 0 then fc else (if (X4_hasFrame_r fc ix) = 0 then (-1) else (if wt = 1 then (X4_dataOf_r (ff (ix.toNatClampNeg))) else (if wt = 2 then (if (X4_isRight_r (ff (ix.toNatClampNeg))) = 0 then 0 else 1) else (-2))))) else (if (X4_hasFrame_r fc ix) = 0 then (-1) else (if wt = 0 then (X4_statusOf_r (ff (ix.toNatClampNeg))) else (if wt = 1 then (X4_dataOf_r (ff (ix.toNatClampNeg))) else (if wt = 2 then (if (X4_isRight_r (ff (ix.toNatClampNeg))) = 0 then 0 else 1) else (-2)))))
set_option maxHeartbeats 4000000 in
set_option maxRecDepth 100000 in
theorem k_X4_row (l : Launch) (dC : Nat → ClassId) (dI : Nat → Nat → Nat) (sz : Nat) (tb : Nat) (h0 : Nat) (tol : Int32) (a1 : Nat) (a2 : Nat) (a3 : Nat) (a4 : Nat) (a5 : Nat) (fc : Int32) (le : Int64) (cal : Int64) (inf : Int32) (nib : Int32) (nc : Int32) (cA5 : ClassId) (ff : Nat → Int32) (ix : Int32) (wt : Int32)  : Met l yX4_row wsX4_row ({ frames := 3, cells := 0, slots := 0, locals := 64 }) (va_Pc [.ref h0, .int ix, .int wt] (prE tb (dC, dI) [(cA5, .int)] [(h0, .inr (5, [.int tol, .ref a1, .ref a2, .ref a3, .ref a4, .ref a5, .int fc, .long le, .long cal, .int inf, .int nib, .int nc])), (a5, .inl (cA5, 64, .inl ff))] sz)) (va_Qi (fun (r : Int32) (_ : Unit) => r = X4_row_r fc ff ix wt) (fun _ t => po (dC, dI) [(cA5, .int)] (va_A [(h0, .inr (5, [.int tol, .ref a1, .ref a2, .ref a3, .ref a4, .ref a5, .int fc, .long le, .long cal, .int inf, .int nib, .int nc])), (a5, .inl (cA5, 64, .inl ff))] sz) [(h0, .inr (5, [.int tol, .ref a1, .ref a2, .ref a3, .ref a4, .ref a5, .int fc, .long le, .long cal, .int inf, .int nib, .int nc])), (a5, .inl (cA5, 64, .inl ff))] t) (va_A [(h0, .inr (5, [.int tol, .ref a1, .ref a2, .ref a3, .ref a4, .ref a5, .int fc, .long le, .long cal, .int inf, .int nib, .int nc])), (a5, .inl (cA5, 64, .inl ff))] sz)) 0 0 (va_A [(h0, .inr (5, [.int tol, .ref a1, .ref a2, .ref a3, .ref a4, .ref a5, .int fc, .long le, .long cal, .int inf, .int nib, .int nc])), (a5, .inl (cA5, 64, .inl ff))] sz) := by
  refine Met.ofW (cc := cX4_row) (maxL := 4) (ret := (some .int)) (by decide) rfl ?_
  intro p e s m args below meth c s₁ B hml hv
  obtain ⟨rfl, ⟨hsz, hP, hK, hD0⟩, hE⟩ := hv
  have hx := B.exec
  have hb := B.bytes
  have hr := B.returns
  have hts := atoms_spec (ws := wsX4_row) B.pre
  have hown : s.vm.findClass RX4 = some m.cls := findClass_of_methodNamed B.named
  have hlocks := B.notSynchronized
  subst hsz
  have hD := hD0.self (sz := s.heap.size)
  generalize hAe : va_A [(h0, .inr (5, [.int tol, .ref a1, .ref a2, .ref a3, .ref a4, .ref a5, .int fc, .long le, .long cal, .int inf, .int nib, .int nc])), (a5, .inl (cA5, 64, .inl ff))] s.heap.size = A at hD hE ⊢
  have hA : ∀ q : Nat, s.heap.size ≤ q → A q := fun q h => by rw [← hAe]; exact Or.inr h
  have hS : va_S A s.heap s.heap [] := va_S.rf
  have hP : va_P (dC, dI) vwCl [(h0, .inr (5, [.int tol, .ref a1, .ref a2, .ref a3, .ref a4, .ref a5, .int fc, .long le, .long cal, .int inf, .int nib, .int nc])), (a5, .inl (cA5, 64, .inl ff))] s.heap := hP
  have iX4 : ∀ w ∈ wsX40, w ∈ wsX4_row := by decide +kernel
  have hl := lv_entry ([.ref h0, .int ix, .int wt]) (n := 4) (Nat.le_of_ble_eq_true rfl)
  rw [lg_entry_eq]
  generalize (lg_sl ([.ref h0, .int ix, .int wt]) ++ List.replicate (4 - (lg_sl ([.ref h0, .int ix, .int wt])).length) Slot.unset).toArray = ls at hl ⊢
  have hl : lv_has ls 4 [(0, .ref h0), (1, .int ix), (2, .int wt)] := hl
  refine lv_iload_n hx hb dX4_row_0 rfl (lv_at hl 1 rfl) ?_
  refine lv_iconst (v := (-1)) hx hb dX4_row_1 (by decide) ?_
  refine lv_icmp_ne (tgt := 14) hx hb dX4_row_2 (by decide) (fun c_1 => ?_) (fun c_1 => ?_)
  · refine lv_aload_n hx hb dX4_row_14 rfl (lv_at hl 0 rfl) ?_
    refine lv_iload_n hx hb dX4_row_15 rfl (lv_at hl 1 rfl) ?_
    have hPc := hP.sub (ws' := [(h0, .inr (5, [.int tol, .ref a1, .ref a2, .ref a3, .ref a4, .ref a5, .int fc, .long le, .long cal, .int inf, .int nib, .int nc])), (a5, .inl (cA5, 64, .inl ff))]) [0, 1] rfl
    have hDc := hD.sub (ws' := [(h0, .inr (5, [.int tol, .ref a1, .ref a2, .ref a3, .ref a4, .ref a5, .int fc, .long le, .long cal, .int inf, .int nib, .int nc])), (a5, .inl (cA5, 64, .inl ff))]) [0, 1] (by decide) rfl
    have hKc := hK.sub (tys' := [(cA5, .int)]) [0] rfl
    have hFc := va_free (wc := [(h0, .inr (5, [.int tol, .ref a1, .ref a2, .ref a3, .ref a4, .ref a5, .int fc, .long le, .long cal, .int inf, .int nib, .int nc])), (a5, .inl (cA5, 64, .inl ff))]) hD hS hA [0, 1] rfl
    refine va_calli (va_runV (As := [.int ix]) (rest := []) ⟨hx, hb, hml, hown, hts⟩ (k_X4_hasFrame l dC dI s.heap.size h0 tol a1 a2 a3 a4 a5 fc le cal inf nib nc cA5 ff ix) (cwV 1 hts gX4_row_X4_hasFrame rfl rfl rfl (by decide +kernel) ⟨Nat.le_of_ble_eq_true rfl, Nat.le_of_ble_eq_true rfl⟩) ⟨pr.blind, va_recv hKc hPc (ci := 5) (q0 := 0) rfl rfl, fun U hU hW => ⟨rfl, pr.call hU hW hPc hKc hDc⟩⟩ rfl rfl hl.1 rfl (lv_room (Nat.le_of_ble_eq_true rfl)) dX4_row_16 ⟨Nat.le_of_ble_eq_true rfl, Nat.le_of_ble_eq_true rfl⟩) hS (fun q _ h => hFc q h) hFc (fun r_2 u t H1 locs ht hvm hw hB hz1 hk1 hS => ?_)
    subst r_2
    obtain ⟨hP, hD⟩ := po.join (wr := []) hP hD [0, 1] [] rfl rfl (by decide) (by decide) hk1 hFc ht hB
    generalize H1 = H at hP hS ⊢
    clear ht hvm hB hz1 hk1 hPc hDc hKc hFc
    have hP : va_P (dC, dI) vwCl [(h0, .inr (5, [.int tol, .ref a1, .ref a2, .ref a3, .ref a4, .ref a5, .int fc, .long le, .long cal, .int inf, .int nib, .int nc])), (a5, .inl (cA5, 64, .inl ff))] H := hP
    have hD : va_D A [(h0, .inr (5, [.int tol, .ref a1, .ref a2, .ref a3, .ref a4, .ref a5, .int fc, .long le, .long cal, .int inf, .int nib, .int nc])), (a5, .inl (cA5, 64, .inl ff))] := hD
    refine W.widen (k := 0) (n := 0) (Nat.le_of_ble_eq_true rfl) (Nat.le_of_ble_eq_true rfl) ?_
    refine lv_if_ne (tgt := 24) hx hb dX4_row_19 (by decide) (fun c_3 => ?_) (fun c_3 => ?_)
    · refine lv_aload_n hx hb dX4_row_24 rfl (lv_at hl 0 rfl) ?_
      refine va_get (D := (dC, dI)) (ci := 5) (v := .ref a5) (C := RX4) (T := TX4) (N := 12) hx hb hts iX4 hown hK hP 0 rfl rfl 5 (by decide) (hts (.fieldLink RX4 41 "PulseRows" "frames" "[I") (List.mem_of_getElem? (i := 2) rfl)) (fun _ h9 => h9) rfl dX4_row_25 ?_
      refine lv_iload_n hx hb dX4_row_28 rfl (lv_at hl 1 rfl) ?_
      refine va_iald hx hb hK hP 1 0 rfl rfl (hasFrame_in c_3).1 dX4_row_29 ?_
      refine lv_istore_n (lv' := [(3, .int (ff (ix.toNatClampNeg))), (0, .ref h0), (1, .int ix), (2, .int wt)]) hx hb dX4_row_30 rfl hl (by decide) rfl (fun ls hl => ?_)
      refine lv_iload_n hx hb dX4_row_31 rfl (lv_at hl 3 rfl) ?_
      by_cases c_4 : wt = 0
      · refine lv_tableIn (tgt := 60) hx hb dX4_row_32 (by rw [c_4]; decide) (by rw [c_4]; decide) (by rw [c_4]; rfl) (by decide) ?_
        refine lv_iload_n hx hb dX4_row_60 rfl (lv_at hl 0 rfl) ?_
        have hPc := hP.sub (ws' := []) [] rfl
        have hDc := hD.sub (ws' := []) [] (by decide) rfl
        have hKc := hK.sub (tys' := []) [] rfl
        have hFc := va_free (wc := []) hD hS hA [] rfl
        refine va_calli (va_runS (As := [.int (ff (ix.toNatClampNeg))]) (rest := []) ⟨hx, hb, hml, hown, hts⟩ (k_X4_statusOf l dC dI H.size (ff (ix.toNatClampNeg))) (va_cwS 1 hts gX4_row_X4_statusOf rfl rfl rfl (by decide +kernel) ⟨Nat.le_of_ble_eq_true rfl, Nat.le_of_ble_eq_true rfl⟩) ⟨pr.blind, fun U hU hW => ⟨rfl, pr.call hU hW hPc hKc hDc⟩⟩ rfl rfl hl.1 rfl (lv_room (Nat.le_of_ble_eq_true rfl)) dX4_row_61 ⟨Nat.le_of_ble_eq_true rfl, Nat.le_of_ble_eq_true rfl⟩) hS (fun q _ h => hFc q h) hFc (fun r_5 u t H1 locs ht hvm hw hB hz1 hk1 hS => ?_)
        subst r_5
        obtain ⟨hP, hD⟩ := po.join (wr := [(h0, .inr (5, [.int tol, .ref a1, .ref a2, .ref a3, .ref a4, .ref a5, .int fc, .long le, .long cal, .int inf, .int nib, .int nc])), (a5, .inl (cA5, 64, .inl ff))]) hP hD [] [0, 1] rfl rfl (by decide) (by decide) hk1 hFc ht hB
        generalize H1 = H at hP hS ⊢
        clear ht hvm hB hz1 hk1 hPc hDc hKc hFc
        have hP : va_P (dC, dI) vwCl [(h0, .inr (5, [.int tol, .ref a1, .ref a2, .ref a3, .ref a4, .ref a5, .int fc, .long le, .long cal, .int inf, .int nib, .int nc])), (a5, .inl (cA5, 64, .inl ff))] H := hP
        have hD : va_D A [(h0, .inr (5, [.int tol, .ref a1, .ref a2, .ref a3, .ref a4, .ref a5, .int fc, .long le, .long cal, .int inf, .int nib, .int nc])), (a5, .inl (cA5, 64, .inl ff))] := hD
        refine W.widen (k := 0) (n := 0) (Nat.le_of_ble_eq_true rfl) (Nat.le_of_ble_eq_true rfl) ?_
        have hP9 : va_P (dC, dI) vwCl [(h0, .inr (5, [.int tol, .ref a1, .ref a2, .ref a3, .ref a4, .ref a5, .int fc, .long le, .long cal, .int inf, .int nib, .int nc])), (a5, .inl (cA5, 64, .inl ff))] H := by exact hP.sub [0, 1] rfl
        have hD9 : va_D A [(h0, .inr (5, [.int tol, .ref a1, .ref a2, .ref a3, .ref a4, .ref a5, .int fc, .long le, .long cal, .int inf, .int nib, .int nc])), (a5, .inl (cA5, 64, .inl ff))] := by exact hD.sub [0, 1] (by decide) rfl
        have e_6 : X4_statusOf_r (ff (ix.toNatClampNeg)) = X4_row_r fc ff ix wt := by rw [X4_row_r, if_neg c_1, if_neg c_3, if_pos c_4]
        exact W.iret (v := X4_statusOf_r (ff (ix.toNatClampNeg))) hx hb hr (fun t ht hW => ⟨⟨_, (), rfl, e_6, po.ret ht hW hP9 hK hD9⟩, hS.F ht⟩) hS.2.2 dX4_row_64
      by_cases c_7 : wt = 1
      · refine lv_tableIn (tgt := 65) hx hb dX4_row_32 (by rw [c_7]; decide) (by rw [c_7]; decide) (by rw [c_7]; rfl) (by decide) ?_
        refine lv_iload_n hx hb dX4_row_65 rfl (lv_at hl 0 rfl) ?_
        have hPc := hP.sub (ws' := []) [] rfl
        have hDc := hD.sub (ws' := []) [] (by decide) rfl
        have hKc := hK.sub (tys' := []) [] rfl
        have hFc := va_free (wc := []) hD hS hA [] rfl
        refine va_calli (va_runS (As := [.int (ff (ix.toNatClampNeg))]) (rest := []) ⟨hx, hb, hml, hown, hts⟩ (k_X4_dataOf l dC dI H.size (ff (ix.toNatClampNeg))) (va_cwS 1 hts gX4_row_X4_dataOf rfl rfl rfl (by decide +kernel) ⟨Nat.le_of_ble_eq_true rfl, Nat.le_of_ble_eq_true rfl⟩) ⟨pr.blind, fun U hU hW => ⟨rfl, pr.call hU hW hPc hKc hDc⟩⟩ rfl rfl hl.1 rfl (lv_room (Nat.le_of_ble_eq_true rfl)) dX4_row_66 ⟨Nat.le_of_ble_eq_true rfl, Nat.le_of_ble_eq_true rfl⟩) hS (fun q _ h => hFc q h) hFc (fun r_8 u t H1 locs ht hvm hw hB hz1 hk1 hS => ?_)
        subst r_8
        obtain ⟨hP, hD⟩ := po.join (wr := [(h0, .inr (5, [.int tol, .ref a1, .ref a2, .ref a3, .ref a4, .ref a5, .int fc, .long le, .long cal, .int inf, .int nib, .int nc])), (a5, .inl (cA5, 64, .inl ff))]) hP hD [] [0, 1] rfl rfl (by decide) (by decide) hk1 hFc ht hB
        generalize H1 = H at hP hS ⊢
        clear ht hvm hB hz1 hk1 hPc hDc hKc hFc
        have hP : va_P (dC, dI) vwCl [(h0, .inr (5, [.int tol, .ref a1, .ref a2, .ref a3, .ref a4, .ref a5, .int fc, .long le, .long cal, .int inf, .int nib, .int nc])), (a5, .inl (cA5, 64, .inl ff))] H := hP
        have hD : va_D A [(h0, .inr (5, [.int tol, .ref a1, .ref a2, .ref a3, .ref a4, .ref a5, .int fc, .long le, .long cal, .int inf, .int nib, .int nc])), (a5, .inl (cA5, 64, .inl ff))] := hD
        refine W.widen (k := 0) (n := 0) (Nat.le_of_ble_eq_true rfl) (Nat.le_of_ble_eq_true rfl) ?_
        have hP9 : va_P (dC, dI) vwCl [(h0, .inr (5, [.int tol, .ref a1, .ref a2, .ref a3, .ref a4, .ref a5, .int fc, .long le, .long cal, .int inf, .int nib, .int nc])), (a5, .inl (cA5, 64, .inl ff))] H := by exact hP.sub [0, 1] rfl
        have hD9 : va_D A [(h0, .inr (5, [.int tol, .ref a1, .ref a2, .ref a3, .ref a4, .ref a5, .int fc, .long le, .long cal, .int inf, .int nib, .int nc])), (a5, .inl (cA5, 64, .inl ff))] := by exact hD.sub [0, 1] (by decide) rfl
        have e_9 : X4_dataOf_r (ff (ix.toNatClampNeg)) = X4_row_r fc ff ix wt := by rw [X4_row_r, if_neg c_1, if_neg c_3, if_neg c_4, if_pos c_7]
        exact W.iret (v := X4_dataOf_r (ff (ix.toNatClampNeg))) hx hb hr (fun t ht hW => ⟨⟨_, (), rfl, e_9, po.ret ht hW hP9 hK hD9⟩, hS.F ht⟩) hS.2.2 dX4_row_69
      by_cases c_10 : wt = 2
      · refine lv_tableIn (tgt := 70) hx hb dX4_row_32 (by rw [c_10]; decide) (by rw [c_10]; decide) (by rw [c_10]; rfl) (by decide) ?_
        refine lv_iload_n hx hb dX4_row_70 rfl (lv_at hl 0 rfl) ?_
        have hPc := hP.sub (ws' := []) [] rfl
        have hDc := hD.sub (ws' := []) [] (by decide) rfl
        have hKc := hK.sub (tys' := []) [] rfl
        have hFc := va_free (wc := []) hD hS hA [] rfl
        refine va_calli (va_runS (As := [.int (ff (ix.toNatClampNeg))]) (rest := []) ⟨hx, hb, hml, hown, hts⟩ (k_X4_isRight l dC dI H.size tb (ff (ix.toNatClampNeg))) (va_cwS 1 hts gX4_row_X4_isRight rfl rfl rfl (by decide +kernel) ⟨Nat.le_of_ble_eq_true rfl, Nat.le_of_ble_eq_true rfl⟩) ⟨prE.blind, fun U hU hW => ⟨rfl, prE.call hE hS hFc hU hW hPc hKc hDc⟩⟩ rfl rfl hl.1 rfl (lv_room (Nat.le_of_ble_eq_true rfl)) dX4_row_71 ⟨Nat.le_of_ble_eq_true rfl, Nat.le_of_ble_eq_true rfl⟩) hS (fun q _ h => hFc q h) hFc (fun r_11 u t H1 locs ht hvm hw hB hz1 hk1 hS => ?_)
        subst r_11
        obtain ⟨hP, hD⟩ := po.join (wr := [(h0, .inr (5, [.int tol, .ref a1, .ref a2, .ref a3, .ref a4, .ref a5, .int fc, .long le, .long cal, .int inf, .int nib, .int nc])), (a5, .inl (cA5, 64, .inl ff))]) hP hD [] [0, 1] rfl rfl (by decide) (by decide) hk1 hFc ht hB
        generalize H1 = H at hP hS ⊢
        clear ht hvm hB hz1 hk1 hPc hDc hKc hFc
        have hP : va_P (dC, dI) vwCl [(h0, .inr (5, [.int tol, .ref a1, .ref a2, .ref a3, .ref a4, .ref a5, .int fc, .long le, .long cal, .int inf, .int nib, .int nc])), (a5, .inl (cA5, 64, .inl ff))] H := hP
        have hD : va_D A [(h0, .inr (5, [.int tol, .ref a1, .ref a2, .ref a3, .ref a4, .ref a5, .int fc, .long le, .long cal, .int inf, .int nib, .int nc])), (a5, .inl (cA5, 64, .inl ff))] := hD
        refine W.widen (k := 0) (n := 0) (Nat.le_of_ble_eq_true rfl) (Nat.le_of_ble_eq_true rfl) ?_
        refine lv_if_eq (tgt := 81) hx hb dX4_row_74 (by decide) (fun c_12 => ?_) (fun c_12 => ?_)
        · refine lv_iconst (v := 0) hx hb dX4_row_81 (by decide) ?_
          have hP9 : va_P (dC, dI) vwCl [(h0, .inr (5, [.int tol, .ref a1, .ref a2, .ref a3, .ref a4, .ref a5, .int fc, .long le, .long cal, .int inf, .int nib, .int nc])), (a5, .inl (cA5, 64, .inl ff))] H := by exact hP.sub [0, 1] rfl
          have hD9 : va_D A [(h0, .inr (5, [.int tol, .ref a1, .ref a2, .ref a3, .ref a4, .ref a5, .int fc, .long le, .long cal, .int inf, .int nib, .int nc])), (a5, .inl (cA5, 64, .inl ff))] := by exact hD.sub [0, 1] (by decide) rfl
          have e_13 : (0 : Int32) = X4_row_r fc ff ix wt := by rw [X4_row_r, if_neg c_1, if_neg c_3, if_neg c_4, if_neg c_7, if_pos c_10, if_pos c_12]
          exact W.iret (v := 0) hx hb hr (fun t ht hW => ⟨⟨_, (), rfl, e_13, po.ret ht hW hP9 hK hD9⟩, hS.F ht⟩) hS.2.2 dX4_row_82
        · refine lv_iconst (v := 1) hx hb dX4_row_77 (by decide) ?_
          refine lv_goto (tgt := 82) hx hb dX4_row_78 (by decide) ?_
          have hP9 : va_P (dC, dI) vwCl [(h0, .inr (5, [.int tol, .ref a1, .ref a2, .ref a3, .ref a4, .ref a5, .int fc, .long le, .long cal, .int inf, .int nib, .int nc])), (a5, .inl (cA5, 64, .inl ff))] H := by exact hP.sub [0, 1] rfl
          have hD9 : va_D A [(h0, .inr (5, [.int tol, .ref a1, .ref a2, .ref a3, .ref a4, .ref a5, .int fc, .long le, .long cal, .int inf, .int nib, .int nc])), (a5, .inl (cA5, 64, .inl ff))] := by exact hD.sub [0, 1] (by decide) rfl
          have e_14 : (1 : Int32) = X4_row_r fc ff ix wt := by rw [X4_row_r, if_neg c_1, if_neg c_3, if_neg c_4, if_neg c_7, if_pos c_10, if_neg c_12]
          exact W.iret (v := 1) hx hb hr (fun t ht hW => ⟨⟨_, (), rfl, e_14, po.ret ht hW hP9 hK hD9⟩, hS.F ht⟩) hS.2.2 dX4_row_82
      refine lv_tableOut (tgt := 83) hx hb dX4_row_32 (tsw2 c_4 c_7 c_10) (by decide) ?_
      refine lv_bipush (v := (-2)) hx hb dX4_row_83 (by decide) ?_
      have hP9 : va_P (dC, dI) vwCl [(h0, .inr (5, [.int tol, .ref a1, .ref a2, .ref a3, .ref a4, .ref a5, .int fc, .long le, .long cal, .int inf, .int nib, .int nc])), (a5, .inl (cA5, 64, .inl ff))] H := by exact hP.sub [0, 1] rfl
      have hD9 : va_D A [(h0, .inr (5, [.int tol, .ref a1, .ref a2, .ref a3, .ref a4, .ref a5, .int fc, .long le, .long cal, .int inf, .int nib, .int nc])), (a5, .inl (cA5, 64, .inl ff))] := by exact hD.sub [0, 1] (by decide) rfl
      have e_15 : ((-2) : Int32) = X4_row_r fc ff ix wt := by rw [X4_row_r, if_neg c_1, if_neg c_3, if_neg c_4, if_neg c_7, if_neg c_10]
      exact W.iret (v := (-2)) hx hb hr (fun t ht hW => ⟨⟨_, (), rfl, e_15, po.ret ht hW hP9 hK hD9⟩, hS.F ht⟩) hS.2.2 dX4_row_85
    · refine lv_iconst (v := (-1)) hx hb dX4_row_22 (by decide) ?_
      have hP9 : va_P (dC, dI) vwCl [(h0, .inr (5, [.int tol, .ref a1, .ref a2, .ref a3, .ref a4, .ref a5, .int fc, .long le, .long cal, .int inf, .int nib, .int nc])), (a5, .inl (cA5, 64, .inl ff))] H := by exact hP.sub [0, 1] rfl
      have hD9 : va_D A [(h0, .inr (5, [.int tol, .ref a1, .ref a2, .ref a3, .ref a4, .ref a5, .int fc, .long le, .long cal, .int inf, .int nib, .int nc])), (a5, .inl (cA5, 64, .inl ff))] := by exact hD.sub [0, 1] (by decide) rfl
      have e_16 : ((-1) : Int32) = X4_row_r fc ff ix wt := by rw [X4_row_r, if_neg c_1, if_pos c_3]
      exact W.iret (v := (-1)) hx hb hr (fun t ht hW => ⟨⟨_, (), rfl, e_16, po.ret ht hW hP9 hK hD9⟩, hS.F ht⟩) hS.2.2 dX4_row_23
  · refine lv_iload_n hx hb dX4_row_5 rfl (lv_at hl 2 rfl) ?_
    refine lv_if_ne (tgt := 14) hx hb dX4_row_6 (by decide) (fun c_17 => ?_) (fun c_17 => ?_)
    · refine lv_aload_n hx hb dX4_row_14 rfl (lv_at hl 0 rfl) ?_
      refine lv_iload_n hx hb dX4_row_15 rfl (lv_at hl 1 rfl) ?_
      have hPc := hP.sub (ws' := [(h0, .inr (5, [.int tol, .ref a1, .ref a2, .ref a3, .ref a4, .ref a5, .int fc, .long le, .long cal, .int inf, .int nib, .int nc])), (a5, .inl (cA5, 64, .inl ff))]) [0, 1] rfl
      have hDc := hD.sub (ws' := [(h0, .inr (5, [.int tol, .ref a1, .ref a2, .ref a3, .ref a4, .ref a5, .int fc, .long le, .long cal, .int inf, .int nib, .int nc])), (a5, .inl (cA5, 64, .inl ff))]) [0, 1] (by decide) rfl
      have hKc := hK.sub (tys' := [(cA5, .int)]) [0] rfl
      have hFc := va_free (wc := [(h0, .inr (5, [.int tol, .ref a1, .ref a2, .ref a3, .ref a4, .ref a5, .int fc, .long le, .long cal, .int inf, .int nib, .int nc])), (a5, .inl (cA5, 64, .inl ff))]) hD hS hA [0, 1] rfl
      refine va_calli (va_runV (As := [.int ix]) (rest := []) ⟨hx, hb, hml, hown, hts⟩ (k_X4_hasFrame l dC dI s.heap.size h0 tol a1 a2 a3 a4 a5 fc le cal inf nib nc cA5 ff ix) (cwV 1 hts gX4_row_X4_hasFrame rfl rfl rfl (by decide +kernel) ⟨Nat.le_of_ble_eq_true rfl, Nat.le_of_ble_eq_true rfl⟩) ⟨pr.blind, va_recv hKc hPc (ci := 5) (q0 := 0) rfl rfl, fun U hU hW => ⟨rfl, pr.call hU hW hPc hKc hDc⟩⟩ rfl rfl hl.1 rfl (lv_room (Nat.le_of_ble_eq_true rfl)) dX4_row_16 ⟨Nat.le_of_ble_eq_true rfl, Nat.le_of_ble_eq_true rfl⟩) hS (fun q _ h => hFc q h) hFc (fun r_18 u t H1 locs ht hvm hw hB hz1 hk1 hS => ?_)
      subst r_18
      obtain ⟨hP, hD⟩ := po.join (wr := []) hP hD [0, 1] [] rfl rfl (by decide) (by decide) hk1 hFc ht hB
      generalize H1 = H at hP hS ⊢
      clear ht hvm hB hz1 hk1 hPc hDc hKc hFc
      have hP : va_P (dC, dI) vwCl [(h0, .inr (5, [.int tol, .ref a1, .ref a2, .ref a3, .ref a4, .ref a5, .int fc, .long le, .long cal, .int inf, .int nib, .int nc])), (a5, .inl (cA5, 64, .inl ff))] H := hP
      have hD : va_D A [(h0, .inr (5, [.int tol, .ref a1, .ref a2, .ref a3, .ref a4, .ref a5, .int fc, .long le, .long cal, .int inf, .int nib, .int nc])), (a5, .inl (cA5, 64, .inl ff))] := hD
      refine W.widen (k := 0) (n := 0) (Nat.le_of_ble_eq_true rfl) (Nat.le_of_ble_eq_true rfl) ?_
      refine lv_if_ne (tgt := 24) hx hb dX4_row_19 (by decide) (fun c_19 => ?_) (fun c_19 => ?_)
      · refine lv_aload_n hx hb dX4_row_24 rfl (lv_at hl 0 rfl) ?_
        refine va_get (D := (dC, dI)) (ci := 5) (v := .ref a5) (C := RX4) (T := TX4) (N := 12) hx hb hts iX4 hown hK hP 0 rfl rfl 5 (by decide) (hts (.fieldLink RX4 41 "PulseRows" "frames" "[I") (List.mem_of_getElem? (i := 2) rfl)) (fun _ h9 => h9) rfl dX4_row_25 ?_
        refine lv_iload_n hx hb dX4_row_28 rfl (lv_at hl 1 rfl) ?_
        refine va_iald hx hb hK hP 1 0 rfl rfl (hasFrame_in c_19).1 dX4_row_29 ?_
        refine lv_istore_n (lv' := [(3, .int (ff (ix.toNatClampNeg))), (0, .ref h0), (1, .int ix), (2, .int wt)]) hx hb dX4_row_30 rfl hl (by decide) rfl (fun ls hl => ?_)
        refine lv_iload_n hx hb dX4_row_31 rfl (lv_at hl 3 rfl) ?_
        by_cases c_20 : wt = 0
        · exact absurd c_20 c_17
        by_cases c_21 : wt = 1
        · refine lv_tableIn (tgt := 65) hx hb dX4_row_32 (by rw [c_21]; decide) (by rw [c_21]; decide) (by rw [c_21]; rfl) (by decide) ?_
          refine lv_iload_n hx hb dX4_row_65 rfl (lv_at hl 0 rfl) ?_
          have hPc := hP.sub (ws' := []) [] rfl
          have hDc := hD.sub (ws' := []) [] (by decide) rfl
          have hKc := hK.sub (tys' := []) [] rfl
          have hFc := va_free (wc := []) hD hS hA [] rfl
          refine va_calli (va_runS (As := [.int (ff (ix.toNatClampNeg))]) (rest := []) ⟨hx, hb, hml, hown, hts⟩ (k_X4_dataOf l dC dI H.size (ff (ix.toNatClampNeg))) (va_cwS 1 hts gX4_row_X4_dataOf rfl rfl rfl (by decide +kernel) ⟨Nat.le_of_ble_eq_true rfl, Nat.le_of_ble_eq_true rfl⟩) ⟨pr.blind, fun U hU hW => ⟨rfl, pr.call hU hW hPc hKc hDc⟩⟩ rfl rfl hl.1 rfl (lv_room (Nat.le_of_ble_eq_true rfl)) dX4_row_66 ⟨Nat.le_of_ble_eq_true rfl, Nat.le_of_ble_eq_true rfl⟩) hS (fun q _ h => hFc q h) hFc (fun r_22 u t H1 locs ht hvm hw hB hz1 hk1 hS => ?_)
          subst r_22
          obtain ⟨hP, hD⟩ := po.join (wr := [(h0, .inr (5, [.int tol, .ref a1, .ref a2, .ref a3, .ref a4, .ref a5, .int fc, .long le, .long cal, .int inf, .int nib, .int nc])), (a5, .inl (cA5, 64, .inl ff))]) hP hD [] [0, 1] rfl rfl (by decide) (by decide) hk1 hFc ht hB
          generalize H1 = H at hP hS ⊢
          clear ht hvm hB hz1 hk1 hPc hDc hKc hFc
          have hP : va_P (dC, dI) vwCl [(h0, .inr (5, [.int tol, .ref a1, .ref a2, .ref a3, .ref a4, .ref a5, .int fc, .long le, .long cal, .int inf, .int nib, .int nc])), (a5, .inl (cA5, 64, .inl ff))] H := hP
          have hD : va_D A [(h0, .inr (5, [.int tol, .ref a1, .ref a2, .ref a3, .ref a4, .ref a5, .int fc, .long le, .long cal, .int inf, .int nib, .int nc])), (a5, .inl (cA5, 64, .inl ff))] := hD
          refine W.widen (k := 0) (n := 0) (Nat.le_of_ble_eq_true rfl) (Nat.le_of_ble_eq_true rfl) ?_
          have hP9 : va_P (dC, dI) vwCl [(h0, .inr (5, [.int tol, .ref a1, .ref a2, .ref a3, .ref a4, .ref a5, .int fc, .long le, .long cal, .int inf, .int nib, .int nc])), (a5, .inl (cA5, 64, .inl ff))] H := by exact hP.sub [0, 1] rfl
          have hD9 : va_D A [(h0, .inr (5, [.int tol, .ref a1, .ref a2, .ref a3, .ref a4, .ref a5, .int fc, .long le, .long cal, .int inf, .int nib, .int nc])), (a5, .inl (cA5, 64, .inl ff))] := by exact hD.sub [0, 1] (by decide) rfl
          have e_23 : X4_dataOf_r (ff (ix.toNatClampNeg)) = X4_row_r fc ff ix wt := by rw [X4_row_r, if_pos c_1, if_neg c_17, if_neg c_19, if_pos c_21]
          exact W.iret (v := X4_dataOf_r (ff (ix.toNatClampNeg))) hx hb hr (fun t ht hW => ⟨⟨_, (), rfl, e_23, po.ret ht hW hP9 hK hD9⟩, hS.F ht⟩) hS.2.2 dX4_row_69
        by_cases c_24 : wt = 2
        · refine lv_tableIn (tgt := 70) hx hb dX4_row_32 (by rw [c_24]; decide) (by rw [c_24]; decide) (by rw [c_24]; rfl) (by decide) ?_
          refine lv_iload_n hx hb dX4_row_70 rfl (lv_at hl 0 rfl) ?_
          have hPc := hP.sub (ws' := []) [] rfl
          have hDc := hD.sub (ws' := []) [] (by decide) rfl
          have hKc := hK.sub (tys' := []) [] rfl
          have hFc := va_free (wc := []) hD hS hA [] rfl
          refine va_calli (va_runS (As := [.int (ff (ix.toNatClampNeg))]) (rest := []) ⟨hx, hb, hml, hown, hts⟩ (k_X4_isRight l dC dI H.size tb (ff (ix.toNatClampNeg))) (va_cwS 1 hts gX4_row_X4_isRight rfl rfl rfl (by decide +kernel) ⟨Nat.le_of_ble_eq_true rfl, Nat.le_of_ble_eq_true rfl⟩) ⟨prE.blind, fun U hU hW => ⟨rfl, prE.call hE hS hFc hU hW hPc hKc hDc⟩⟩ rfl rfl hl.1 rfl (lv_room (Nat.le_of_ble_eq_true rfl)) dX4_row_71 ⟨Nat.le_of_ble_eq_true rfl, Nat.le_of_ble_eq_true rfl⟩) hS (fun q _ h => hFc q h) hFc (fun r_25 u t H1 locs ht hvm hw hB hz1 hk1 hS => ?_)
          subst r_25
          obtain ⟨hP, hD⟩ := po.join (wr := [(h0, .inr (5, [.int tol, .ref a1, .ref a2, .ref a3, .ref a4, .ref a5, .int fc, .long le, .long cal, .int inf, .int nib, .int nc])), (a5, .inl (cA5, 64, .inl ff))]) hP hD [] [0, 1] rfl rfl (by decide) (by decide) hk1 hFc ht hB
          generalize H1 = H at hP hS ⊢
          clear ht hvm hB hz1 hk1 hPc hDc hKc hFc
          have hP : va_P (dC, dI) vwCl [(h0, .inr (5, [.int tol, .ref a1, .ref a2, .ref a3, .ref a4, .ref a5, .int fc, .long le, .long cal, .int inf, .int nib, .int nc])), (a5, .inl (cA5, 64, .inl ff))] H := hP
          have hD : va_D A [(h0, .inr (5, [.int tol, .ref a1, .ref a2, .ref a3, .ref a4, .ref a5, .int fc, .long le, .long cal, .int inf, .int nib, .int nc])), (a5, .inl (cA5, 64, .inl ff))] := hD
          refine W.widen (k := 0) (n := 0) (Nat.le_of_ble_eq_true rfl) (Nat.le_of_ble_eq_true rfl) ?_
          refine lv_if_eq (tgt := 81) hx hb dX4_row_74 (by decide) (fun c_26 => ?_) (fun c_26 => ?_)
          · refine lv_iconst (v := 0) hx hb dX4_row_81 (by decide) ?_
            have hP9 : va_P (dC, dI) vwCl [(h0, .inr (5, [.int tol, .ref a1, .ref a2, .ref a3, .ref a4, .ref a5, .int fc, .long le, .long cal, .int inf, .int nib, .int nc])), (a5, .inl (cA5, 64, .inl ff))] H := by exact hP.sub [0, 1] rfl
            have hD9 : va_D A [(h0, .inr (5, [.int tol, .ref a1, .ref a2, .ref a3, .ref a4, .ref a5, .int fc, .long le, .long cal, .int inf, .int nib, .int nc])), (a5, .inl (cA5, 64, .inl ff))] := by exact hD.sub [0, 1] (by decide) rfl
            have e_27 : (0 : Int32) = X4_row_r fc ff ix wt := by rw [X4_row_r, if_pos c_1, if_neg c_17, if_neg c_19, if_neg c_21, if_pos c_24, if_pos c_26]
            exact W.iret (v := 0) hx hb hr (fun t ht hW => ⟨⟨_, (), rfl, e_27, po.ret ht hW hP9 hK hD9⟩, hS.F ht⟩) hS.2.2 dX4_row_82
          · refine lv_iconst (v := 1) hx hb dX4_row_77 (by decide) ?_
            refine lv_goto (tgt := 82) hx hb dX4_row_78 (by decide) ?_
            have hP9 : va_P (dC, dI) vwCl [(h0, .inr (5, [.int tol, .ref a1, .ref a2, .ref a3, .ref a4, .ref a5, .int fc, .long le, .long cal, .int inf, .int nib, .int nc])), (a5, .inl (cA5, 64, .inl ff))] H := by exact hP.sub [0, 1] rfl
            have hD9 : va_D A [(h0, .inr (5, [.int tol, .ref a1, .ref a2, .ref a3, .ref a4, .ref a5, .int fc, .long le, .long cal, .int inf, .int nib, .int nc])), (a5, .inl (cA5, 64, .inl ff))] := by exact hD.sub [0, 1] (by decide) rfl
            have e_28 : (1 : Int32) = X4_row_r fc ff ix wt := by rw [X4_row_r, if_pos c_1, if_neg c_17, if_neg c_19, if_neg c_21, if_pos c_24, if_neg c_26]
            exact W.iret (v := 1) hx hb hr (fun t ht hW => ⟨⟨_, (), rfl, e_28, po.ret ht hW hP9 hK hD9⟩, hS.F ht⟩) hS.2.2 dX4_row_82
        refine lv_tableOut (tgt := 83) hx hb dX4_row_32 (tsw2 c_20 c_21 c_24) (by decide) ?_
        refine lv_bipush (v := (-2)) hx hb dX4_row_83 (by decide) ?_
        have hP9 : va_P (dC, dI) vwCl [(h0, .inr (5, [.int tol, .ref a1, .ref a2, .ref a3, .ref a4, .ref a5, .int fc, .long le, .long cal, .int inf, .int nib, .int nc])), (a5, .inl (cA5, 64, .inl ff))] H := by exact hP.sub [0, 1] rfl
        have hD9 : va_D A [(h0, .inr (5, [.int tol, .ref a1, .ref a2, .ref a3, .ref a4, .ref a5, .int fc, .long le, .long cal, .int inf, .int nib, .int nc])), (a5, .inl (cA5, 64, .inl ff))] := by exact hD.sub [0, 1] (by decide) rfl
        have e_29 : ((-2) : Int32) = X4_row_r fc ff ix wt := by rw [X4_row_r, if_pos c_1, if_neg c_17, if_neg c_19, if_neg c_21, if_neg c_24]
        exact W.iret (v := (-2)) hx hb hr (fun t ht hW => ⟨⟨_, (), rfl, e_29, po.ret ht hW hP9 hK hD9⟩, hS.F ht⟩) hS.2.2 dX4_row_85
      · refine lv_iconst (v := (-1)) hx hb dX4_row_22 (by decide) ?_
        have hP9 : va_P (dC, dI) vwCl [(h0, .inr (5, [.int tol, .ref a1, .ref a2, .ref a3, .ref a4, .ref a5, .int fc, .long le, .long cal, .int inf, .int nib, .int nc])), (a5, .inl (cA5, 64, .inl ff))] H := by exact hP.sub [0, 1] rfl
        have hD9 : va_D A [(h0, .inr (5, [.int tol, .ref a1, .ref a2, .ref a3, .ref a4, .ref a5, .int fc, .long le, .long cal, .int inf, .int nib, .int nc])), (a5, .inl (cA5, 64, .inl ff))] := by exact hD.sub [0, 1] (by decide) rfl
        have e_30 : ((-1) : Int32) = X4_row_r fc ff ix wt := by rw [X4_row_r, if_pos c_1, if_neg c_17, if_pos c_19]
        exact W.iret (v := (-1)) hx hb hr (fun t ht hW => ⟨⟨_, (), rfl, e_30, po.ret ht hW hP9 hK hD9⟩, hS.F ht⟩) hS.2.2 dX4_row_23
    · refine lv_aload_n hx hb dX4_row_9 rfl (lv_at hl 0 rfl) ?_
      refine va_get (D := (dC, dI)) (ci := 5) (v := .int fc) (C := RX4) (T := TX4) (N := 12) hx hb hts iX4 hown hK hP 0 rfl rfl 6 (by decide) (hts (.fieldLink RX4 69 "PulseRows" "frameCount" "I") (List.mem_of_getElem? (i := 1) rfl)) (fun _ h9 => h9) rfl dX4_row_10 ?_
      have hP9 : va_P (dC, dI) vwCl [(h0, .inr (5, [.int tol, .ref a1, .ref a2, .ref a3, .ref a4, .ref a5, .int fc, .long le, .long cal, .int inf, .int nib, .int nc])), (a5, .inl (cA5, 64, .inl ff))] s.heap := by exact hP.sub [0, 1] rfl
      have hD9 : va_D A [(h0, .inr (5, [.int tol, .ref a1, .ref a2, .ref a3, .ref a4, .ref a5, .int fc, .long le, .long cal, .int inf, .int nib, .int nc])), (a5, .inl (cA5, 64, .inl ff))] := by exact hD.sub [0, 1] (by decide) rfl
      have e_31 : fc = X4_row_r fc ff ix wt := by rw [X4_row_r, if_pos c_1, if_pos c_17]
      exact W.iret (v := fc) hx hb hr (fun t ht hW => ⟨⟨_, (), rfl, e_31, po.ret ht hW hP9 hK hD9⟩, hS.F ht⟩) hS.2.2 dX4_row_13
def X4_parity_r (wd : Int32) : Int32 := (J6_bitCount_0f7a4_r wd) &&& 1
set_option maxHeartbeats 4000000 in
set_option maxRecDepth 100000 in
theorem k_X4_parity (l : Launch) (dC : Nat → ClassId) (dI : Nat → Nat → Nat) (sz : Nat) (h0 : Nat) (tol : Int32) (a1 : Nat) (a2 : Nat) (a3 : Nat) (a4 : Nat) (a5 : Nat) (fc : Int32) (le : Int64) (cal : Int64) (inf : Int32) (nib : Int32) (nc : Int32) (wd : Int32)  : Met l yX4_parity wsX4_parity ({ frames := 1, cells := 0, slots := 0, locals := 20 }) (va_Pc [.ref h0, .int wd] (pr (dC, dI) [] [(h0, .inr (5, [.int tol, .ref a1, .ref a2, .ref a3, .ref a4, .ref a5, .int fc, .long le, .long cal, .int inf, .int nib, .int nc]))] sz)) (va_Qi (fun (r : Int32) (_ : Unit) => r = X4_parity_r wd) (fun _ t => po (dC, dI) [] (va_A [(h0, .inr (5, [.int tol, .ref a1, .ref a2, .ref a3, .ref a4, .ref a5, .int fc, .long le, .long cal, .int inf, .int nib, .int nc]))] sz) [(h0, .inr (5, [.int tol, .ref a1, .ref a2, .ref a3, .ref a4, .ref a5, .int fc, .long le, .long cal, .int inf, .int nib, .int nc]))] t) (va_A [(h0, .inr (5, [.int tol, .ref a1, .ref a2, .ref a3, .ref a4, .ref a5, .int fc, .long le, .long cal, .int inf, .int nib, .int nc]))] sz)) 0 0 (va_A [(h0, .inr (5, [.int tol, .ref a1, .ref a2, .ref a3, .ref a4, .ref a5, .int fc, .long le, .long cal, .int inf, .int nib, .int nc]))] sz) := by
  refine Met.ofW (cc := cX4_parity) (maxL := 2) (ret := (some .int)) (by decide) rfl ?_
  intro p e s m args below meth c s₁ B hml hv
  obtain ⟨rfl, hsz, hP, hK, hD0⟩ := hv
  have hx := B.exec
  have hb := B.bytes
  have hr := B.returns
  have hts := atoms_spec (ws := wsX4_parity) B.pre
  have hown : s.vm.findClass RX4 = some m.cls := findClass_of_methodNamed B.named
  have hlocks := B.notSynchronized
  subst hsz
  have hD := hD0.self (sz := s.heap.size)
  generalize hAe : va_A [(h0, .inr (5, [.int tol, .ref a1, .ref a2, .ref a3, .ref a4, .ref a5, .int fc, .long le, .long cal, .int inf, .int nib, .int nc]))] s.heap.size = A at hD ⊢
  have hA : ∀ q : Nat, s.heap.size ≤ q → A q := fun q h => by rw [← hAe]; exact Or.inr h
  have hS : va_S A s.heap s.heap [] := va_S.rf
  have hP : va_P (dC, dI) vwCl [(h0, .inr (5, [.int tol, .ref a1, .ref a2, .ref a3, .ref a4, .ref a5, .int fc, .long le, .long cal, .int inf, .int nib, .int nc]))] s.heap := hP
  have hl := lv_entry ([.ref h0, .int wd]) (n := 2) (Nat.le_of_ble_eq_true rfl)
  rw [lg_entry_eq]
  generalize (lg_sl ([.ref h0, .int wd]) ++ List.replicate (2 - (lg_sl ([.ref h0, .int wd])).length) Slot.unset).toArray = ls at hl ⊢
  have hl : lv_has ls 2 [(0, .ref h0), (1, .int wd)] := hl
  refine lv_iload_n hx hb dX4_parity_0 rfl (lv_at hl 1 rfl) ?_
  have hPc := hP.sub (ws' := []) [] rfl
  have hDc := hD.sub (ws' := []) [] (by decide) rfl
  have hKc := hK.sub (tys' := []) [] rfl
  have hFc := va_free (wc := []) hD hS hA [] rfl
  refine va_calli (va_runS (As := [.int wd]) (rest := []) ⟨hx, hb, hml, hown, hts⟩ (k_J6_bitCount_0f7a4 l dC dI s.heap.size wd) (va_cwS 1 hts gX4_parity_J6_bitCount_0f7a4 rfl rfl rfl (by decide +kernel) ⟨Nat.le_of_ble_eq_true rfl, Nat.le_of_ble_eq_true rfl⟩) ⟨pr.blind, fun U hU hW => ⟨rfl, pr.call hU hW hPc hKc hDc⟩⟩ rfl rfl hl.1 rfl (lv_room (Nat.le_of_ble_eq_true rfl)) dX4_parity_1 ⟨Nat.le_of_ble_eq_true rfl, Nat.le_of_ble_eq_true rfl⟩) hS (fun q _ h => hFc q h) hFc (fun r_1 u t H1 locs ht hvm hw hB hz1 hk1 hS => ?_)
  subst r_1
  obtain ⟨hP, hD⟩ := po.join (wr := [(h0, .inr (5, [.int tol, .ref a1, .ref a2, .ref a3, .ref a4, .ref a5, .int fc, .long le, .long cal, .int inf, .int nib, .int nc]))]) hP hD [] [0] rfl rfl (by decide) (by decide) hk1 hFc ht hB
  generalize H1 = H at hP hS ⊢
  clear ht hvm hB hz1 hk1 hPc hDc hKc hFc
  have hP : va_P (dC, dI) vwCl [(h0, .inr (5, [.int tol, .ref a1, .ref a2, .ref a3, .ref a4, .ref a5, .int fc, .long le, .long cal, .int inf, .int nib, .int nc]))] H := hP
  have hD : va_D A [(h0, .inr (5, [.int tol, .ref a1, .ref a2, .ref a3, .ref a4, .ref a5, .int fc, .long le, .long cal, .int inf, .int nib, .int nc]))] := hD
  refine W.widen (k := 0) (n := 0) (Nat.le_of_ble_eq_true rfl) (Nat.le_of_ble_eq_true rfl) ?_
  refine lv_iconst (v := 1) hx hb dX4_parity_4 (by decide) ?_
  refine lv_iand hx hb dX4_parity_5 ?_
  have hP9 : va_P (dC, dI) vwCl [(h0, .inr (5, [.int tol, .ref a1, .ref a2, .ref a3, .ref a4, .ref a5, .int fc, .long le, .long cal, .int inf, .int nib, .int nc]))] H := by exact hP.sub [0] rfl
  have hD9 : va_D A [(h0, .inr (5, [.int tol, .ref a1, .ref a2, .ref a3, .ref a4, .ref a5, .int fc, .long le, .long cal, .int inf, .int nib, .int nc]))] := by exact hD.sub [0] (by decide) rfl
  have e_2 : (J6_bitCount_0f7a4_r wd) &&& 1 = X4_parity_r wd := by rw [X4_parity_r]
  exact W.iret (v := (J6_bitCount_0f7a4_r wd) &&& 1) hx hb hr (fun t ht hW => ⟨⟨_, (), rfl, e_2, po.ret ht hW hP9 hK hD9⟩, hS.F ht⟩) hS.2.2 dX4_parity_6
def X4_bounce_state (sta : Int32) (lvl : Int32) (snc : Int64) (tld : Int64) (lev : Int32) (tm : Int64) : Int32 := if (X4_isOutsideTime_r tm) = 0 then (if (X0_lastTime_r tld) ≤ tm then (X0_tell_state sta lvl snc lev tm) else sta) else sta
def X4_bounce_lastLevel (lvl : Int32) (tld : Int64) (lev : Int32) (tm : Int64) : Int32 := if (X4_isOutsideTime_r tm) = 0 then (if (X0_lastTime_r tld) ≤ tm then (X0_tell_lastLevel lvl lev) else lvl) else lvl
def X4_bounce_levelSince (lvl : Int32) (snc : Int64) (tld : Int64) (lev : Int32) (tm : Int64) : Int64 := if (X4_isOutsideTime_r tm) = 0 then (if (X0_lastTime_r tld) ≤ tm then (X0_tell_levelSince lvl snc lev tm) else snc) else snc
def X4_bounce_toldLast (tld : Int64) (tm : Int64) : Int64 := if (X4_isOutsideTime_r tm) = 0 then (if (X0_lastTime_r tld) ≤ tm then (X0_tell_toldLast tm) else tld) else tld
def X4_bounce_r (sta : Int32) (lvl : Int32) (snc : Int64) (tld : Int64) (lev : Int32) (tm : Int64) : Int32 := if (X4_isOutsideTime_r tm) = 0 then (if (X0_lastTime_r tld) ≤ tm then (if (X0_tell_r sta lvl snc lev tm) = 0 then 0 else 1) else (-2)) else (-2)
set_option maxHeartbeats 4000000 in
set_option maxRecDepth 100000 in
theorem k_X4_bounce (l : Launch) (dC : Nat → ClassId) (dI : Nat → Nat → Nat) (sz : Nat) (h0 : Nat) (tol : Int32) (a1 : Nat) (a2 : Nat) (a3 : Nat) (a4 : Nat) (a5 : Nat) (fc : Int32) (le : Int64) (cal : Int64) (inf : Int32) (nib : Int32) (nc : Int32) (sta : Int32) (lvl : Int32) (snc : Int64) (tld : Int64) (lev : Int32) (tm : Int64) (hz_lev : z01 lev) : Met l yX4_bounce wsX4_bounce ({ frames := 1, cells := 0, slots := 0, locals := 23 }) (va_Pc [.ref h0, .int lev, .long tm] (pr (dC, dI) [] [(h0, .inr (5, [.int tol, .ref a1, .ref a2, .ref a3, .ref a4, .ref a5, .int fc, .long le, .long cal, .int inf, .int nib, .int nc])), (a3, .inr (1, [.int sta, .int lvl, .long snc, .long tld]))] sz)) (va_Qi (fun (r : Int32) (_ : Unit) => r = X4_bounce_r sta lvl snc tld lev tm) (fun _ t => po (dC, dI) [] (va_A [(h0, .inr (5, [.int tol, .ref a1, .ref a2, .ref a3, .ref a4, .ref a5, .int fc, .long le, .long cal, .int inf, .int nib, .int nc])), (a3, .inr (1, [.int sta, .int lvl, .long snc, .long tld]))] sz) [(h0, .inr (5, [.int tol, .ref a1, .ref a2, .ref a3, .ref a4, .ref a5, .int fc, .long le, .long cal, .int inf, .int nib, .int nc])), (a3, .inr (1, [.int (X4_bounce_state sta lvl snc tld lev tm), .int (X4_bounce_lastLevel lvl tld lev tm), .long (X4_bounce_levelSince lvl snc tld lev tm), .long (X4_bounce_toldLast tld tm)]))] t) (va_A [(h0, .inr (5, [.int tol, .ref a1, .ref a2, .ref a3, .ref a4, .ref a5, .int fc, .long le, .long cal, .int inf, .int nib, .int nc])), (a3, .inr (1, [.int sta, .int lvl, .long snc, .long tld]))] sz)) 0 0 (va_A [(h0, .inr (5, [.int tol, .ref a1, .ref a2, .ref a3, .ref a4, .ref a5, .int fc, .long le, .long cal, .int inf, .int nib, .int nc])), (a3, .inr (1, [.int sta, .int lvl, .long snc, .long tld]))] sz) := by
  refine Met.ofW (cc := cX4_bounce) (maxL := 4) (ret := (some .int)) (by decide) rfl ?_
  intro p e s m args below meth c s₁ B hml hv
  obtain ⟨rfl, hsz, hP, hK, hD0⟩ := hv
  have hx := B.exec
  have hb := B.bytes
  have hr := B.returns
  have hts := atoms_spec (ws := wsX4_bounce) B.pre
  have hown : s.vm.findClass RX4 = some m.cls := findClass_of_methodNamed B.named
  have hlocks := B.notSynchronized
  subst hsz
  have hD := hD0.self (sz := s.heap.size)
  generalize hAe : va_A [(h0, .inr (5, [.int tol, .ref a1, .ref a2, .ref a3, .ref a4, .ref a5, .int fc, .long le, .long cal, .int inf, .int nib, .int nc])), (a3, .inr (1, [.int sta, .int lvl, .long snc, .long tld]))] s.heap.size = A at hD ⊢
  have hA : ∀ q : Nat, s.heap.size ≤ q → A q := fun q h => by rw [← hAe]; exact Or.inr h
  have hS : va_S A s.heap s.heap [] := va_S.rf
  have hP : va_P (dC, dI) vwCl [(h0, .inr (5, [.int tol, .ref a1, .ref a2, .ref a3, .ref a4, .ref a5, .int fc, .long le, .long cal, .int inf, .int nib, .int nc])), (a3, .inr (1, [.int sta, .int lvl, .long snc, .long tld]))] s.heap := hP
  have iX4 : ∀ w ∈ wsX40, w ∈ wsX4_bounce := by decide +kernel
  have hl := lv_entry ([.ref h0, .int lev, .long tm]) (n := 4) (Nat.le_of_ble_eq_true rfl)
  rw [lg_entry_eq]
  generalize (lg_sl ([.ref h0, .int lev, .long tm]) ++ List.replicate (4 - (lg_sl ([.ref h0, .int lev, .long tm])).length) Slot.unset).toArray = ls at hl ⊢
  have hl : lv_has ls 4 [(0, .ref h0), (1, .int lev), (2, .long tm)] := hl
  refine lv_lload_n hx hb dX4_bounce_0 rfl (lv_at hl 2 rfl) ?_
  have hPc := hP.sub (ws' := []) [] rfl
  have hDc := hD.sub (ws' := []) [] (by decide) rfl
  have hKc := hK.sub (tys' := []) [] rfl
  have hFc := va_free (wc := []) hD hS hA [] rfl
  refine va_calli (va_runS (As := [.long tm]) (rest := []) ⟨hx, hb, hml, hown, hts⟩ (k_X4_isOutsideTime l dC dI s.heap.size tm) (va_cwS 1 hts gX4_bounce_X4_isOutsideTime rfl rfl rfl (by decide +kernel) ⟨Nat.le_of_ble_eq_true rfl, Nat.le_of_ble_eq_true rfl⟩) ⟨pr.blind, fun U hU hW => ⟨rfl, pr.call hU hW hPc hKc hDc⟩⟩ rfl rfl hl.1 rfl (lv_room (Nat.le_of_ble_eq_true rfl)) dX4_bounce_1 ⟨Nat.le_of_ble_eq_true rfl, Nat.le_of_ble_eq_true rfl⟩) hS (fun q _ h => hFc q h) hFc (fun r_1 u t H1 locs ht hvm hw hB hz1 hk1 hS => ?_)
  subst r_1
  obtain ⟨hP, hD⟩ := po.join (wr := [(h0, .inr (5, [.int tol, .ref a1, .ref a2, .ref a3, .ref a4, .ref a5, .int fc, .long le, .long cal, .int inf, .int nib, .int nc])), (a3, .inr (1, [.int sta, .int lvl, .long snc, .long tld]))]) hP hD [] [0, 1] rfl rfl (by decide) (by decide) hk1 hFc ht hB
  generalize H1 = H at hP hS ⊢
  clear ht hvm hB hz1 hk1 hPc hDc hKc hFc
  have hP : va_P (dC, dI) vwCl [(h0, .inr (5, [.int tol, .ref a1, .ref a2, .ref a3, .ref a4, .ref a5, .int fc, .long le, .long cal, .int inf, .int nib, .int nc])), (a3, .inr (1, [.int sta, .int lvl, .long snc, .long tld]))] H := hP
  have hD : va_D A [(h0, .inr (5, [.int tol, .ref a1, .ref a2, .ref a3, .ref a4, .ref a5, .int fc, .long le, .long cal, .int inf, .int nib, .int nc])), (a3, .inr (1, [.int sta, .int lvl, .long snc, .long tld]))] := hD
  refine W.widen (k := 0) (n := 0) (Nat.le_of_ble_eq_true rfl) (Nat.le_of_ble_eq_true rfl) ?_
  refine lv_if_ne (tgt := 19) hx hb dX4_bounce_4 (by decide) (fun c_2 => ?_) (fun c_2 => ?_)
  · refine lv_bipush (v := (-2)) hx hb dX4_bounce_19 (by decide) ?_
    have e_3 : sta = X4_bounce_state sta lvl snc tld lev tm := by rw [X4_bounce_state, if_neg c_2]
    have e_4 : lvl = X4_bounce_lastLevel lvl tld lev tm := by rw [X4_bounce_lastLevel, if_neg c_2]
    have e_5 : snc = X4_bounce_levelSince lvl snc tld lev tm := by rw [X4_bounce_levelSince, if_neg c_2]
    have e_6 : tld = X4_bounce_toldLast tld tm := by rw [X4_bounce_toldLast, if_neg c_2]
    have hP9 : va_P (dC, dI) vwCl [(h0, .inr (5, [.int tol, .ref a1, .ref a2, .ref a3, .ref a4, .ref a5, .int fc, .long le, .long cal, .int inf, .int nib, .int nc])), (a3, .inr (1, [.int (X4_bounce_state sta lvl snc tld lev tm), .int (X4_bounce_lastLevel lvl tld lev tm), .long (X4_bounce_levelSince lvl snc tld lev tm), .long (X4_bounce_toldLast tld tm)]))] H := by rw [← e_3, ← e_4, ← e_5, ← e_6]; exact hP.sub [0, 1] rfl
    have hD9 : va_D A [(h0, .inr (5, [.int tol, .ref a1, .ref a2, .ref a3, .ref a4, .ref a5, .int fc, .long le, .long cal, .int inf, .int nib, .int nc])), (a3, .inr (1, [.int (X4_bounce_state sta lvl snc tld lev tm), .int (X4_bounce_lastLevel lvl tld lev tm), .long (X4_bounce_levelSince lvl snc tld lev tm), .long (X4_bounce_toldLast tld tm)]))] := by rw [← e_3, ← e_4, ← e_5, ← e_6]; exact hD.sub [0, 1] (by decide) rfl
    have e_7 : ((-2) : Int32) = X4_bounce_r sta lvl snc tld lev tm := by rw [X4_bounce_r, if_neg c_2]
    exact W.iret (v := (-2)) hx hb hr (fun t ht hW => ⟨⟨_, (), rfl, e_7, po.ret ht hW hP9 hK hD9⟩, hS.F ht⟩) hS.2.2 dX4_bounce_21
  · refine lv_lload_n hx hb dX4_bounce_7 rfl (lv_at hl 2 rfl) ?_
    refine lv_aload_n hx hb dX4_bounce_8 rfl (lv_at hl 0 rfl) ?_
    refine va_get (D := (dC, dI)) (ci := 5) (v := .ref a3) (C := RX4) (T := TX4) (N := 12) hx hb hts iX4 hown hK hP 0 rfl rfl 3 (by decide) (hts (.fieldLink RX4 30 "PulseRows" "bouncingSwitch" "LPulseRows$BouncingSwitch;") (List.mem_of_getElem? (i := 1) rfl)) (fun _ h9 => h9) rfl dX4_bounce_9 ?_
    have hPc := hP.sub (ws' := [(a3, .inr (1, [.int sta, .int lvl, .long snc, .long tld]))]) [1] rfl
    have hDc := hD.sub (ws' := [(a3, .inr (1, [.int sta, .int lvl, .long snc, .long tld]))]) [1] (by decide) rfl
    have hKc := hK.sub (tys' := []) [] rfl
    have hFc := va_free (wc := [(a3, .inr (1, [.int sta, .int lvl, .long snc, .long tld]))]) hD hS hA [1] rfl
    refine va_calll (va_runV (As := []) (rest := [.long tm]) ⟨hx, hb, hml, hown, hts⟩ (k_X0_lastTime l dC dI H.size a3 sta lvl snc tld) (cwV 0 hts gX4_bounce_X0_lastTime rfl rfl rfl (by decide +kernel) ⟨Nat.le_of_ble_eq_true rfl, Nat.le_of_ble_eq_true rfl⟩) ⟨pr.blind, va_recv hKc hPc (ci := 1) (q0 := 0) rfl rfl, fun U hU hW => ⟨rfl, pr.call hU hW hPc hKc hDc⟩⟩ rfl rfl hl.1 rfl (lv_room (Nat.le_of_ble_eq_true rfl)) dX4_bounce_12 ⟨Nat.le_of_ble_eq_true rfl, Nat.le_of_ble_eq_true rfl⟩) hS (fun q _ h => hFc q h) hFc (fun r_8 u t H1 locs ht hvm hw hB hz1 hk1 hS => ?_)
    subst r_8
    obtain ⟨hP, hD⟩ := po.join (wr := [(h0, .inr (5, [.int tol, .ref a1, .ref a2, .ref a3, .ref a4, .ref a5, .int fc, .long le, .long cal, .int inf, .int nib, .int nc]))]) hP hD [1] [0] rfl rfl (by decide) (by decide) hk1 hFc ht hB
    generalize H1 = H at hP hS ⊢
    clear ht hvm hB hz1 hk1 hPc hDc hKc hFc
    have hP : va_P (dC, dI) vwCl [(h0, .inr (5, [.int tol, .ref a1, .ref a2, .ref a3, .ref a4, .ref a5, .int fc, .long le, .long cal, .int inf, .int nib, .int nc])), (a3, .inr (1, [.int sta, .int lvl, .long snc, .long tld]))] H := hP
    have hD : va_D A [(h0, .inr (5, [.int tol, .ref a1, .ref a2, .ref a3, .ref a4, .ref a5, .int fc, .long le, .long cal, .int inf, .int nib, .int nc])), (a3, .inr (1, [.int sta, .int lvl, .long snc, .long tld]))] := hD
    refine W.widen (k := 0) (n := 0) (Nat.le_of_ble_eq_true rfl) (Nat.le_of_ble_eq_true rfl) ?_
    refine W.lcmp hx hb dX4_bounce_15 ?_
    refine lv_if_ge (tgt := 22) hx hb dX4_bounce_16 (by decide) (fun c_9 => ?_) (fun c_9 => ?_)
    · rw [lg_cmp_ge] at c_9
      refine lv_aload_n hx hb dX4_bounce_22 rfl (lv_at hl 0 rfl) ?_
      refine va_get (D := (dC, dI)) (ci := 5) (v := .ref a3) (C := RX4) (T := TX4) (N := 12) hx hb hts iX4 hown hK hP 0 rfl rfl 3 (by decide) (hts (.fieldLink RX4 30 "PulseRows" "bouncingSwitch" "LPulseRows$BouncingSwitch;") (List.mem_of_getElem? (i := 1) rfl)) (fun _ h9 => h9) rfl dX4_bounce_23 ?_
      refine lv_iload_n hx hb dX4_bounce_26 rfl (lv_at hl 1 rfl) ?_
      refine lv_lload_n hx hb dX4_bounce_27 rfl (lv_at hl 2 rfl) ?_
      have hPc := hP.sub (ws' := [(a3, .inr (1, [.int sta, .int lvl, .long snc, .long tld]))]) [1] rfl
      have hDc := hD.sub (ws' := [(a3, .inr (1, [.int sta, .int lvl, .long snc, .long tld]))]) [1] (by decide) rfl
      have hKc := hK.sub (tys' := []) [] rfl
      have hFc := va_free (wc := [(a3, .inr (1, [.int sta, .int lvl, .long snc, .long tld]))]) hD hS hA [1] rfl
      refine va_calli (va_runV (As := [.int lev, .long tm]) (rest := []) ⟨hx, hb, hml, hown, hts⟩ (k_X0_tell l dC dI H.size a3 sta lvl snc tld lev tm (hz_lev)) (cwV 2 hts gX4_bounce_X0_tell rfl rfl rfl (by decide +kernel) ⟨Nat.le_of_ble_eq_true rfl, Nat.le_of_ble_eq_true rfl⟩) ⟨pr.blind, va_recv hKc hPc (ci := 1) (q0 := 0) rfl rfl, fun U hU hW => ⟨rfl, pr.call hU hW hPc hKc hDc⟩⟩ rfl rfl hl.1 rfl (lv_room (Nat.le_of_ble_eq_true rfl)) dX4_bounce_28 ⟨Nat.le_of_ble_eq_true rfl, Nat.le_of_ble_eq_true rfl⟩) hS (fun q _ h => hFc q h) hFc (fun r_10 u t H1 locs ht hvm hw hB hz1 hk1 hS => ?_)
      subst r_10
      obtain ⟨hP, hD⟩ := po.join (wr := [(h0, .inr (5, [.int tol, .ref a1, .ref a2, .ref a3, .ref a4, .ref a5, .int fc, .long le, .long cal, .int inf, .int nib, .int nc]))]) hP hD [1] [0] rfl rfl (by decide) (by decide) hk1 hFc ht hB
      generalize H1 = H at hP hS ⊢
      clear ht hvm hB hz1 hk1 hPc hDc hKc hFc
      have hP : va_P (dC, dI) vwCl [(h0, .inr (5, [.int tol, .ref a1, .ref a2, .ref a3, .ref a4, .ref a5, .int fc, .long le, .long cal, .int inf, .int nib, .int nc])), (a3, .inr (1, [.int (X0_tell_state sta lvl snc lev tm), .int (X0_tell_lastLevel lvl lev), .long (X0_tell_levelSince lvl snc lev tm), .long (X0_tell_toldLast tm)]))] H := hP
      have hD : va_D A [(h0, .inr (5, [.int tol, .ref a1, .ref a2, .ref a3, .ref a4, .ref a5, .int fc, .long le, .long cal, .int inf, .int nib, .int nc])), (a3, .inr (1, [.int (X0_tell_state sta lvl snc lev tm), .int (X0_tell_lastLevel lvl lev), .long (X0_tell_levelSince lvl snc lev tm), .long (X0_tell_toldLast tm)]))] := hD
      refine W.widen (k := 0) (n := 0) (Nat.le_of_ble_eq_true rfl) (Nat.le_of_ble_eq_true rfl) ?_
      refine lv_if_eq (tgt := 38) hx hb dX4_bounce_31 (by decide) (fun c_11 => ?_) (fun c_11 => ?_)
      · refine lv_iconst (v := 0) hx hb dX4_bounce_38 (by decide) ?_
        have e_12 : X0_tell_state sta lvl snc lev tm = X4_bounce_state sta lvl snc tld lev tm := by rw [X4_bounce_state, if_pos c_2, if_pos c_9]
        have e_13 : X0_tell_lastLevel lvl lev = X4_bounce_lastLevel lvl tld lev tm := by rw [X4_bounce_lastLevel, if_pos c_2, if_pos c_9]
        have e_14 : X0_tell_levelSince lvl snc lev tm = X4_bounce_levelSince lvl snc tld lev tm := by rw [X4_bounce_levelSince, if_pos c_2, if_pos c_9]
        have e_15 : X0_tell_toldLast tm = X4_bounce_toldLast tld tm := by rw [X4_bounce_toldLast, if_pos c_2, if_pos c_9]
        have hP9 : va_P (dC, dI) vwCl [(h0, .inr (5, [.int tol, .ref a1, .ref a2, .ref a3, .ref a4, .ref a5, .int fc, .long le, .long cal, .int inf, .int nib, .int nc])), (a3, .inr (1, [.int (X4_bounce_state sta lvl snc tld lev tm), .int (X4_bounce_lastLevel lvl tld lev tm), .long (X4_bounce_levelSince lvl snc tld lev tm), .long (X4_bounce_toldLast tld tm)]))] H := by rw [← e_12, ← e_13, ← e_14, ← e_15]; exact hP.sub [0, 1] rfl
        have hD9 : va_D A [(h0, .inr (5, [.int tol, .ref a1, .ref a2, .ref a3, .ref a4, .ref a5, .int fc, .long le, .long cal, .int inf, .int nib, .int nc])), (a3, .inr (1, [.int (X4_bounce_state sta lvl snc tld lev tm), .int (X4_bounce_lastLevel lvl tld lev tm), .long (X4_bounce_levelSince lvl snc tld lev tm), .long (X4_bounce_toldLast tld tm)]))] := by rw [← e_12, ← e_13, ← e_14, ← e_15]; exact hD.sub [0, 1] (by decide) rfl
        have e_16 : (0 : Int32) = X4_bounce_r sta lvl snc tld lev tm := by rw [X4_bounce_r, if_pos c_2, if_pos c_9, if_pos c_11]
        exact W.iret (v := 0) hx hb hr (fun t ht hW => ⟨⟨_, (), rfl, e_16, po.ret ht hW hP9 hK hD9⟩, hS.F ht⟩) hS.2.2 dX4_bounce_39
      · refine lv_iconst (v := 1) hx hb dX4_bounce_34 (by decide) ?_
        refine lv_goto (tgt := 39) hx hb dX4_bounce_35 (by decide) ?_
        have e_17 : X0_tell_state sta lvl snc lev tm = X4_bounce_state sta lvl snc tld lev tm := by rw [X4_bounce_state, if_pos c_2, if_pos c_9]
        have e_18 : X0_tell_lastLevel lvl lev = X4_bounce_lastLevel lvl tld lev tm := by rw [X4_bounce_lastLevel, if_pos c_2, if_pos c_9]
        have e_19 : X0_tell_levelSince lvl snc lev tm = X4_bounce_levelSince lvl snc tld lev tm := by rw [X4_bounce_levelSince, if_pos c_2, if_pos c_9]
        have e_20 : X0_tell_toldLast tm = X4_bounce_toldLast tld tm := by rw [X4_bounce_toldLast, if_pos c_2, if_pos c_9]
        have hP9 : va_P (dC, dI) vwCl [(h0, .inr (5, [.int tol, .ref a1, .ref a2, .ref a3, .ref a4, .ref a5, .int fc, .long le, .long cal, .int inf, .int nib, .int nc])), (a3, .inr (1, [.int (X4_bounce_state sta lvl snc tld lev tm), .int (X4_bounce_lastLevel lvl tld lev tm), .long (X4_bounce_levelSince lvl snc tld lev tm), .long (X4_bounce_toldLast tld tm)]))] H := by rw [← e_17, ← e_18, ← e_19, ← e_20]; exact hP.sub [0, 1] rfl
        have hD9 : va_D A [(h0, .inr (5, [.int tol, .ref a1, .ref a2, .ref a3, .ref a4, .ref a5, .int fc, .long le, .long cal, .int inf, .int nib, .int nc])), (a3, .inr (1, [.int (X4_bounce_state sta lvl snc tld lev tm), .int (X4_bounce_lastLevel lvl tld lev tm), .long (X4_bounce_levelSince lvl snc tld lev tm), .long (X4_bounce_toldLast tld tm)]))] := by rw [← e_17, ← e_18, ← e_19, ← e_20]; exact hD.sub [0, 1] (by decide) rfl
        have e_21 : (1 : Int32) = X4_bounce_r sta lvl snc tld lev tm := by rw [X4_bounce_r, if_pos c_2, if_pos c_9, if_neg c_11]
        exact W.iret (v := 1) hx hb hr (fun t ht hW => ⟨⟨_, (), rfl, e_21, po.ret ht hW hP9 hK hD9⟩, hS.F ht⟩) hS.2.2 dX4_bounce_39
    · rw [lg_cmp_ge] at c_9
      refine lv_bipush (v := (-2)) hx hb dX4_bounce_19 (by decide) ?_
      have e_22 : sta = X4_bounce_state sta lvl snc tld lev tm := by rw [X4_bounce_state, if_pos c_2, if_neg c_9]
      have e_23 : lvl = X4_bounce_lastLevel lvl tld lev tm := by rw [X4_bounce_lastLevel, if_pos c_2, if_neg c_9]
      have e_24 : snc = X4_bounce_levelSince lvl snc tld lev tm := by rw [X4_bounce_levelSince, if_pos c_2, if_neg c_9]
      have e_25 : tld = X4_bounce_toldLast tld tm := by rw [X4_bounce_toldLast, if_pos c_2, if_neg c_9]
      have hP9 : va_P (dC, dI) vwCl [(h0, .inr (5, [.int tol, .ref a1, .ref a2, .ref a3, .ref a4, .ref a5, .int fc, .long le, .long cal, .int inf, .int nib, .int nc])), (a3, .inr (1, [.int (X4_bounce_state sta lvl snc tld lev tm), .int (X4_bounce_lastLevel lvl tld lev tm), .long (X4_bounce_levelSince lvl snc tld lev tm), .long (X4_bounce_toldLast tld tm)]))] H := by rw [← e_22, ← e_23, ← e_24, ← e_25]; exact hP.sub [0, 1] rfl
      have hD9 : va_D A [(h0, .inr (5, [.int tol, .ref a1, .ref a2, .ref a3, .ref a4, .ref a5, .int fc, .long le, .long cal, .int inf, .int nib, .int nc])), (a3, .inr (1, [.int (X4_bounce_state sta lvl snc tld lev tm), .int (X4_bounce_lastLevel lvl tld lev tm), .long (X4_bounce_levelSince lvl snc tld lev tm), .long (X4_bounce_toldLast tld tm)]))] := by rw [← e_22, ← e_23, ← e_24, ← e_25]; exact hD.sub [0, 1] (by decide) rfl
      have e_26 : ((-2) : Int32) = X4_bounce_r sta lvl snc tld lev tm := by rw [X4_bounce_r, if_pos c_2, if_neg c_9]
      exact W.iret (v := (-2)) hx hb hr (fun t ht hW => ⟨⟨_, (), rfl, e_26, po.ret ht hW hP9 hK hD9⟩, hS.F ht⟩) hS.2.2 dX4_bounce_21
def X4_faults_r (cnt : Int32) : Int32 := X1_total_r cnt
set_option maxHeartbeats 4000000 in
set_option maxRecDepth 100000 in
theorem k_X4_faults (l : Launch) (dC : Nat → ClassId) (dI : Nat → Nat → Nat) (sz : Nat) (h0 : Nat) (tol : Int32) (a1 : Nat) (a2 : Nat) (a3 : Nat) (a4 : Nat) (a5 : Nat) (fc : Int32) (le : Int64) (cal : Int64) (inf : Int32) (nib : Int32) (nc : Int32) (cnt : Int32) (str : Int32) (mk : Int32)  : Met l yX4_faults wsX4_faults ({ frames := 1, cells := 0, slots := 0, locals := 20 }) (va_Pc [.ref h0] (pr (dC, dI) [] [(h0, .inr (5, [.int tol, .ref a1, .ref a2, .ref a3, .ref a4, .ref a5, .int fc, .long le, .long cal, .int inf, .int nib, .int nc])), (a1, .inr (2, [.int cnt, .int str, .int mk]))] sz)) (va_Qi (fun (r : Int32) (_ : Unit) => r = X4_faults_r cnt) (fun _ t => po (dC, dI) [] (va_A [(h0, .inr (5, [.int tol, .ref a1, .ref a2, .ref a3, .ref a4, .ref a5, .int fc, .long le, .long cal, .int inf, .int nib, .int nc])), (a1, .inr (2, [.int cnt, .int str, .int mk]))] sz) [(h0, .inr (5, [.int tol, .ref a1, .ref a2, .ref a3, .ref a4, .ref a5, .int fc, .long le, .long cal, .int inf, .int nib, .int nc])), (a1, .inr (2, [.int cnt, .int str, .int mk]))] t) (va_A [(h0, .inr (5, [.int tol, .ref a1, .ref a2, .ref a3, .ref a4, .ref a5, .int fc, .long le, .long cal, .int inf, .int nib, .int nc])), (a1, .inr (2, [.int cnt, .int str, .int mk]))] sz)) 0 0 (va_A [(h0, .inr (5, [.int tol, .ref a1, .ref a2, .ref a3, .ref a4, .ref a5, .int fc, .long le, .long cal, .int inf, .int nib, .int nc])), (a1, .inr (2, [.int cnt, .int str, .int mk]))] sz) := by
  refine Met.ofW (cc := cX4_faults) (maxL := 1) (ret := (some .int)) (by decide) rfl ?_
  intro p e s m args below meth c s₁ B hml hv
  obtain ⟨rfl, hsz, hP, hK, hD0⟩ := hv
  have hx := B.exec
  have hb := B.bytes
  have hr := B.returns
  have hts := atoms_spec (ws := wsX4_faults) B.pre
  have hown : s.vm.findClass RX4 = some m.cls := findClass_of_methodNamed B.named
  have hlocks := B.notSynchronized
  subst hsz
  have hD := hD0.self (sz := s.heap.size)
  generalize hAe : va_A [(h0, .inr (5, [.int tol, .ref a1, .ref a2, .ref a3, .ref a4, .ref a5, .int fc, .long le, .long cal, .int inf, .int nib, .int nc])), (a1, .inr (2, [.int cnt, .int str, .int mk]))] s.heap.size = A at hD ⊢
  have hA : ∀ q : Nat, s.heap.size ≤ q → A q := fun q h => by rw [← hAe]; exact Or.inr h
  have hS : va_S A s.heap s.heap [] := va_S.rf
  have hP : va_P (dC, dI) vwCl [(h0, .inr (5, [.int tol, .ref a1, .ref a2, .ref a3, .ref a4, .ref a5, .int fc, .long le, .long cal, .int inf, .int nib, .int nc])), (a1, .inr (2, [.int cnt, .int str, .int mk]))] s.heap := hP
  have iX4 : ∀ w ∈ wsX40, w ∈ wsX4_faults := by decide +kernel
  have hl := lv_entry ([.ref h0]) (n := 1) (Nat.le_of_ble_eq_true rfl)
  rw [lg_entry_eq]
  generalize (lg_sl ([.ref h0]) ++ List.replicate (1 - (lg_sl ([.ref h0])).length) Slot.unset).toArray = ls at hl ⊢
  have hl : lv_has ls 1 [(0, .ref h0)] := hl
  refine lv_aload_n hx hb dX4_faults_0 rfl (lv_at hl 0 rfl) ?_
  refine va_get (D := (dC, dI)) (ci := 5) (v := .ref a1) (C := RX4) (T := TX4) (N := 12) hx hb hts iX4 hown hK hP 0 rfl rfl 1 (by decide) (hts (.fieldLink RX4 16 "PulseRows" "faultLog" "LPulseRows$FaultLog;") (List.mem_of_getElem? (i := 1) rfl)) (fun _ h9 => h9) rfl dX4_faults_1 ?_
  have hPc := hP.sub (ws' := [(a1, .inr (2, [.int cnt, .int str, .int mk]))]) [1] rfl
  have hDc := hD.sub (ws' := [(a1, .inr (2, [.int cnt, .int str, .int mk]))]) [1] (by decide) rfl
  have hKc := hK.sub (tys' := []) [] rfl
  have hFc := va_free (wc := [(a1, .inr (2, [.int cnt, .int str, .int mk]))]) hD hS hA [1] rfl
  refine va_calli (va_runV (As := []) (rest := []) ⟨hx, hb, hml, hown, hts⟩ (k_X1_total l dC dI s.heap.size a1 cnt str mk) (cwV 0 hts gX4_faults_X1_total rfl rfl rfl (by decide +kernel) ⟨Nat.le_of_ble_eq_true rfl, Nat.le_of_ble_eq_true rfl⟩) ⟨pr.blind, va_recv hKc hPc (ci := 2) (q0 := 0) rfl rfl, fun U hU hW => ⟨rfl, pr.call hU hW hPc hKc hDc⟩⟩ rfl rfl hl.1 rfl (lv_room (Nat.le_of_ble_eq_true rfl)) dX4_faults_4 ⟨Nat.le_of_ble_eq_true rfl, Nat.le_of_ble_eq_true rfl⟩) hS (fun q _ h => hFc q h) hFc (fun r_1 u t H1 locs ht hvm hw hB hz1 hk1 hS => ?_)
  subst r_1
  obtain ⟨hP, hD⟩ := po.join (wr := [(h0, .inr (5, [.int tol, .ref a1, .ref a2, .ref a3, .ref a4, .ref a5, .int fc, .long le, .long cal, .int inf, .int nib, .int nc]))]) hP hD [1] [0] rfl rfl (by decide) (by decide) hk1 hFc ht hB
  generalize H1 = H at hP hS ⊢
  clear ht hvm hB hz1 hk1 hPc hDc hKc hFc
  have hP : va_P (dC, dI) vwCl [(h0, .inr (5, [.int tol, .ref a1, .ref a2, .ref a3, .ref a4, .ref a5, .int fc, .long le, .long cal, .int inf, .int nib, .int nc])), (a1, .inr (2, [.int cnt, .int str, .int mk]))] H := hP
  have hD : va_D A [(h0, .inr (5, [.int tol, .ref a1, .ref a2, .ref a3, .ref a4, .ref a5, .int fc, .long le, .long cal, .int inf, .int nib, .int nc])), (a1, .inr (2, [.int cnt, .int str, .int mk]))] := hD
  refine W.widen (k := 0) (n := 0) (Nat.le_of_ble_eq_true rfl) (Nat.le_of_ble_eq_true rfl) ?_
  have hP9 : va_P (dC, dI) vwCl [(h0, .inr (5, [.int tol, .ref a1, .ref a2, .ref a3, .ref a4, .ref a5, .int fc, .long le, .long cal, .int inf, .int nib, .int nc])), (a1, .inr (2, [.int cnt, .int str, .int mk]))] H := by exact hP.sub [0, 1] rfl
  have hD9 : va_D A [(h0, .inr (5, [.int tol, .ref a1, .ref a2, .ref a3, .ref a4, .ref a5, .int fc, .long le, .long cal, .int inf, .int nib, .int nc])), (a1, .inr (2, [.int cnt, .int str, .int mk]))] := by exact hD.sub [0, 1] (by decide) rfl
  have e_2 : X1_total_r cnt = X4_faults_r cnt := by rw [X4_faults_r]
  exact W.iret (v := X1_total_r cnt) hx hb hr (fun t ht hW => ⟨⟨_, (), rfl, e_2, po.ret ht hW hP9 hK hD9⟩, hS.F ht⟩) hS.2.2 dX4_faults_7
def X4_marked_r (mk : Int32) : Int32 := X1_hasMark_r mk
theorem X4_marked_r_z (mk : Int32) (hz_mk : z01 mk) : z01 (X4_marked_r mk) := by unfold X4_marked_r; repeat (first | split | with_reducible assumption | with_reducible exact z01_0 | with_reducible exact z01_1 | with_reducible exact X0_tell_r_z _ _ _ _ _ (by assumption) | with_reducible exact X1_hasMark_r_z _ (by assumption) | with_reducible exact X3_moveTo_trackA_z _ (by assumption) | with_reducible exact X3_moveTo_trackB_z _ (by assumption) | with_reducible exact X3_moveTo_r_z _ _ _ _ (by assumption) (by assumption) | with_reducible exact X4_isOutsideTime_r_z _ | with_reducible exact X2_finishRow_r_z _ | with_reducible exact X2_take_r_z _ _ _ | with_reducible exact X4_isRight_r_z _ | with_reducible exact X4_isTaken_r_z _ _ _ | with_reducible exact X4_hasFrame_r_z _ _)
set_option maxHeartbeats 4000000 in
set_option maxRecDepth 100000 in
theorem k_X4_marked (l : Launch) (dC : Nat → ClassId) (dI : Nat → Nat → Nat) (sz : Nat) (h0 : Nat) (tol : Int32) (a1 : Nat) (a2 : Nat) (a3 : Nat) (a4 : Nat) (a5 : Nat) (fc : Int32) (le : Int64) (cal : Int64) (inf : Int32) (nib : Int32) (nc : Int32) (cnt : Int32) (str : Int32) (mk : Int32) (hz_mk : z01 mk) : Met l yX4_marked wsX4_marked ({ frames := 1, cells := 0, slots := 0, locals := 20 }) (va_Pc [.ref h0] (pr (dC, dI) [] [(h0, .inr (5, [.int tol, .ref a1, .ref a2, .ref a3, .ref a4, .ref a5, .int fc, .long le, .long cal, .int inf, .int nib, .int nc])), (a1, .inr (2, [.int cnt, .int str, .int mk]))] sz)) (va_Qi (fun (r : Int32) (_ : Unit) => r = X4_marked_r mk) (fun _ t => po (dC, dI) [] (va_A [(h0, .inr (5, [.int tol, .ref a1, .ref a2, .ref a3, .ref a4, .ref a5, .int fc, .long le, .long cal, .int inf, .int nib, .int nc])), (a1, .inr (2, [.int cnt, .int str, .int mk]))] sz) [(h0, .inr (5, [.int tol, .ref a1, .ref a2, .ref a3, .ref a4, .ref a5, .int fc, .long le, .long cal, .int inf, .int nib, .int nc])), (a1, .inr (2, [.int cnt, .int str, .int mk]))] t) (va_A [(h0, .inr (5, [.int tol, .ref a1, .ref a2, .ref a3, .ref a4, .ref a5, .int fc, .long le, .long cal, .int inf, .int nib, .int nc])), (a1, .inr (2, [.int cnt, .int str, .int mk]))] sz)) 0 0 (va_A [(h0, .inr (5, [.int tol, .ref a1, .ref a2, .ref a3, .ref a4, .ref a5, .int fc, .long le, .long cal, .int inf, .int nib, .int nc])), (a1, .inr (2, [.int cnt, .int str, .int mk]))] sz) := by
  refine Met.ofW (cc := cX4_marked) (maxL := 1) (ret := (some .boolean)) (by decide) rfl ?_
  intro p e s m args below meth c s₁ B hml hv
  obtain ⟨rfl, hsz, hP, hK, hD0⟩ := hv
  have hx := B.exec
  have hb := B.bytes
  have hr := B.returns
  have hts := atoms_spec (ws := wsX4_marked) B.pre
  have hown : s.vm.findClass RX4 = some m.cls := findClass_of_methodNamed B.named
  have hlocks := B.notSynchronized
  subst hsz
  have hD := hD0.self (sz := s.heap.size)
  generalize hAe : va_A [(h0, .inr (5, [.int tol, .ref a1, .ref a2, .ref a3, .ref a4, .ref a5, .int fc, .long le, .long cal, .int inf, .int nib, .int nc])), (a1, .inr (2, [.int cnt, .int str, .int mk]))] s.heap.size = A at hD ⊢
  have hA : ∀ q : Nat, s.heap.size ≤ q → A q := fun q h => by rw [← hAe]; exact Or.inr h
  have hS : va_S A s.heap s.heap [] := va_S.rf
  have hP : va_P (dC, dI) vwCl [(h0, .inr (5, [.int tol, .ref a1, .ref a2, .ref a3, .ref a4, .ref a5, .int fc, .long le, .long cal, .int inf, .int nib, .int nc])), (a1, .inr (2, [.int cnt, .int str, .int mk]))] s.heap := hP
  have iX4 : ∀ w ∈ wsX40, w ∈ wsX4_marked := by decide +kernel
  have hl := lv_entry ([.ref h0]) (n := 1) (Nat.le_of_ble_eq_true rfl)
  rw [lg_entry_eq]
  generalize (lg_sl ([.ref h0]) ++ List.replicate (1 - (lg_sl ([.ref h0])).length) Slot.unset).toArray = ls at hl ⊢
  have hl : lv_has ls 1 [(0, .ref h0)] := hl
  refine lv_aload_n hx hb dX4_marked_0 rfl (lv_at hl 0 rfl) ?_
  refine va_get (D := (dC, dI)) (ci := 5) (v := .ref a1) (C := RX4) (T := TX4) (N := 12) hx hb hts iX4 hown hK hP 0 rfl rfl 1 (by decide) (hts (.fieldLink RX4 16 "PulseRows" "faultLog" "LPulseRows$FaultLog;") (List.mem_of_getElem? (i := 1) rfl)) (fun _ h9 => h9) rfl dX4_marked_1 ?_
  have hPc := hP.sub (ws' := [(a1, .inr (2, [.int cnt, .int str, .int mk]))]) [1] rfl
  have hDc := hD.sub (ws' := [(a1, .inr (2, [.int cnt, .int str, .int mk]))]) [1] (by decide) rfl
  have hKc := hK.sub (tys' := []) [] rfl
  have hFc := va_free (wc := [(a1, .inr (2, [.int cnt, .int str, .int mk]))]) hD hS hA [1] rfl
  refine va_calli (va_runV (As := []) (rest := []) ⟨hx, hb, hml, hown, hts⟩ (k_X1_hasMark l dC dI s.heap.size a1 cnt str mk (hz_mk)) (cwV 0 hts gX4_marked_X1_hasMark rfl rfl rfl (by decide +kernel) ⟨Nat.le_of_ble_eq_true rfl, Nat.le_of_ble_eq_true rfl⟩) ⟨pr.blind, va_recv hKc hPc (ci := 2) (q0 := 0) rfl rfl, fun U hU hW => ⟨rfl, pr.call hU hW hPc hKc hDc⟩⟩ rfl rfl hl.1 rfl (lv_room (Nat.le_of_ble_eq_true rfl)) dX4_marked_4 ⟨Nat.le_of_ble_eq_true rfl, Nat.le_of_ble_eq_true rfl⟩) hS (fun q _ h => hFc q h) hFc (fun r_1 u t H1 locs ht hvm hw hB hz1 hk1 hS => ?_)
  subst r_1
  obtain ⟨hP, hD⟩ := po.join (wr := [(h0, .inr (5, [.int tol, .ref a1, .ref a2, .ref a3, .ref a4, .ref a5, .int fc, .long le, .long cal, .int inf, .int nib, .int nc]))]) hP hD [1] [0] rfl rfl (by decide) (by decide) hk1 hFc ht hB
  generalize H1 = H at hP hS ⊢
  clear ht hvm hB hz1 hk1 hPc hDc hKc hFc
  have hP : va_P (dC, dI) vwCl [(h0, .inr (5, [.int tol, .ref a1, .ref a2, .ref a3, .ref a4, .ref a5, .int fc, .long le, .long cal, .int inf, .int nib, .int nc])), (a1, .inr (2, [.int cnt, .int str, .int mk]))] H := hP
  have hD : va_D A [(h0, .inr (5, [.int tol, .ref a1, .ref a2, .ref a3, .ref a4, .ref a5, .int fc, .long le, .long cal, .int inf, .int nib, .int nc])), (a1, .inr (2, [.int cnt, .int str, .int mk]))] := hD
  refine W.widen (k := 0) (n := 0) (Nat.le_of_ble_eq_true rfl) (Nat.le_of_ble_eq_true rfl) ?_
  have hP9 : va_P (dC, dI) vwCl [(h0, .inr (5, [.int tol, .ref a1, .ref a2, .ref a3, .ref a4, .ref a5, .int fc, .long le, .long cal, .int inf, .int nib, .int nc])), (a1, .inr (2, [.int cnt, .int str, .int mk]))] H := by exact hP.sub [0, 1] rfl
  have hD9 : va_D A [(h0, .inr (5, [.int tol, .ref a1, .ref a2, .ref a3, .ref a4, .ref a5, .int fc, .long le, .long cal, .int inf, .int nib, .int nc])), (a1, .inr (2, [.int cnt, .int str, .int mk]))] := by exact hD.sub [0, 1] (by decide) rfl
  have e_2 : X1_hasMark_r mk = X4_marked_r mk := by rw [X4_marked_r]
  exact W.zret (v := X1_hasMark_r mk) hx hb hr (X1_hasMark_r_z mk hz_mk).nar (fun t ht hW => ⟨⟨_, (), rfl, e_2, po.ret ht hW hP9 hK hD9⟩, hS.F ht⟩) hS.2.2 dX4_marked_7
def X4_turn_count (cnt : Int32) (ta : Int32) (tbk : Int32) (pa : Int32) (pb : Int32) : Int32 := if (X3_moveTo_r ta tbk pa pb) = 0 then (X1_add_count cnt) else cnt
def X4_turn_streak (str : Int32) (ta : Int32) (tbk : Int32) (pa : Int32) (pb : Int32) : Int32 := if (X3_moveTo_r ta tbk pa pb) = 0 then (X1_add_streak str) else str
def X4_turn_mark (str : Int32) (mk : Int32) (ta : Int32) (tbk : Int32) (pa : Int32) (pb : Int32) : Int32 := if (X3_moveTo_r ta tbk pa pb) = 0 then (X1_add_mark str mk) else mk
def X4_turn_trackA (pa : Int32) : Int32 := X3_moveTo_trackA pa
def X4_turn_trackB (pb : Int32) : Int32 := X3_moveTo_trackB pb
def X4_turn_steps (ta : Int32) (tbk : Int32) (sp : Int32) (pa : Int32) (pb : Int32) : Int32 := X3_moveTo_steps ta tbk sp pa pb
def X4_turn_r (ta : Int32) (tbk : Int32) (sp : Int32) (pa : Int32) (pb : Int32) : Int32 := X3_position_r (X3_moveTo_steps ta tbk sp pa pb)
set_option maxHeartbeats 4000000 in
set_option maxRecDepth 100000 in
theorem k_X4_turn (l : Launch) (dC : Nat → ClassId) (dI : Nat → Nat → Nat) (sz : Nat) (h0 : Nat) (tol : Int32) (a1 : Nat) (a2 : Nat) (a3 : Nat) (a4 : Nat) (a5 : Nat) (fc : Int32) (le : Int64) (cal : Int64) (inf : Int32) (nib : Int32) (nc : Int32) (cnt : Int32) (str : Int32) (mk : Int32) (ta : Int32) (tbk : Int32) (sp : Int32) (pa : Int32) (pb : Int32) (hz_pa : z01 pa) (hz_pb : z01 pb) : Met l yX4_turn wsX4_turn ({ frames := 1, cells := 0, slots := 0, locals := 25 }) (va_Pc [.ref h0, .int pa, .int pb] (pr (dC, dI) [] [(h0, .inr (5, [.int tol, .ref a1, .ref a2, .ref a3, .ref a4, .ref a5, .int fc, .long le, .long cal, .int inf, .int nib, .int nc])), (a1, .inr (2, [.int cnt, .int str, .int mk])), (a4, .inr (4, [.int ta, .int tbk, .int sp]))] sz)) (va_Qi (fun (r : Int32) (_ : Unit) => r = X4_turn_r ta tbk sp pa pb) (fun _ t => po (dC, dI) [] (va_A [(h0, .inr (5, [.int tol, .ref a1, .ref a2, .ref a3, .ref a4, .ref a5, .int fc, .long le, .long cal, .int inf, .int nib, .int nc])), (a1, .inr (2, [.int cnt, .int str, .int mk])), (a4, .inr (4, [.int ta, .int tbk, .int sp]))] sz) [(h0, .inr (5, [.int tol, .ref a1, .ref a2, .ref a3, .ref a4, .ref a5, .int fc, .long le, .long cal, .int inf, .int nib, .int nc])), (a1, .inr (2, [.int (X4_turn_count cnt ta tbk pa pb), .int (X4_turn_streak str ta tbk pa pb), .int (X4_turn_mark str mk ta tbk pa pb)])), (a4, .inr (4, [.int (X4_turn_trackA pa), .int (X4_turn_trackB pb), .int (X4_turn_steps ta tbk sp pa pb)]))] t) (va_A [(h0, .inr (5, [.int tol, .ref a1, .ref a2, .ref a3, .ref a4, .ref a5, .int fc, .long le, .long cal, .int inf, .int nib, .int nc])), (a1, .inr (2, [.int cnt, .int str, .int mk])), (a4, .inr (4, [.int ta, .int tbk, .int sp]))] sz)) 0 0 (va_A [(h0, .inr (5, [.int tol, .ref a1, .ref a2, .ref a3, .ref a4, .ref a5, .int fc, .long le, .long cal, .int inf, .int nib, .int nc])), (a1, .inr (2, [.int cnt, .int str, .int mk])), (a4, .inr (4, [.int ta, .int tbk, .int sp]))] sz) := by
  refine Met.ofW (cc := cX4_turn) (maxL := 3) (ret := (some .int)) (by decide) rfl ?_
  intro p e s m args below meth c s₁ B hml hv
  obtain ⟨rfl, hsz, hP, hK, hD0⟩ := hv
  have hx := B.exec
  have hb := B.bytes
  have hr := B.returns
  have hts := atoms_spec (ws := wsX4_turn) B.pre
  have hown : s.vm.findClass RX4 = some m.cls := findClass_of_methodNamed B.named
  have hlocks := B.notSynchronized
  subst hsz
  have hD := hD0.self (sz := s.heap.size)
  generalize hAe : va_A [(h0, .inr (5, [.int tol, .ref a1, .ref a2, .ref a3, .ref a4, .ref a5, .int fc, .long le, .long cal, .int inf, .int nib, .int nc])), (a1, .inr (2, [.int cnt, .int str, .int mk])), (a4, .inr (4, [.int ta, .int tbk, .int sp]))] s.heap.size = A at hD ⊢
  have hA : ∀ q : Nat, s.heap.size ≤ q → A q := fun q h => by rw [← hAe]; exact Or.inr h
  have hS : va_S A s.heap s.heap [] := va_S.rf
  have hP : va_P (dC, dI) vwCl [(h0, .inr (5, [.int tol, .ref a1, .ref a2, .ref a3, .ref a4, .ref a5, .int fc, .long le, .long cal, .int inf, .int nib, .int nc])), (a1, .inr (2, [.int cnt, .int str, .int mk])), (a4, .inr (4, [.int ta, .int tbk, .int sp]))] s.heap := hP
  have iX4 : ∀ w ∈ wsX40, w ∈ wsX4_turn := by decide +kernel
  have hl := lv_entry ([.ref h0, .int pa, .int pb]) (n := 3) (Nat.le_of_ble_eq_true rfl)
  rw [lg_entry_eq]
  generalize (lg_sl ([.ref h0, .int pa, .int pb]) ++ List.replicate (3 - (lg_sl ([.ref h0, .int pa, .int pb])).length) Slot.unset).toArray = ls at hl ⊢
  have hl : lv_has ls 3 [(0, .ref h0), (1, .int pa), (2, .int pb)] := hl
  refine lv_aload_n hx hb dX4_turn_0 rfl (lv_at hl 0 rfl) ?_
  refine va_get (D := (dC, dI)) (ci := 5) (v := .ref a4) (C := RX4) (T := TX4) (N := 12) hx hb hts iX4 hown hK hP 0 rfl rfl 4 (by decide) (hts (.fieldLink RX4 37 "PulseRows" "wheel" "LPulseRows$Wheel;") (List.mem_of_getElem? (i := 1) rfl)) (fun _ h9 => h9) rfl dX4_turn_1 ?_
  refine lv_iload_n hx hb dX4_turn_4 rfl (lv_at hl 1 rfl) ?_
  refine lv_iload_n hx hb dX4_turn_5 rfl (lv_at hl 2 rfl) ?_
  have hPc := hP.sub (ws' := [(a4, .inr (4, [.int ta, .int tbk, .int sp]))]) [2] rfl
  have hDc := hD.sub (ws' := [(a4, .inr (4, [.int ta, .int tbk, .int sp]))]) [2] (by decide) rfl
  have hKc := hK.sub (tys' := []) [] rfl
  have hFc := va_free (wc := [(a4, .inr (4, [.int ta, .int tbk, .int sp]))]) hD hS hA [2] rfl
  refine va_calli (va_runV (As := [.int pa, .int pb]) (rest := []) ⟨hx, hb, hml, hown, hts⟩ (k_X3_moveTo l dC dI s.heap.size a4 ta tbk sp pa pb (hz_pa) (hz_pb)) (cwV 2 hts gX4_turn_X3_moveTo rfl rfl rfl (by decide +kernel) ⟨Nat.le_of_ble_eq_true rfl, Nat.le_of_ble_eq_true rfl⟩) ⟨pr.blind, va_recv hKc hPc (ci := 4) (q0 := 0) rfl rfl, fun U hU hW => ⟨rfl, pr.call hU hW hPc hKc hDc⟩⟩ rfl rfl hl.1 rfl (lv_room (Nat.le_of_ble_eq_true rfl)) dX4_turn_6 ⟨Nat.le_of_ble_eq_true rfl, Nat.le_of_ble_eq_true rfl⟩) hS (fun q _ h => hFc q h) hFc (fun r_1 u t H1 locs ht hvm hw hB hz1 hk1 hS => ?_)
  subst r_1
  obtain ⟨hP, hD⟩ := po.join (wr := [(h0, .inr (5, [.int tol, .ref a1, .ref a2, .ref a3, .ref a4, .ref a5, .int fc, .long le, .long cal, .int inf, .int nib, .int nc])), (a1, .inr (2, [.int cnt, .int str, .int mk]))]) hP hD [2] [0, 1] rfl rfl (by decide) (by decide) hk1 hFc ht hB
  generalize H1 = H at hP hS ⊢
  clear ht hvm hB hz1 hk1 hPc hDc hKc hFc
  have hP : va_P (dC, dI) vwCl [(h0, .inr (5, [.int tol, .ref a1, .ref a2, .ref a3, .ref a4, .ref a5, .int fc, .long le, .long cal, .int inf, .int nib, .int nc])), (a1, .inr (2, [.int cnt, .int str, .int mk])), (a4, .inr (4, [.int (X3_moveTo_trackA pa), .int (X3_moveTo_trackB pb), .int (X3_moveTo_steps ta tbk sp pa pb)]))] H := hP
  have hD : va_D A [(h0, .inr (5, [.int tol, .ref a1, .ref a2, .ref a3, .ref a4, .ref a5, .int fc, .long le, .long cal, .int inf, .int nib, .int nc])), (a1, .inr (2, [.int cnt, .int str, .int mk])), (a4, .inr (4, [.int (X3_moveTo_trackA pa), .int (X3_moveTo_trackB pb), .int (X3_moveTo_steps ta tbk sp pa pb)]))] := hD
  refine W.widen (k := 0) (n := 0) (Nat.le_of_ble_eq_true rfl) (Nat.le_of_ble_eq_true rfl) ?_
  refine lv_if_ne (tgt := 19) hx hb dX4_turn_9 (by decide) (fun c_2 => ?_) (fun c_2 => ?_)
  · refine lv_aload_n hx hb dX4_turn_19 rfl (lv_at hl 0 rfl) ?_
    refine va_get (D := (dC, dI)) (ci := 5) (v := .ref a4) (C := RX4) (T := TX4) (N := 12) hx hb hts iX4 hown hK hP 0 rfl rfl 4 (by decide) (hts (.fieldLink RX4 37 "PulseRows" "wheel" "LPulseRows$Wheel;") (List.mem_of_getElem? (i := 1) rfl)) (fun _ h9 => h9) rfl dX4_turn_20 ?_
    have hPc := hP.sub (ws' := [(a4, .inr (4, [.int (X3_moveTo_trackA pa), .int (X3_moveTo_trackB pb), .int (X3_moveTo_steps ta tbk sp pa pb)]))]) [2] rfl
    have hDc := hD.sub (ws' := [(a4, .inr (4, [.int (X3_moveTo_trackA pa), .int (X3_moveTo_trackB pb), .int (X3_moveTo_steps ta tbk sp pa pb)]))]) [2] (by decide) rfl
    have hKc := hK.sub (tys' := []) [] rfl
    have hFc := va_free (wc := [(a4, .inr (4, [.int (X3_moveTo_trackA pa), .int (X3_moveTo_trackB pb), .int (X3_moveTo_steps ta tbk sp pa pb)]))]) hD hS hA [2] rfl
    refine va_calli (va_runV (As := []) (rest := []) ⟨hx, hb, hml, hown, hts⟩ (k_X3_position l dC dI H.size a4 (X3_moveTo_trackA pa) (X3_moveTo_trackB pb) (X3_moveTo_steps ta tbk sp pa pb)) (cwV 0 hts gX4_turn_X3_position rfl rfl rfl (by decide +kernel) ⟨Nat.le_of_ble_eq_true rfl, Nat.le_of_ble_eq_true rfl⟩) ⟨pr.blind, va_recv hKc hPc (ci := 4) (q0 := 0) rfl rfl, fun U hU hW => ⟨rfl, pr.call hU hW hPc hKc hDc⟩⟩ rfl rfl hl.1 rfl (lv_room (Nat.le_of_ble_eq_true rfl)) dX4_turn_23 ⟨Nat.le_of_ble_eq_true rfl, Nat.le_of_ble_eq_true rfl⟩) hS (fun q _ h => hFc q h) hFc (fun r_3 u t H1 locs ht hvm hw hB hz1 hk1 hS => ?_)
    subst r_3
    obtain ⟨hP, hD⟩ := po.join (wr := [(h0, .inr (5, [.int tol, .ref a1, .ref a2, .ref a3, .ref a4, .ref a5, .int fc, .long le, .long cal, .int inf, .int nib, .int nc])), (a1, .inr (2, [.int cnt, .int str, .int mk]))]) hP hD [2] [0, 1] rfl rfl (by decide) (by decide) hk1 hFc ht hB
    generalize H1 = H at hP hS ⊢
    clear ht hvm hB hz1 hk1 hPc hDc hKc hFc
    have hP : va_P (dC, dI) vwCl [(h0, .inr (5, [.int tol, .ref a1, .ref a2, .ref a3, .ref a4, .ref a5, .int fc, .long le, .long cal, .int inf, .int nib, .int nc])), (a1, .inr (2, [.int cnt, .int str, .int mk])), (a4, .inr (4, [.int (X3_moveTo_trackA pa), .int (X3_moveTo_trackB pb), .int (X3_moveTo_steps ta tbk sp pa pb)]))] H := hP
    have hD : va_D A [(h0, .inr (5, [.int tol, .ref a1, .ref a2, .ref a3, .ref a4, .ref a5, .int fc, .long le, .long cal, .int inf, .int nib, .int nc])), (a1, .inr (2, [.int cnt, .int str, .int mk])), (a4, .inr (4, [.int (X3_moveTo_trackA pa), .int (X3_moveTo_trackB pb), .int (X3_moveTo_steps ta tbk sp pa pb)]))] := hD
    refine W.widen (k := 0) (n := 0) (Nat.le_of_ble_eq_true rfl) (Nat.le_of_ble_eq_true rfl) ?_
    have e_4 : cnt = X4_turn_count cnt ta tbk pa pb := by rw [X4_turn_count, if_neg c_2]
    have e_5 : str = X4_turn_streak str ta tbk pa pb := by rw [X4_turn_streak, if_neg c_2]
    have e_6 : mk = X4_turn_mark str mk ta tbk pa pb := by rw [X4_turn_mark, if_neg c_2]
    have e_7 : X3_moveTo_trackA pa = X4_turn_trackA pa := by rw [X4_turn_trackA]
    have e_8 : X3_moveTo_trackB pb = X4_turn_trackB pb := by rw [X4_turn_trackB]
    have e_9 : X3_moveTo_steps ta tbk sp pa pb = X4_turn_steps ta tbk sp pa pb := by rw [X4_turn_steps]
    have hP9 : va_P (dC, dI) vwCl [(h0, .inr (5, [.int tol, .ref a1, .ref a2, .ref a3, .ref a4, .ref a5, .int fc, .long le, .long cal, .int inf, .int nib, .int nc])), (a1, .inr (2, [.int (X4_turn_count cnt ta tbk pa pb), .int (X4_turn_streak str ta tbk pa pb), .int (X4_turn_mark str mk ta tbk pa pb)])), (a4, .inr (4, [.int (X4_turn_trackA pa), .int (X4_turn_trackB pb), .int (X4_turn_steps ta tbk sp pa pb)]))] H := by rw [← e_4, ← e_5, ← e_6, ← e_7, ← e_8, ← e_9]; exact hP.sub [0, 1, 2] rfl
    have hD9 : va_D A [(h0, .inr (5, [.int tol, .ref a1, .ref a2, .ref a3, .ref a4, .ref a5, .int fc, .long le, .long cal, .int inf, .int nib, .int nc])), (a1, .inr (2, [.int (X4_turn_count cnt ta tbk pa pb), .int (X4_turn_streak str ta tbk pa pb), .int (X4_turn_mark str mk ta tbk pa pb)])), (a4, .inr (4, [.int (X4_turn_trackA pa), .int (X4_turn_trackB pb), .int (X4_turn_steps ta tbk sp pa pb)]))] := by rw [← e_4, ← e_5, ← e_6, ← e_7, ← e_8, ← e_9]; exact hD.sub [0, 1, 2] (by decide) rfl
    have e_10 : X3_position_r (X3_moveTo_steps ta tbk sp pa pb) = X4_turn_r ta tbk sp pa pb := by rw [X4_turn_r]
    exact W.iret (v := X3_position_r (X3_moveTo_steps ta tbk sp pa pb)) hx hb hr (fun t ht hW => ⟨⟨_, (), rfl, e_10, po.ret ht hW hP9 hK hD9⟩, hS.F ht⟩) hS.2.2 dX4_turn_26
  · refine lv_aload_n hx hb dX4_turn_12 rfl (lv_at hl 0 rfl) ?_
    refine va_get (D := (dC, dI)) (ci := 5) (v := .ref a1) (C := RX4) (T := TX4) (N := 12) hx hb hts iX4 hown hK hP 0 rfl rfl 1 (by decide) (hts (.fieldLink RX4 16 "PulseRows" "faultLog" "LPulseRows$FaultLog;") (List.mem_of_getElem? (i := 2) rfl)) (fun _ h9 => h9) rfl dX4_turn_13 ?_
    have hPc := hP.sub (ws' := [(a1, .inr (2, [.int cnt, .int str, .int mk]))]) [1] rfl
    have hDc := hD.sub (ws' := [(a1, .inr (2, [.int cnt, .int str, .int mk]))]) [1] (by decide) rfl
    have hKc := hK.sub (tys' := []) [] rfl
    have hFc := va_free (wc := [(a1, .inr (2, [.int cnt, .int str, .int mk]))]) hD hS hA [1] rfl
    refine va_callv (va_runV (As := []) (rest := []) ⟨hx, hb, hml, hown, hts⟩ (k_X1_add l dC dI H.size a1 cnt str mk) (cwV 0 hts gX4_turn_X1_add rfl rfl rfl (by decide +kernel) ⟨Nat.le_of_ble_eq_true rfl, Nat.le_of_ble_eq_true rfl⟩) ⟨pr.blind, va_recv hKc hPc (ci := 2) (q0 := 0) rfl rfl, fun U hU hW => ⟨rfl, pr.call hU hW hPc hKc hDc⟩⟩ rfl rfl hl.1 rfl (lv_room (Nat.le_of_ble_eq_true rfl)) dX4_turn_16 ⟨Nat.le_of_ble_eq_true rfl, Nat.le_of_ble_eq_true rfl⟩) hS (fun q _ h => hFc q h) hFc (fun u t H1 locs ht hvm hw hB hz1 hk1 hS => ?_)
    obtain ⟨hP, hD⟩ := po.join (wr := [(h0, .inr (5, [.int tol, .ref a1, .ref a2, .ref a3, .ref a4, .ref a5, .int fc, .long le, .long cal, .int inf, .int nib, .int nc])), (a4, .inr (4, [.int (X3_moveTo_trackA pa), .int (X3_moveTo_trackB pb), .int (X3_moveTo_steps ta tbk sp pa pb)]))]) hP hD [1] [0, 2] rfl rfl (by decide) (by decide) hk1 hFc ht hB
    generalize H1 = H at hP hS ⊢
    clear ht hvm hB hz1 hk1 hPc hDc hKc hFc
    have hP : va_P (dC, dI) vwCl [(h0, .inr (5, [.int tol, .ref a1, .ref a2, .ref a3, .ref a4, .ref a5, .int fc, .long le, .long cal, .int inf, .int nib, .int nc])), (a4, .inr (4, [.int (X3_moveTo_trackA pa), .int (X3_moveTo_trackB pb), .int (X3_moveTo_steps ta tbk sp pa pb)])), (a1, .inr (2, [.int (X1_add_count cnt), .int (X1_add_streak str), .int (X1_add_mark str mk)]))] H := hP
    have hD : va_D A [(h0, .inr (5, [.int tol, .ref a1, .ref a2, .ref a3, .ref a4, .ref a5, .int fc, .long le, .long cal, .int inf, .int nib, .int nc])), (a4, .inr (4, [.int (X3_moveTo_trackA pa), .int (X3_moveTo_trackB pb), .int (X3_moveTo_steps ta tbk sp pa pb)])), (a1, .inr (2, [.int (X1_add_count cnt), .int (X1_add_streak str), .int (X1_add_mark str mk)]))] := hD
    refine W.widen (k := 0) (n := 0) (Nat.le_of_ble_eq_true rfl) (Nat.le_of_ble_eq_true rfl) ?_
    refine lv_aload_n hx hb dX4_turn_19 rfl (lv_at hl 0 rfl) ?_
    refine va_get (D := (dC, dI)) (ci := 5) (v := .ref a4) (C := RX4) (T := TX4) (N := 12) hx hb hts iX4 hown hK hP 0 rfl rfl 4 (by decide) (hts (.fieldLink RX4 37 "PulseRows" "wheel" "LPulseRows$Wheel;") (List.mem_of_getElem? (i := 1) rfl)) (fun _ h9 => h9) rfl dX4_turn_20 ?_
    have hPc := hP.sub (ws' := [(a4, .inr (4, [.int (X3_moveTo_trackA pa), .int (X3_moveTo_trackB pb), .int (X3_moveTo_steps ta tbk sp pa pb)]))]) [1] rfl
    have hDc := hD.sub (ws' := [(a4, .inr (4, [.int (X3_moveTo_trackA pa), .int (X3_moveTo_trackB pb), .int (X3_moveTo_steps ta tbk sp pa pb)]))]) [1] (by decide) rfl
    have hKc := hK.sub (tys' := []) [] rfl
    have hFc := va_free (wc := [(a4, .inr (4, [.int (X3_moveTo_trackA pa), .int (X3_moveTo_trackB pb), .int (X3_moveTo_steps ta tbk sp pa pb)]))]) hD hS hA [1] rfl
    refine va_calli (va_runV (As := []) (rest := []) ⟨hx, hb, hml, hown, hts⟩ (k_X3_position l dC dI H.size a4 (X3_moveTo_trackA pa) (X3_moveTo_trackB pb) (X3_moveTo_steps ta tbk sp pa pb)) (cwV 0 hts gX4_turn_X3_position rfl rfl rfl (by decide +kernel) ⟨Nat.le_of_ble_eq_true rfl, Nat.le_of_ble_eq_true rfl⟩) ⟨pr.blind, va_recv hKc hPc (ci := 4) (q0 := 0) rfl rfl, fun U hU hW => ⟨rfl, pr.call hU hW hPc hKc hDc⟩⟩ rfl rfl hl.1 rfl (lv_room (Nat.le_of_ble_eq_true rfl)) dX4_turn_23 ⟨Nat.le_of_ble_eq_true rfl, Nat.le_of_ble_eq_true rfl⟩) hS (fun q _ h => hFc q h) hFc (fun r_12 u t H1 locs ht hvm hw hB hz1 hk1 hS => ?_)
    subst r_12
    obtain ⟨hP, hD⟩ := po.join (wr := [(h0, .inr (5, [.int tol, .ref a1, .ref a2, .ref a3, .ref a4, .ref a5, .int fc, .long le, .long cal, .int inf, .int nib, .int nc])), (a1, .inr (2, [.int (X1_add_count cnt), .int (X1_add_streak str), .int (X1_add_mark str mk)]))]) hP hD [1] [0, 2] rfl rfl (by decide) (by decide) hk1 hFc ht hB
    generalize H1 = H at hP hS ⊢
    clear ht hvm hB hz1 hk1 hPc hDc hKc hFc
    have hP : va_P (dC, dI) vwCl [(h0, .inr (5, [.int tol, .ref a1, .ref a2, .ref a3, .ref a4, .ref a5, .int fc, .long le, .long cal, .int inf, .int nib, .int nc])), (a1, .inr (2, [.int (X1_add_count cnt), .int (X1_add_streak str), .int (X1_add_mark str mk)])), (a4, .inr (4, [.int (X3_moveTo_trackA pa), .int (X3_moveTo_trackB pb), .int (X3_moveTo_steps ta tbk sp pa pb)]))] H := hP
    have hD : va_D A [(h0, .inr (5, [.int tol, .ref a1, .ref a2, .ref a3, .ref a4, .ref a5, .int fc, .long le, .long cal, .int inf, .int nib, .int nc])), (a1, .inr (2, [.int (X1_add_count cnt), .int (X1_add_streak str), .int (X1_add_mark str mk)])), (a4, .inr (4, [.int (X3_moveTo_trackA pa), .int (X3_moveTo_trackB pb), .int (X3_moveTo_steps ta tbk sp pa pb)]))] := hD
    refine W.widen (k := 0) (n := 0) (Nat.le_of_ble_eq_true rfl) (Nat.le_of_ble_eq_true rfl) ?_
    have e_13 : X1_add_count cnt = X4_turn_count cnt ta tbk pa pb := by rw [X4_turn_count, if_pos c_2]
    have e_14 : X1_add_streak str = X4_turn_streak str ta tbk pa pb := by rw [X4_turn_streak, if_pos c_2]
    have e_15 : X1_add_mark str mk = X4_turn_mark str mk ta tbk pa pb := by rw [X4_turn_mark, if_pos c_2]
    have e_16 : X3_moveTo_trackA pa = X4_turn_trackA pa := by rw [X4_turn_trackA]
    have e_17 : X3_moveTo_trackB pb = X4_turn_trackB pb := by rw [X4_turn_trackB]
    have e_18 : X3_moveTo_steps ta tbk sp pa pb = X4_turn_steps ta tbk sp pa pb := by rw [X4_turn_steps]
    have hP9 : va_P (dC, dI) vwCl [(h0, .inr (5, [.int tol, .ref a1, .ref a2, .ref a3, .ref a4, .ref a5, .int fc, .long le, .long cal, .int inf, .int nib, .int nc])), (a1, .inr (2, [.int (X4_turn_count cnt ta tbk pa pb), .int (X4_turn_streak str ta tbk pa pb), .int (X4_turn_mark str mk ta tbk pa pb)])), (a4, .inr (4, [.int (X4_turn_trackA pa), .int (X4_turn_trackB pb), .int (X4_turn_steps ta tbk sp pa pb)]))] H := by rw [← e_13, ← e_14, ← e_15, ← e_16, ← e_17, ← e_18]; exact hP.sub [0, 1, 2] rfl
    have hD9 : va_D A [(h0, .inr (5, [.int tol, .ref a1, .ref a2, .ref a3, .ref a4, .ref a5, .int fc, .long le, .long cal, .int inf, .int nib, .int nc])), (a1, .inr (2, [.int (X4_turn_count cnt ta tbk pa pb), .int (X4_turn_streak str ta tbk pa pb), .int (X4_turn_mark str mk ta tbk pa pb)])), (a4, .inr (4, [.int (X4_turn_trackA pa), .int (X4_turn_trackB pb), .int (X4_turn_steps ta tbk sp pa pb)]))] := by rw [← e_13, ← e_14, ← e_15, ← e_16, ← e_17, ← e_18]; exact hD.sub [0, 1, 2] (by decide) rfl
    have e_19 : X3_position_r (X3_moveTo_steps ta tbk sp pa pb) = X4_turn_r ta tbk sp pa pb := by rw [X4_turn_r]
    exact W.iret (v := X3_position_r (X3_moveTo_steps ta tbk sp pa pb)) hx hb hr (fun t ht hW => ⟨⟨_, (), rfl, e_19, po.ret ht hW hP9 hK hD9⟩, hS.F ht⟩) hS.2.2 dX4_turn_26
