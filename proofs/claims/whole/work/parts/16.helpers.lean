def wLN : List Cond := wsL_nibble ++ (.classLink RL 13 eN :: (vx_atS RX4 80 eN nsN).filter goodWord)
set_option maxRecDepth 20000 in
theorem gLN : GoodIn wLN (wsV RL 7 RX4 yX4_nibble wN) := goodIn_of _ (by decide +kernel)
set_option maxRecDepth 20000 in
theorem gLC : GoodIn wsL_calibrate (wsV RL 15 RX4 yX4_calibrate wsX4_calibrate) := goodIn_of _ (by decide +kernel)
def L_nibble_o (fc : Int32) (ff : Nat → Int32) (ix : Int32) (ouf : Nat → Int64) : Nat → Int64 := if X4_nibble_t fc ix = 0 then vp_updL ouf ((0 : Int32).toNatClampNeg) (X4_nibble_r fc ff ix).toInt64 else ouf
set_option maxHeartbeats 4000000 in
set_option maxRecDepth 100000 in
theorem k_L_nibble (l : Launch) (hst : l.stackTraces = false) (dC : Nat → ClassId) (dI : Nat → Nat → Nat) (sz sa : Nat) (h0 : Nat) (tol : Int32) (a1 : Nat) (a2 : Nat) (a3 : Nat) (a4 : Nat) (a5 : Nat) (fc : Int32) (le : Int64) (cal : Int64) (inf : Int32) (nib : Int32) (nc : Int32) (cA5 : ClassId) (ff : Nat → Int32) (ix : Int32) (ho : Nat) (cAo : ClassId) (ouf : Nat → Int64) : Met l yL_nibble wLN ({ frames := 8, cells := 1, slots := 6, locals := 116 }) (va_Pc [.ref h0, .int ix, .ref ho] (prX 80 78 eN "no such nibble" nsN sa (dC, dI) [(cA5, .int), (cAo, .long)] [(h0, .inr (5, [.int tol, .ref a1, .ref a2, .ref a3, .ref a4, .ref a5, .int fc, .long le, .long cal, .int inf, .int nib, .int nc])), (a5, .inl (cA5, 64, .inl ff)), (ho, .inl (cAo, 1, .inr (.inl ouf)))] sz)) (va_Qi (fun (r : Int32) (_ : Unit) => r = X4_nibble_t fc ix) (fun _ t => po (dC, dI) [(cA5, .int), (cAo, .long)] (va_A [(h0, .inr (5, [.int tol, .ref a1, .ref a2, .ref a3, .ref a4, .ref a5, .int fc, .long le, .long cal, .int inf, .int nib, .int nc])), (a5, .inl (cA5, 64, .inl ff)), (ho, .inl (cAo, 1, .inr (.inl ouf)))] sz) [(h0, .inr (5, [.int tol, .ref a1, .ref a2, .ref a3, .ref a4, .ref a5, .int fc, .long le, .long cal, .int inf, .int nib, .int nc])), (a5, .inl (cA5, 64, .inl ff)), (ho, .inl (cAo, 1, .inr (.inl (L_nibble_o fc ff ix ouf))))] t) (va_A [(h0, .inr (5, [.int tol, .ref a1, .ref a2, .ref a3, .ref a4, .ref a5, .int fc, .long le, .long cal, .int inf, .int nib, .int nc])), (a5, .inl (cA5, 64, .inl ff)), (ho, .inl (cAo, 1, .inr (.inl ouf)))] sz)) 1 6 (va_A [(h0, .inr (5, [.int tol, .ref a1, .ref a2, .ref a3, .ref a4, .ref a5, .int fc, .long le, .long cal, .int inf, .int nib, .int nc])), (a5, .inl (cA5, 64, .inl ff)), (ho, .inl (cAo, 1, .inr (.inl ouf)))] sz) := by
  refine va_MetW (cc := cL_nibble) (maxL := 4) (ret := (some .int)) (hh := [(0, 9, 12, 13)]) (by decide) rfl ?_
  intro p e s m args below meth c s₁ B hml hv
  obtain ⟨rfl, ⟨hsz, hP, hK, hD0⟩, hX⟩ := hv
  have hx := B.exec
  have hb := B.bytes
  have hr := B.returns
  have hts := atoms_spec (ws := wLN) B.pre
  have htab : c.exceptionTable.toList = [⟨0, 9, 12, 13⟩] := vx_table (x := yL_nibble) B (hts (.codeWith yL_nibble cL_nibble 4 (some .int) [(0, 9, 12, 13)]) (List.mem_of_getElem? (i := 0) rfl))
  have hown : s.vm.findClass RL = some m.cls := findClass_of_methodNamed B.named
  have hlocks := B.notSynchronized
  subst hsz
  have hD := hD0.self (sz := s.heap.size)
  generalize hAe : va_A [(h0, .inr (5, [.int tol, .ref a1, .ref a2, .ref a3, .ref a4, .ref a5, .int fc, .long le, .long cal, .int inf, .int nib, .int nc])), (a5, .inl (cA5, 64, .inl ff)), (ho, .inl (cAo, 1, .inr (.inl ouf)))] s.heap.size = A at hD hX ⊢
  have hA : ∀ q : Nat, s.heap.size ≤ q → A q := fun q h => by rw [← hAe]; exact Or.inr h
  have hS : va_S A s.heap s.heap [] := va_S.rf
  have hP : va_P (dC, dI) vwCl [(h0, .inr (5, [.int tol, .ref a1, .ref a2, .ref a3, .ref a4, .ref a5, .int fc, .long le, .long cal, .int inf, .int nib, .int nc])), (a5, .inl (cA5, 64, .inl ff)), (ho, .inl (cAo, 1, .inr (.inl ouf)))] s.heap := hP
  have hl := lv_entry ([.ref h0, .int ix, .ref ho]) (n := 4) (Nat.le_of_ble_eq_true rfl)
  rw [lg_entry_eq]
  generalize (lg_sl ([.ref h0, .int ix, .ref ho]) ++ List.replicate (4 - (lg_sl ([.ref h0, .int ix, .ref ho])).length) Slot.unset).toArray = ls at hl ⊢
  have hl : lv_has ls 4 [(0, .ref h0), (1, .int ix), (2, .ref ho)] := hl
  refine lv_aload_n hx hb dL_nibble_0 rfl (lv_at hl 2 rfl) ?_
  refine lv_iconst (v := 0) hx hb dL_nibble_1 (by decide) ?_
  refine lv_aload_n hx hb dL_nibble_2 rfl (lv_at hl 0 rfl) ?_
  refine lv_iload_n hx hb dL_nibble_3 rfl (lv_at hl 1 rfl) ?_
  have hPc := hP.sub (ws' := [(h0, .inr (5, [.int tol, .ref a1, .ref a2, .ref a3, .ref a4, .ref a5, .int fc, .long le, .long cal, .int inf, .int nib, .int nc])), (a5, .inl (cA5, 64, .inl ff))]) [0, 1] rfl
  have hDc := hD.sub (ws' := [(h0, .inr (5, [.int tol, .ref a1, .ref a2, .ref a3, .ref a4, .ref a5, .int fc, .long le, .long cal, .int inf, .int nib, .int nc])), (a5, .inl (cA5, 64, .inl ff))]) [0, 1] (by decide) rfl
  have hKc := hK.sub (tys' := [(cA5, .int)]) [0] rfl
  have hFc := va_free (wc := [(h0, .inr (5, [.int tol, .ref a1, .ref a2, .ref a3, .ref a4, .ref a5, .int fc, .long le, .long cal, .int inf, .int nib, .int nc])), (a5, .inl (cA5, 64, .inl ff))]) hD hS hA [0, 1] rfl
  refine vx_calli (vx_runV (As := [.int ix]) (rest := [.int 0, .ref ho]) ⟨hx, hb, hml, hown, hts⟩ (k_X4_nibble l hst dC dI s.heap.size sa h0 tol a1 a2 a3 a4 a5 fc le cal inf nib nc cA5 ff ix) (cwV 1 hts gLN rfl rfl rfl (by decide +kernel) ⟨Nat.le_of_ble_eq_true rfl, Nat.le_of_ble_eq_true rfl⟩) ⟨prX.blind dcN, va_recv hKc hPc (ci := 5) (q0 := 0) rfl rfl, fun U hU hW => ⟨rfl, prX.call dcN hX hS hFc hU hW hPc hKc hDc⟩⟩ rfl rfl hl.1 rfl (lv_room (Nat.le_of_ble_eq_true rfl)) dL_nibble_4 ⟨Nat.le_of_ble_eq_true rfl, Nat.le_of_ble_eq_true rfl⟩) hS (fun q _ h => hFc q h) hFc (fun q _ h => hFc q h) (fun E ce q9 u t H1 locs ht hvm hpx hBX hz1 hk1 hS hce hcv hcl => ?_) (fun r u t H1 locs ht hvm hw hB hz1 hk1 hS => ?_)
  · obtain ⟨rfl, hB⟩ := hBX
    obtain ⟨hP, hD⟩ := po.join (wr := [(ho, .inl (cAo, 1, .inr (.inl ouf)))]) hP hD [0, 1] [2] rfl rfl (by decide) (by decide) hk1 hFc ht hB
    have hP : va_P (dC, dI) vwCl [(ho, .inl (cAo, 1, .inr (.inl ouf))), (h0, .inr (5, [.int tol, .ref a1, .ref a2, .ref a3, .ref a4, .ref a5, .int fc, .long le, .long cal, .int inf, .int nib, .int nc])), (a5, .inl (cA5, 64, .inl ff))] H1 := hP
    have hD : va_D A [(ho, .inl (cAo, 1, .inr (.inl ouf))), (h0, .inr (5, [.int tol, .ref a1, .ref a2, .ref a3, .ref a4, .ref a5, .int fc, .long le, .long cal, .int inf, .int nib, .int nc])), (a5, .inl (cA5, 64, .inl ff))] := hD
    refine px_catch (own := RL) (name := eN) ⟨0, 9, 12, 13⟩ hown htab (by decide) (by decide) (hts (.classLink RL 13 eN) (by decide +kernel)) ((hX.1 (.castable eN eN) (by decide +kernel)).use rfl) hce hcv hcl ?_
    refine W.widen (k := 1) (n := 6) (Nat.le_of_ble_eq_true rfl) (Nat.le_of_ble_eq_true rfl) ?_
    refine lv_astore_n (lv' := [(3, .ref q9), (0, .ref h0), (1, .int ix), (2, .ref ho)]) hx hb dL_nibble_12 rfl hl (by decide) rfl (fun ls hl => ?_)
    refine lv_iconst (v := 1) hx hb dL_nibble_13 (by decide) ?_
    have e3 : ouf = L_nibble_o fc ff ix ouf := by rw [L_nibble_o, if_neg (by rw [hpx]; decide)]
    have hP9 : va_P (dC, dI) vwCl [(h0, .inr (5, [.int tol, .ref a1, .ref a2, .ref a3, .ref a4, .ref a5, .int fc, .long le, .long cal, .int inf, .int nib, .int nc])), (a5, .inl (cA5, 64, .inl ff)), (ho, .inl (cAo, 1, .inr (.inl (L_nibble_o fc ff ix ouf))))] H1 := by rw [← e3]; exact hP.sub [1, 2, 0] rfl
    have hD9 : va_D A [(h0, .inr (5, [.int tol, .ref a1, .ref a2, .ref a3, .ref a4, .ref a5, .int fc, .long le, .long cal, .int inf, .int nib, .int nc])), (a5, .inl (cA5, 64, .inl ff)), (ho, .inl (cAo, 1, .inr (.inl (L_nibble_o fc ff ix ouf))))] := by rw [← e3]; exact hD.sub [1, 2, 0] (by decide) rfl
    exact W.iret (v := 1) hx hb hr (fun t ht hW => ⟨⟨_, (), rfl, hpx.symm, po.ret ht hW hP9 hK hD9⟩, hS.F ht⟩) hS.2.2 dL_nibble_14
  · obtain ⟨hw, hw2⟩ := hw
    subst r
    obtain ⟨hP, hD⟩ := po.join (wr := [(ho, .inl (cAo, 1, .inr (.inl ouf)))]) hP hD [0, 1] [2] rfl rfl (by decide) (by decide) hk1 hFc ht hB
    have hP : va_P (dC, dI) vwCl [(ho, .inl (cAo, 1, .inr (.inl ouf))), (h0, .inr (5, [.int tol, .ref a1, .ref a2, .ref a3, .ref a4, .ref a5, .int fc, .long le, .long cal, .int inf, .int nib, .int nc])), (a5, .inl (cA5, 64, .inl ff))] H1 := hP
    have hD : va_D A [(ho, .inl (cAo, 1, .inr (.inl ouf))), (h0, .inr (5, [.int tol, .ref a1, .ref a2, .ref a3, .ref a4, .ref a5, .int fc, .long le, .long cal, .int inf, .int nib, .int nc])), (a5, .inl (cA5, 64, .inl ff))] := hD
    refine W.widen (k := 1) (n := 6) (Nat.le_of_ble_eq_true rfl) (Nat.le_of_ble_eq_true rfl) ?_
    refine lv_i2l (v := (X4_nibble_r fc ff ix).toInt64) hx hb dL_nibble_7 rfl ?_
    refine va_last hx hb hK hP hD hS 0 1 rfl rfl (by unfold vp_in; decide) dL_nibble_8 (fun H locs hP hD hS => ?_)
    have hP : va_P (dC, dI) vwCl [(ho, .inl (cAo, 1, .inr (.inl (vp_updL ouf ((0 : Int32).toNatClampNeg) (X4_nibble_r fc ff ix).toInt64)))), (h0, .inr (5, [.int tol, .ref a1, .ref a2, .ref a3, .ref a4, .ref a5, .int fc, .long le, .long cal, .int inf, .int nib, .int nc])), (a5, .inl (cA5, 64, .inl ff))] H := hP
    have hD : va_D A [(ho, .inl (cAo, 1, .inr (.inl (vp_updL ouf ((0 : Int32).toNatClampNeg) (X4_nibble_r fc ff ix).toInt64)))), (h0, .inr (5, [.int tol, .ref a1, .ref a2, .ref a3, .ref a4, .ref a5, .int fc, .long le, .long cal, .int inf, .int nib, .int nc])), (a5, .inl (cA5, 64, .inl ff))] := hD
    refine lv_goto (tgt := 15) hx hb dL_nibble_9 (by decide) ?_
    refine lv_iconst (v := 0) hx hb dL_nibble_15 (by decide) ?_
    have e3 : vp_updL ouf ((0 : Int32).toNatClampNeg) (X4_nibble_r fc ff ix).toInt64 = L_nibble_o fc ff ix ouf := by rw [L_nibble_o, if_pos hw2]
    have hP9 : va_P (dC, dI) vwCl [(h0, .inr (5, [.int tol, .ref a1, .ref a2, .ref a3, .ref a4, .ref a5, .int fc, .long le, .long cal, .int inf, .int nib, .int nc])), (a5, .inl (cA5, 64, .inl ff)), (ho, .inl (cAo, 1, .inr (.inl (L_nibble_o fc ff ix ouf))))] H := by rw [← e3]; exact hP.sub [1, 2, 0] rfl
    have hD9 : va_D A [(h0, .inr (5, [.int tol, .ref a1, .ref a2, .ref a3, .ref a4, .ref a5, .int fc, .long le, .long cal, .int inf, .int nib, .int nc])), (a5, .inl (cA5, 64, .inl ff)), (ho, .inl (cAo, 1, .inr (.inl (L_nibble_o fc ff ix ouf))))] := by rw [← e3]; exact hD.sub [1, 2, 0] (by decide) rfl
    exact W.iret (v := 0) hx hb hr (fun t ht hW => ⟨⟨_, (), rfl, hw2.symm, po.ret ht hW hP9 hK hD9⟩, hS.F ht⟩) hS.2.2 dL_nibble_16
def L_calibrate_o (tol : Int32) (cal : Int64) (len : Int64) (ouf : Nat → Int64) : Nat → Int64 := if X4_calibrate_t len = 0 then vp_updL ouf ((0 : Int32).toNatClampNeg) (X4_calibrate_r tol cal len).toInt64 else ouf
set_option maxHeartbeats 4000000 in
set_option maxRecDepth 100000 in
theorem k_L_calibrate (l : Launch) (hst : l.stackTraces = false) (dC : Nat → ClassId) (dI : Nat → Nat → Nat) (sz sa : Nat) (h0 : Nat) (tol : Int32) (a1 : Nat) (a2 : Nat) (a3 : Nat) (a4 : Nat) (a5 : Nat) (fc : Int32) (le : Int64) (cal : Int64) (inf : Int32) (nib : Int32) (nc : Int32) (len : Int64) (ho : Nat) (cAo : ClassId) (ouf : Nat → Int64) : Met l yL_calibrate wsL_calibrate ({ frames := 7, cells := 1, slots := 6, locals := 104 }) (va_Pc [.ref h0, .long len, .ref ho] (prX 111 109 eC "a calibration of length 0" nsC sa (dC, dI) [(cAo, .long)] [(h0, .inr (5, [.int tol, .ref a1, .ref a2, .ref a3, .ref a4, .ref a5, .int fc, .long le, .long cal, .int inf, .int nib, .int nc])), (ho, .inl (cAo, 1, .inr (.inl ouf)))] sz)) (va_Qi (fun (r : Int32) (_ : Unit) => r = X4_calibrate_t len) (fun _ t => po (dC, dI) [(cAo, .long)] (va_A [(h0, .inr (5, [.int tol, .ref a1, .ref a2, .ref a3, .ref a4, .ref a5, .int fc, .long le, .long cal, .int inf, .int nib, .int nc])), (ho, .inl (cAo, 1, .inr (.inl ouf)))] sz) [(h0, .inr (5, [.int tol, .ref a1, .ref a2, .ref a3, .ref a4, .ref a5, .int fc, .long le, .long cal, .int inf, .int nib, .int nc])), (ho, .inl (cAo, 1, .inr (.inl (L_calibrate_o tol cal len ouf))))] t) (va_A [(h0, .inr (5, [.int tol, .ref a1, .ref a2, .ref a3, .ref a4, .ref a5, .int fc, .long le, .long cal, .int inf, .int nib, .int nc])), (ho, .inl (cAo, 1, .inr (.inl ouf)))] sz)) 1 6 (va_A [(h0, .inr (5, [.int tol, .ref a1, .ref a2, .ref a3, .ref a4, .ref a5, .int fc, .long le, .long cal, .int inf, .int nib, .int nc])), (ho, .inl (cAo, 1, .inr (.inl ouf)))] sz) := by
  refine va_MetW (cc := cL_calibrate) (maxL := 5) (ret := (some .int)) (hh := [(0, 9, 12, 19)]) (by decide) rfl ?_
  intro p e s m args below meth c s₁ B hml hv
  obtain ⟨rfl, ⟨hsz, hP, hK, hD0⟩, hX⟩ := hv
  have hx := B.exec
  have hb := B.bytes
  have hr := B.returns
  have hts := atoms_spec (ws := wsL_calibrate) B.pre
  have htab : c.exceptionTable.toList = [⟨0, 9, 12, 19⟩] := vx_table (x := yL_calibrate) B (hts (.codeWith yL_calibrate cL_calibrate 5 (some .int) [(0, 9, 12, 19)]) (List.mem_of_getElem? (i := 0) rfl))
  have hown : s.vm.findClass RL = some m.cls := findClass_of_methodNamed B.named
  have hlocks := B.notSynchronized
  subst hsz
  have hD := hD0.self (sz := s.heap.size)
  generalize hAe : va_A [(h0, .inr (5, [.int tol, .ref a1, .ref a2, .ref a3, .ref a4, .ref a5, .int fc, .long le, .long cal, .int inf, .int nib, .int nc])), (ho, .inl (cAo, 1, .inr (.inl ouf)))] s.heap.size = A at hD hX ⊢
  have hA : ∀ q : Nat, s.heap.size ≤ q → A q := fun q h => by rw [← hAe]; exact Or.inr h
  have hS : va_S A s.heap s.heap [] := va_S.rf
  have hP : va_P (dC, dI) vwCl [(h0, .inr (5, [.int tol, .ref a1, .ref a2, .ref a3, .ref a4, .ref a5, .int fc, .long le, .long cal, .int inf, .int nib, .int nc])), (ho, .inl (cAo, 1, .inr (.inl ouf)))] s.heap := hP
  have hl := lv_entry ([.ref h0, .long len, .ref ho]) (n := 5) (Nat.le_of_ble_eq_true rfl)
  rw [lg_entry_eq]
  generalize (lg_sl ([.ref h0, .long len, .ref ho]) ++ List.replicate (5 - (lg_sl ([.ref h0, .long len, .ref ho])).length) Slot.unset).toArray = ls at hl ⊢
  have hl : lv_has ls 5 [(0, .ref h0), (1, .long len), (3, .ref ho)] := hl
  refine lv_aload_n hx hb dL_calibrate_0 rfl (lv_at hl 2 rfl) ?_
  refine lv_iconst (v := 0) hx hb dL_calibrate_1 (by decide) ?_
  refine lv_aload_n hx hb dL_calibrate_2 rfl (lv_at hl 0 rfl) ?_
  refine lv_lload_n hx hb dL_calibrate_3 rfl (lv_at hl 1 rfl) ?_
  have hPc := hP.sub (ws' := [(h0, .inr (5, [.int tol, .ref a1, .ref a2, .ref a3, .ref a4, .ref a5, .int fc, .long le, .long cal, .int inf, .int nib, .int nc]))]) [0] rfl
  have hDc := hD.sub (ws' := [(h0, .inr (5, [.int tol, .ref a1, .ref a2, .ref a3, .ref a4, .ref a5, .int fc, .long le, .long cal, .int inf, .int nib, .int nc]))]) [0] (by decide) rfl
  have hKc := hK.sub (tys' := []) [] rfl
  have hFc := va_free (wc := [(h0, .inr (5, [.int tol, .ref a1, .ref a2, .ref a3, .ref a4, .ref a5, .int fc, .long le, .long cal, .int inf, .int nib, .int nc]))]) hD hS hA [0] rfl
  refine vx_calli (vx_runV (As := [.long len]) (rest := [.int 0, .ref ho]) ⟨hx, hb, hml, hown, hts⟩ (k_X4_calibrate l hst dC dI s.heap.size sa h0 tol a1 a2 a3 a4 a5 fc le cal inf nib nc len) (cwV 1 hts gLC rfl rfl rfl (by decide +kernel) ⟨Nat.le_of_ble_eq_true rfl, Nat.le_of_ble_eq_true rfl⟩) ⟨prX.blind dcC, va_recv hKc hPc (ci := 5) (q0 := 0) rfl rfl, fun U hU hW => ⟨rfl, prX.call dcC hX hS hFc hU hW hPc hKc hDc⟩⟩ rfl rfl hl.1 rfl (lv_room (Nat.le_of_ble_eq_true rfl)) dL_calibrate_4 ⟨Nat.le_of_ble_eq_true rfl, Nat.le_of_ble_eq_true rfl⟩) hS (fun q _ h => hFc q h) hFc (fun q _ h => hFc q h) (fun E ce q9 u t H1 locs ht hvm hpx hBX hz1 hk1 hS hce hcv hcl => ?_) (fun r u t H1 locs ht hvm hw hB hz1 hk1 hS => ?_)
  · obtain ⟨rfl, hB⟩ := hBX
    obtain ⟨hP, hD⟩ := po.join (wr := [(ho, .inl (cAo, 1, .inr (.inl ouf)))]) hP hD [0] [1] rfl rfl (by decide) (by decide) hk1 hFc ht hB
    have hP : va_P (dC, dI) vwCl [(ho, .inl (cAo, 1, .inr (.inl ouf))), (h0, .inr (5, [.int tol, .ref a1, .ref a2, .ref a3, .ref a4, .ref a5, .int fc, .long le, .long cal, .int inf, .int nib, .int nc]))] H1 := hP
    have hD : va_D A [(ho, .inl (cAo, 1, .inr (.inl ouf))), (h0, .inr (5, [.int tol, .ref a1, .ref a2, .ref a3, .ref a4, .ref a5, .int fc, .long le, .long cal, .int inf, .int nib, .int nc]))] := hD
    refine px_catch (own := RL) (name := eC) ⟨0, 9, 12, 19⟩ hown htab (by decide) (by decide) (hts (.classLink RL 19 eC) (by decide +kernel)) ((hX.1 (.castable eC eC) (by decide +kernel)).use rfl) hce hcv hcl ?_
    refine W.widen (k := 1) (n := 6) (Nat.le_of_ble_eq_true rfl) (Nat.le_of_ble_eq_true rfl) ?_
    refine lv_astore (lv' := [(4, .ref q9), (0, .ref h0), (1, .long len), (3, .ref ho)]) hx hb dL_calibrate_12 hl (by decide) rfl (fun ls hl => ?_)
    refine lv_iconst (v := 1) hx hb dL_calibrate_14 (by decide) ?_
    have e3 : ouf = L_calibrate_o tol cal len ouf := by rw [L_calibrate_o, if_neg (by rw [hpx]; decide)]
    have hP9 : va_P (dC, dI) vwCl [(h0, .inr (5, [.int tol, .ref a1, .ref a2, .ref a3, .ref a4, .ref a5, .int fc, .long le, .long cal, .int inf, .int nib, .int nc])), (ho, .inl (cAo, 1, .inr (.inl (L_calibrate_o tol cal len ouf))))] H1 := by rw [← e3]; exact hP.sub [1, 0] rfl
    have hD9 : va_D A [(h0, .inr (5, [.int tol, .ref a1, .ref a2, .ref a3, .ref a4, .ref a5, .int fc, .long le, .long cal, .int inf, .int nib, .int nc])), (ho, .inl (cAo, 1, .inr (.inl (L_calibrate_o tol cal len ouf))))] := by rw [← e3]; exact hD.sub [1, 0] (by decide) rfl
    exact W.iret (v := 1) hx hb hr (fun t ht hW => ⟨⟨_, (), rfl, hpx.symm, po.ret ht hW hP9 hK hD9⟩, hS.F ht⟩) hS.2.2 dL_calibrate_15
  · obtain ⟨hw, hw2⟩ := hw
    subst r
    obtain ⟨hP, hD⟩ := po.join (wr := [(ho, .inl (cAo, 1, .inr (.inl ouf)))]) hP hD [0] [1] rfl rfl (by decide) (by decide) hk1 hFc ht hB
    have hP : va_P (dC, dI) vwCl [(ho, .inl (cAo, 1, .inr (.inl ouf))), (h0, .inr (5, [.int tol, .ref a1, .ref a2, .ref a3, .ref a4, .ref a5, .int fc, .long le, .long cal, .int inf, .int nib, .int nc]))] H1 := hP
    have hD : va_D A [(ho, .inl (cAo, 1, .inr (.inl ouf))), (h0, .inr (5, [.int tol, .ref a1, .ref a2, .ref a3, .ref a4, .ref a5, .int fc, .long le, .long cal, .int inf, .int nib, .int nc]))] := hD
    refine W.widen (k := 1) (n := 6) (Nat.le_of_ble_eq_true rfl) (Nat.le_of_ble_eq_true rfl) ?_
    refine lv_i2l (v := (X4_calibrate_r tol cal len).toInt64) hx hb dL_calibrate_7 rfl ?_
    refine va_last hx hb hK hP hD hS 0 0 rfl rfl (by unfold vp_in; decide) dL_calibrate_8 (fun H locs hP hD hS => ?_)
    have hP : va_P (dC, dI) vwCl [(ho, .inl (cAo, 1, .inr (.inl (vp_updL ouf ((0 : Int32).toNatClampNeg) (X4_calibrate_r tol cal len).toInt64)))), (h0, .inr (5, [.int tol, .ref a1, .ref a2, .ref a3, .ref a4, .ref a5, .int fc, .long le, .long cal, .int inf, .int nib, .int nc]))] H := hP
    have hD : va_D A [(ho, .inl (cAo, 1, .inr (.inl (vp_updL ouf ((0 : Int32).toNatClampNeg) (X4_calibrate_r tol cal len).toInt64)))), (h0, .inr (5, [.int tol, .ref a1, .ref a2, .ref a3, .ref a4, .ref a5, .int fc, .long le, .long cal, .int inf, .int nib, .int nc]))] := hD
    refine lv_goto (tgt := 16) hx hb dL_calibrate_9 (by decide) ?_
    refine lv_iconst (v := 0) hx hb dL_calibrate_16 (by decide) ?_
    have e3 : vp_updL ouf ((0 : Int32).toNatClampNeg) (X4_calibrate_r tol cal len).toInt64 = L_calibrate_o tol cal len ouf := by rw [L_calibrate_o, if_pos hw2]
    have hP9 : va_P (dC, dI) vwCl [(h0, .inr (5, [.int tol, .ref a1, .ref a2, .ref a3, .ref a4, .ref a5, .int fc, .long le, .long cal, .int inf, .int nib, .int nc])), (ho, .inl (cAo, 1, .inr (.inl (L_calibrate_o tol cal len ouf))))] H := by rw [← e3]; exact hP.sub [1, 0] rfl
    have hD9 : va_D A [(h0, .inr (5, [.int tol, .ref a1, .ref a2, .ref a3, .ref a4, .ref a5, .int fc, .long le, .long cal, .int inf, .int nib, .int nc])), (ho, .inl (cAo, 1, .inr (.inl (L_calibrate_o tol cal len ouf))))] := by rw [← e3]; exact hD.sub [1, 0] (by decide) rfl
    exact W.iret (v := 0) hx hb hr (fun t ht hW => ⟨⟨_, (), rfl, hw2.symm, po.ret ht hW hP9 hK hD9⟩, hS.F ht⟩) hS.2.2 dL_calibrate_17
set_option maxHeartbeats 4000000 in
set_option maxRecDepth 100000 in
/-- cell(script, 0): the script's first int, or 0 -/
theorem k_L_cell (l : Launch) (dC : Nat → ClassId) (dI : Nat → Nat → Nat) (sz b L : Nat) (xs : Nat → Int32) (hL : L < 2 ^ 31) : Met l yL_cell wsL_cell ({ frames := 0, cells := 0, slots := 0, locals := 0 }) (va_Pc [.ref b, .int 0] (fun U => pr (dC, dI) [] [] sz U ∧ va_X b L xs U U.heap ∧ b < sz)) (va_Qi (fun (r : Int32) (_ : Unit) => r = if 0 < L then xs 0 else 0) (fun _ t => po (dC, dI) [] (va_A [] sz) [] t) (va_A [] sz)) 0 0 (va_A [] sz) := by
  refine Met.ofW (cc := cL_cell) (maxL := 2) (ret := (some .int)) (by decide) rfl ?_
  intro p e s m args below meth c s₁ B hml hv
  obtain ⟨rfl, ⟨hsz, hP, hK, hD0⟩, hX, hbl⟩ := hv
  have hx := B.exec
  have hb := B.bytes
  have hr := B.returns
  have hlocks := B.notSynchronized
  subst hsz
  have hD := hD0.self (sz := s.heap.size)
  have hbA : ¬ va_A [] s.heap.size b := by
    intro h
    rcases h with ⟨k, e, h⟩ | h
    · simp at h
    · exact absurd hbl (Nat.not_lt.mpr h)
  generalize hAe : va_A [] s.heap.size = A at hD hbA ⊢
  have hS : va_S A s.heap s.heap [] := va_S.rf
  have hl := lv_entry ([.ref b, .int 0]) (n := 2) (Nat.le_of_ble_eq_true rfl)
  rw [lg_entry_eq]
  generalize (lg_sl ([.ref b, .int 0]) ++ List.replicate (2 - (lg_sl ([.ref b, .int 0])).length) Slot.unset).toArray = ls at hl ⊢
  have hl : lv_has ls 2 [(0, .ref b), (1, .int 0)] := hl
  refine lv_iload_n hx hb dL_cell_0 rfl (lv_at hl 1 rfl) ?_
  refine lv_aload_n hx hb dL_cell_1 rfl (lv_at hl 0 rfl) ?_
  refine va_slen hx hb hX hbl hbA hS dL_cell_2 ?_
  refine lv_icmp_ge (tgt := 12) hx hb dL_cell_3 (by decide) (fun c_1 => ?_) (fun c_1 => ?_)
  · have h0 : ¬ 0 < L := fun h => nI_ge (a := 0) (b := L) h hL (by rw [nI_0]; exact c_1)
    refine lv_iconst (v := 0) hx hb dL_cell_12 (by decide) ?_
    exact W.iret (v := 0) hx hb hr (fun t ht hW => ⟨⟨_, (), rfl, by rw [if_neg h0], po.ret ht hW hP hK hD⟩, hS.F ht⟩) hS.2.2 dL_cell_13
  · have h0 : 0 < L := by
      rcases Nat.eq_zero_or_pos L with h | h
      · subst h; exact absurd (Int32.le_refl _) c_1
      · exact h
    have hin : vp_in 0 L := by rw [← nI_0]; exact vp_in_nI h0 hL
    refine lv_aload_n hx hb dL_cell_6 rfl (lv_at hl 0 rfl) ?_
    refine lv_iload_n hx hb dL_cell_7 rfl (lv_at hl 1 rfl) ?_
    refine va_sld hx hb hX hbl hbA hS hin dL_cell_8 ?_
    refine lv_goto (tgt := 13) hx hb dL_cell_9 (by decide) ?_
    exact W.iret (v := xs (0 : Int32).toNatClampNeg) hx hb hr (fun t ht hW => ⟨⟨_, (), rfl, by rw [if_pos h0]; rfl, po.ret ht hW hP hK hD⟩, hS.F ht⟩) hS.2.2 dL_cell_13
