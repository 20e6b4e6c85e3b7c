def X5_parity_r (wd : Int32) : Int32 := ((((((((((((((((((((((((((((((((0 : Int32) ^^^ ((wd >>> ((0 : Int32) &&& 31)) &&& 1)) ^^^ ((wd >>> ((1 : Int32) &&& 31)) &&& 1)) ^^^ ((wd >>> ((2 : Int32) &&& 31)) &&& 1)) ^^^ ((wd >>> ((3 : Int32) &&& 31)) &&& 1)) ^^^ ((wd >>> ((4 : Int32) &&& 31)) &&& 1)) ^^^ ((wd >>> ((5 : Int32) &&& 31)) &&& 1)) ^^^ ((wd >>> ((6 : Int32) &&& 31)) &&& 1)) ^^^ ((wd >>> ((7 : Int32) &&& 31)) &&& 1)) ^^^ ((wd >>> ((8 : Int32) &&& 31)) &&& 1)) ^^^ ((wd >>> ((9 : Int32) &&& 31)) &&& 1)) ^^^ ((wd >>> ((10 : Int32) &&& 31)) &&& 1)) ^^^ ((wd >>> ((11 : Int32) &&& 31)) &&& 1)) ^^^ ((wd >>> ((12 : Int32) &&& 31)) &&& 1)) ^^^ ((wd >>> ((13 : Int32) &&& 31)) &&& 1)) ^^^ ((wd >>> ((14 : Int32) &&& 31)) &&& 1)) ^^^ ((wd >>> ((15 : Int32) &&& 31)) &&& 1)) ^^^ ((wd >>> ((16 : Int32) &&& 31)) &&& 1)) ^^^ ((wd >>> ((17 : Int32) &&& 31)) &&& 1)) ^^^ ((wd >>> ((18 : Int32) &&& 31)) &&& 1)) ^^^ ((wd >>> ((19 : Int32) &&& 31)) &&& 1)) ^^^ ((wd >>> ((20 : Int32) &&& 31)) &&& 1)) ^^^ ((wd >>> ((21 : Int32) &&& 31)) &&& 1)) ^^^ ((wd >>> ((22 : Int32) &&& 31)) &&& 1)) ^^^ ((wd >>> ((23 : Int32) &&& 31)) &&& 1)) ^^^ ((wd >>> ((24 : Int32) &&& 31)) &&& 1)) ^^^ ((wd >>> ((25 : Int32) &&& 31)) &&& 1)) ^^^ ((wd >>> ((26 : Int32) &&& 31)) &&& 1)) ^^^ ((wd >>> ((27 : Int32) &&& 31)) &&& 1)) ^^^ ((wd >>> ((28 : Int32) &&& 31)) &&& 1)) ^^^ ((wd >>> ((29 : Int32) &&& 31)) &&& 1)) ^^^ ((wd >>> ((30 : Int32) &&& 31)) &&& 1)) ^^^ ((wd >>> ((31 : Int32) &&& 31)) &&& 1)
set_option maxHeartbeats 4000000 in
set_option maxRecDepth 100000 in
theorem k_X5_parity (l : Launch) (dC : Nat → ClassId) (dI : Nat → Nat → Nat) (sz : Nat) (h0 : Nat) (cd : Int32) (tl : Int64) (ed : Int32) (eg : Int64) (aw : Int32) (tk : Int64) (un : Int64) (b1 : Nat) (sm : Int32) (b2 : Nat) (frs : Int32) (b3 : Nat) (b4 : Nat) (b5 : Nat) (bts : Int32) (b6 : Nat) (msn : Int32) (b7 : Nat) (flt : Int32) (bh : Int32) (mkd : Int32) (sta : Int32) (lvl : Int32) (snc : Int64) (tld : Int64) (fst : Int32) (snd : Int32) (stp : Int32) (wd : Int32)  : Met l yX5_parity wsX5_parity ({ frames := 0, cells := 0, slots := 0, locals := 0 }) (va_Pc [.ref h0, .int wd] (pr (dC, dI) [] [(h0, .inr (6, [.int cd, .long tl, .int ed, .long eg, .int aw, .long tk, .long un, .ref b1, .int sm, .ref b2, .int frs, .ref b3, .ref b4, .ref b5, .int bts, .ref b6, .int msn, .ref b7, .int flt, .int bh, .int mkd, .int sta, .int lvl, .long snc, .long tld, .int fst, .int snd, .int stp]))] sz)) (va_Qi (fun (r : Int32) (_ : Unit) => r = X5_parity_r wd) (fun _ t => po (dC, dI) [] (va_A [(h0, .inr (6, [.int cd, .long tl, .int ed, .long eg, .int aw, .long tk, .long un, .ref b1, .int sm, .ref b2, .int frs, .ref b3, .ref b4, .ref b5, .int bts, .ref b6, .int msn, .ref b7, .int flt, .int bh, .int mkd, .int sta, .int lvl, .long snc, .long tld, .int fst, .int snd, .int stp]))] sz) [(h0, .inr (6, [.int 0, .long tl, .int ed, .long eg, .int aw, .long tk, .long un, .ref b1, .int sm, .ref b2, .int frs, .ref b3, .ref b4, .ref b5, .int bts, .ref b6, .int msn, .ref b7, .int flt, .int bh, .int mkd, .int sta, .int lvl, .long snc, .long tld, .int fst, .int snd, .int stp]))] t) (va_A [(h0, .inr (6, [.int cd, .long tl, .int ed, .long eg, .int aw, .long tk, .long un, .ref b1, .int sm, .ref b2, .int frs, .ref b3, .ref b4, .ref b5, .int bts, .ref b6, .int msn, .ref b7, .int flt, .int bh, .int mkd, .int sta, .int lvl, .long snc, .long tld, .int fst, .int snd, .int stp]))] sz)) 0 0 (va_A [(h0, .inr (6, [.int cd, .long tl, .int ed, .long eg, .int aw, .long tk, .long un, .ref b1, .int sm, .ref b2, .int frs, .ref b3, .ref b4, .ref b5, .int bts, .ref b6, .int msn, .ref b7, .int flt, .int bh, .int mkd, .int sta, .int lvl, .long snc, .long tld, .int fst, .int snd, .int stp]))] sz) := by
  refine Met.ofW (cc := cX5_parity) (maxL := 4) (ret := (some .int)) (by decide) rfl ?_
  intro p e s m args below meth c s₁ B hml hv
  obtain ⟨rfl, hsz, hP, hK, hD0⟩ := hv
  have hx := B.exec
  have hb := B.bytes
  have hr := B.returns
  have hts := atoms_spec (ws := wsX5_parity) B.pre
  have hown : s.vm.findClass RX5 = some m.cls := findClass_of_methodNamed B.named
  have hlocks := B.notSynchronized
  subst hsz
  have hD := hD0.self (sz := s.heap.size)
  generalize hAe : va_A [(h0, .inr (6, [.int cd, .long tl, .int ed, .long eg, .int aw, .long tk, .long un, .ref b1, .int sm, .ref b2, .int frs, .ref b3, .ref b4, .ref b5, .int bts, .ref b6, .int msn, .ref b7, .int flt, .int bh, .int mkd, .int sta, .int lvl, .long snc, .long tld, .int fst, .int snd, .int stp]))] s.heap.size = A at hD ⊢
  have hA : ∀ q : Nat, s.heap.size ≤ q → A q := fun q h => by rw [← hAe]; exact Or.inr h
  have hS : va_S A s.heap s.heap [] := va_S.rf
  have hP : va_P (dC, dI) vwCl [(h0, .inr (6, [.int cd, .long tl, .int ed, .long eg, .int aw, .long tk, .long un, .ref b1, .int sm, .ref b2, .int frs, .ref b3, .ref b4, .ref b5, .int bts, .ref b6, .int msn, .ref b7, .int flt, .int bh, .int mkd, .int sta, .int lvl, .long snc, .long tld, .int fst, .int snd, .int stp]))] s.heap := hP
  have iX5 : ∀ w ∈ wsX50, w ∈ wsX5_parity := by decide +kernel
  have hl := lv_entry ([.ref h0, .int wd]) (n := 4) (Nat.le_of_ble_eq_true rfl)
  rw [lg_entry_eq]
  generalize (lg_sl ([.ref h0, .int wd]) ++ List.replicate (4 - (lg_sl ([.ref h0, .int wd])).length) Slot.unset).toArray = ls at hl ⊢
  have hl : lv_has ls 4 [(0, .ref h0), (1, .int wd)] := hl
  refine lv_aload_n hx hb dX5_parity_0 rfl (lv_at hl 0 rfl) ?_
  refine lv_iconst (v := 0) hx hb dX5_parity_1 (by decide) ?_
  refine va_put (D := (dC, dI)) (ci := 6) (v := .int 0) (ty := .int) (C := RX5) (T := TX5) (N := 28) hx hb hts iX5 tyX5 tyX5_ok nmX5 hown hK hP hD hS 0 rfl rfl 0 (by decide) (hts (.fieldLink RX5 42 "PulseRowsModel" "code" "I") (List.mem_of_getElem? (i := 1) rfl)) (fun _ h9 => h9) rfl (by decide +kernel) rfl rfl (Nat.le_of_ble_eq_true rfl) dX5_parity_2 (fun H locs hP hD hS => ?_)
  have hP : va_P (dC, dI) vwCl [(h0, .inr (6, [.int 0, .long tl, .int ed, .long eg, .int aw, .long tk, .long un, .ref b1, .int sm, .ref b2, .int frs, .ref b3, .ref b4, .ref b5, .int bts, .ref b6, .int msn, .ref b7, .int flt, .int bh, .int mkd, .int sta, .int lvl, .long snc, .long tld, .int fst, .int snd, .int stp]))] H := hP
  have hD : va_D A [(h0, .inr (6, [.int 0, .long tl, .int ed, .long eg, .int aw, .long tk, .long un, .ref b1, .int sm, .ref b2, .int frs, .ref b3, .ref b4, .ref b5, .int bts, .ref b6, .int msn, .ref b7, .int flt, .int bh, .int mkd, .int sta, .int lvl, .long snc, .long tld, .int fst, .int snd, .int stp]))] := hD
  refine lv_iconst (v := 0) hx hb dX5_parity_5 (by decide) ?_
  refine lv_istore_n (lv' := [(2, .int 0), (0, .ref h0), (1, .int wd)]) hx hb dX5_parity_6 rfl hl (by decide) rfl (fun ls hl => ?_)
  refine lv_iconst (v := 0) hx hb dX5_parity_7 (by decide) ?_
  refine lv_istore_n (lv' := [(3, .int 0), (2, .int 0), (0, .ref h0), (1, .int wd)]) hx hb dX5_parity_8 rfl hl (by decide) rfl (fun ls hl => ?_)
  refine lv_iload_n hx hb dX5_parity_9 rfl (lv_at hl 0 rfl) ?_
  refine lv_bipush (v := 32) hx hb dX5_parity_10 (by decide) ?_
  refine lv_icmp_ge (tgt := 29) hx hb dX5_parity_12 (by decide) (fun c9 => absurd c9 (by decide)) (fun _ => ?_)
  refine lv_iload_n hx hb dX5_parity_15 rfl (lv_at hl 1 rfl) ?_
  refine lv_iload_n hx hb dX5_parity_16 rfl (lv_at hl 3 rfl) ?_
  refine lv_iload_n hx hb dX5_parity_17 rfl (lv_at hl 0 rfl) ?_
  refine lv_ishr hx hb dX5_parity_18 ?_
  refine lv_iconst (v := 1) hx hb dX5_parity_19 (by decide) ?_
  refine lv_iand hx hb dX5_parity_20 ?_
  refine lv_ixor hx hb dX5_parity_21 ?_
  refine lv_istore_n (lv' := [(2, .int ((0 : Int32) ^^^ ((wd >>> ((0 : Int32) &&& 31)) &&& 1))), (3, .int 0), (0, .ref h0), (1, .int wd)]) hx hb dX5_parity_22 rfl hl (by decide) rfl (fun ls hl => ?_)
  refine lv_iinc (v := 1) (lv' := [(3, .int 1), (2, .int ((0 : Int32) ^^^ ((wd >>> ((0 : Int32) &&& 31)) &&& 1))), (0, .ref h0), (1, .int wd)]) hx hb dX5_parity_23 hl (k := 1) rfl (by decide) (by decide) rfl (fun ls hl => ?_)
  refine lv_goto (tgt := 9) hx hb dX5_parity_26 (by decide) ?_
  refine lv_iload_n hx hb dX5_parity_9 rfl (lv_at hl 0 rfl) ?_
  refine lv_bipush (v := 32) hx hb dX5_parity_10 (by decide) ?_
  refine lv_icmp_ge (tgt := 29) hx hb dX5_parity_12 (by decide) (fun c9 => absurd c9 (by decide)) (fun _ => ?_)
  refine lv_iload_n hx hb dX5_parity_15 rfl (lv_at hl 1 rfl) ?_
  refine lv_iload_n hx hb dX5_parity_16 rfl (lv_at hl 3 rfl) ?_
  refine lv_iload_n hx hb dX5_parity_17 rfl (lv_at hl 0 rfl) ?_
  refine lv_ishr hx hb dX5_parity_18 ?_
  refine lv_iconst (v := 1) hx hb dX5_parity_19 (by decide) ?_
  refine lv_iand hx hb dX5_parity_20 ?_
  refine lv_ixor hx hb dX5_parity_21 ?_
  refine lv_istore_n (lv' := [(2, .int (((0 : Int32) ^^^ ((wd >>> ((0 : Int32) &&& 31)) &&& 1)) ^^^ ((wd >>> ((1 : Int32) &&& 31)) &&& 1))), (3, .int 1), (0, .ref h0), (1, .int wd)]) hx hb dX5_parity_22 rfl hl (by decide) rfl (fun ls hl => ?_)
  refine lv_iinc (v := 2) (lv' := [(3, .int 2), (2, .int (((0 : Int32) ^^^ ((wd >>> ((0 : Int32) &&& 31)) &&& 1)) ^^^ ((wd >>> ((1 : Int32) &&& 31)) &&& 1))), (0, .ref h0), (1, .int wd)]) hx hb dX5_parity_23 hl (k := 1) rfl (by decide) (by decide) rfl (fun ls hl => ?_)
  refine lv_goto (tgt := 9) hx hb dX5_parity_26 (by decide) ?_
  refine lv_iload_n hx hb dX5_parity_9 rfl (lv_at hl 0 rfl) ?_
  refine lv_bipush (v := 32) hx hb dX5_parity_10 (by decide) ?_
  refine lv_icmp_ge (tgt := 29) hx hb dX5_parity_12 (by decide) (fun c9 => absurd c9 (by decide)) (fun _ => ?_)
  refine lv_iload_n hx hb dX5_parity_15 rfl (lv_at hl 1 rfl) ?_
  refine lv_iload_n hx hb dX5_parity_16 rfl (lv_at hl 3 rfl) ?_
  refine lv_iload_n hx hb dX5_parity_17 rfl (lv_at hl 0 rfl) ?_
  refine lv_ishr hx hb dX5_parity_18 ?_
  refine lv_iconst (v := 1) hx hb dX5_parity_19 (by decide) ?_
  refine lv_iand hx hb dX5_parity_20 ?_
  refine lv_ixor hx hb dX5_parity_21 ?_
  refine lv_istore_n (lv' := [(2, .int ((((0 : Int32) ^^^ ((wd >>> ((0 : Int32) &&& 31)) &&& 1)) ^^^ ((wd >>> ((1 : Int32) &&& 31)) &&& 1)) ^^^ ((wd >>> ((2 : Int32) &&& 31)) &&& 1))), (3, .int 2), (0, .ref h0), (1, .int wd)]) hx hb dX5_parity_22 rfl hl (by decide) rfl (fun ls hl => ?_)
  refine lv_iinc (v := 3) (lv' := [(3, .int 3), (2, .int ((((0 : Int32) ^^^ ((wd >>> ((0 : Int32) &&& 31)) &&& 1)) ^^^ ((wd >>> ((1 : Int32) &&& 31)) &&& 1)) ^^^ ((wd >>> ((2 : Int32) &&& 31)) &&& 1))), (0, .ref h0), (1, .int wd)]) hx hb dX5_parity_23 hl (k := 1) rfl (by decide) (by decide) rfl (fun ls hl => ?_)
  refine lv_goto (tgt := 9) hx hb dX5_parity_26 (by decide) ?_
  refine lv_iload_n hx hb dX5_parity_9 rfl (lv_at hl 0 rfl) ?_
  refine lv_bipush (v := 32) hx hb dX5_parity_10 (by decide) ?_
  refine lv_icmp_ge (tgt := 29) hx hb dX5_parity_12 (by decide) (fun c9 => absurd c9 (by decide)) (fun _ => ?_)
  refine lv_iload_n hx hb dX5_parity_15 rfl (lv_at hl 1 rfl) ?_
  refine lv_iload_n hx hb dX5_parity_16 rfl (lv_at hl 3 rfl) ?_
  refine lv_iload_n hx hb dX5_parity_17 rfl (lv_at hl 0 rfl) ?_
  refine lv_ishr hx hb dX5_parity_18 ?_
  refine lv_iconst (v := 1) hx hb dX5_parity_19 (by decide) ?_
  refine lv_iand hx hb dX5_parity_20 ?_
  refine lv_ixor hx hb dX5_parity_21 ?_
  refine lv_istore_n (lv' := [(2, .int (((((0 : Int32) ^^^ ((wd >>> ((0 : Int32) &&& 31)) &&& 1)) ^^^ ((wd >>> ((1 : Int32) &&& 31)) &&& 1)) ^^^ ((wd >>> ((2 : Int32) &&& 31)) &&& 1)) ^^^ ((wd >>> ((3 : Int32) &&& 31)) &&& 1))), (3, .int 3), (0, .ref h0), (1, .int wd)]) hx hb dX5_parity_22 rfl hl (by decide) rfl (fun ls hl => ?_)
  refine lv_iinc (v := 4) (lv' := [(3, .int 4), (2, .int (((((0 : Int32) ^^^ ((wd >>> ((0 : Int32) &&& 31)) &&& 1)) ^^^ ((wd >>> ((1 : Int32) &&& 31)) &&& 1)) ^^^ ((wd >>> ((2 : Int32) &&& 31)) &&& 1)) ^^^ ((wd >>> ((3 : Int32) &&& 31)) &&& 1))), (0, .ref h0), (1, .int wd)]) hx hb dX5_parity_23 hl (k := 1) rfl (by decide) (by decide) rfl (fun ls hl => ?_)
  refine lv_goto (tgt := 9) hx hb dX5_parity_26 (by decide) ?_
  refine lv_iload_n hx hb dX5_parity_9 rfl (lv_at hl 0 rfl) ?_
  refine lv_bipush (v := 32) hx hb dX5_parity_10 (by decide) ?_
  refine lv_icmp_ge (tgt := 29) hx hb dX5_parity_12 (by decide) (fun c9 => absurd c9 (by decide)) (fun _ => ?_)
  refine lv_iload_n hx hb dX5_parity_15 rfl (lv_at hl 1 rfl) ?_
  refine lv_iload_n hx hb dX5_parity_16 rfl (lv_at hl 3 rfl) ?_
  refine lv_iload_n hx hb dX5_parity_17 rfl (lv_at hl 0 rfl) ?_
  refine lv_ishr hx hb dX5_parity_18 ?_
  refine lv_iconst (v := 1) hx hb dX5_parity_19 (by decide) ?_
  refine lv_iand hx hb dX5_parity_20 ?_
  refine lv_ixor hx hb dX5_parity_21 ?_
  refine lv_istore_n (lv' := [(2, .int ((((((0 : Int32) ^^^ ((wd >>> ((0 : Int32) &&& 31)) &&& 1)) ^^^ ((wd >>> ((1 : Int32) &&& 31)) &&& 1)) ^^^ ((wd >>> ((2 : Int32) &&& 31)) &&& 1)) ^^^ ((wd >>> ((3 : Int32) &&& 31)) &&& 1)) ^^^ ((wd >>> ((4 : Int32) &&& 31)) &&& 1))), (3, .int 4), (0, .ref h0), (1, .int wd)]) hx hb dX5_parity_22 rfl hl (by decide) rfl (fun ls hl => ?_)
  refine lv_iinc (v := 5) (lv' := [(3, .int 5), (2, .int ((((((0 : Int32) ^^^ ((wd >>> ((0 : Int32) &&& 31)) &&& 1)) ^^^ ((wd >>> ((1 : Int32) &&& 31)) &&& 1)) ^^^ ((wd >>> ((2 : Int32) &&& 31)) &&& 1)) ^^^ ((wd >>> ((3 : Int32) &&& 31)) &&& 1)) ^^^ ((wd >>> ((4 : Int32) &&& 31)) &&& 1))), (0, .ref h0), (1, .int wd)]) hx hb dX5_parity_23 hl (k := 1) rfl (by decide) (by decide) rfl (fun ls hl => ?_)
  refine lv_goto (tgt := 9) hx hb dX5_parity_26 (by decide) ?_
  refine lv_iload_n hx hb dX5_parity_9 rfl (lv_at hl 0 rfl) ?_
  refine lv_bipush (v := 32) hx hb dX5_parity_10 (by decide) ?_
  refine lv_icmp_ge (tgt := 29) hx hb dX5_parity_12 (by decide) (fun c9 => absurd c9 (by decide)) (fun _ => ?_)
  refine lv_iload_n hx hb dX5_parity_15 rfl (lv_at hl 1 rfl) ?_
  refine lv_iload_n hx hb dX5_parity_16 rfl (lv_at hl 3 rfl) ?_
  refine lv_iload_n hx hb dX5_parity_17 rfl (lv_at hl 0 rfl) ?_
  refine lv_ishr hx hb dX5_parity_18 ?_
  refine lv_iconst (v := 1) hx hb dX5_parity_19 (by decide) ?_
  refine lv_iand hx hb dX5_parity_20 ?_
  refine lv_ixor hx hb dX5_parity_21 ?_
  refine lv_istore_n (lv' := [(2, .int (((((((0 : Int32) ^^^ ((wd >>> ((0 : Int32) &&& 31)) &&& 1)) ^^^ ((wd >>> ((1 : Int32) &&& 31)) &&& 1)) ^^^ ((wd >>> ((2 : Int32) &&& 31)) &&& 1)) ^^^ ((wd >>> ((3 : Int32) &&& 31)) &&& 1)) ^^^ ((wd >>> ((4 : Int32) &&& 31)) &&& 1)) ^^^ ((wd >>> ((5 : Int32) &&& 31)) &&& 1))), (3, .int 5), (0, .ref h0), (1, .int wd)]) hx hb dX5_parity_22 rfl hl (by decide) rfl (fun ls hl => ?_)
  refine lv_iinc (v := 6) (lv' := [(3, .int 6), (2, .int (((((((0 : Int32) ^^^ ((wd >>> ((0 : Int32) &&& 31)) &&& 1)) ^^^ ((wd >>> ((1 : Int32) &&& 31)) &&& 1)) ^^^ ((wd >>> ((2 : Int32) &&& 31)) &&& 1)) ^^^ ((wd >>> ((3 : Int32) &&& 31)) &&& 1)) ^^^ ((wd >>> ((4 : Int32) &&& 31)) &&& 1)) ^^^ ((wd >>> ((5 : Int32) &&& 31)) &&& 1))), (0, .ref h0), (1, .int wd)]) hx hb dX5_parity_23 hl (k := 1) rfl (by decide) (by decide) rfl (fun ls hl => ?_)
  refine lv_goto (tgt := 9) hx hb dX5_parity_26 (by decide) ?_
  refine lv_iload_n hx hb dX5_parity_9 rfl (lv_at hl 0 rfl) ?_
  refine lv_bipush (v := 32) hx hb dX5_parity_10 (by decide) ?_
  refine lv_icmp_ge (tgt := 29) hx hb dX5_parity_12 (by decide) (fun c9 => absurd c9 (by decide)) (fun _ => ?_)
  refine lv_iload_n hx hb dX5_parity_15 rfl (lv_at hl 1 rfl) ?_
  refine lv_iload_n hx hb dX5_parity_16 rfl (lv_at hl 3 rfl) ?_
  refine lv_iload_n hx hb dX5_parity_17 rfl (lv_at hl 0 rfl) ?_
  refine lv_ishr hx hb dX5_parity_18 ?_
  refine lv_iconst (v := 1) hx hb dX5_parity_19 (by decide) ?_
  refine lv_iand hx hb dX5_parity_20 ?_
  refine lv_ixor hx hb dX5_parity_21 ?_
  refine lv_istore_n (lv' := [(2, .int ((((((((0 : Int32) ^^^ ((wd >>> ((0 : Int32) &&& 31)) &&& 1)) ^^^ ((wd >>> ((1 : Int32) &&& 31)) &&& 1)) ^^^ ((wd >>> ((2 : Int32) &&& 31)) &&& 1)) ^^^ ((wd >>> ((3 : Int32) &&& 31)) &&& 1)) ^^^ ((wd >>> ((4 : Int32) &&& 31)) &&& 1)) ^^^ ((wd >>> ((5 : Int32) &&& 31)) &&& 1)) ^^^ ((wd >>> ((6 : Int32) &&& 31)) &&& 1))), (3, .int 6), (0, .ref h0), (1, .int wd)]) hx hb dX5_parity_22 rfl hl (by decide) rfl (fun ls hl => ?_)
  refine lv_iinc (v := 7) (lv' := [(3, .int 7), (2, .int ((((((((0 : Int32) ^^^ ((wd >>> ((0 : Int32) &&& 31)) &&& 1)) ^^^ ((wd >>> ((1 : Int32) &&& 31)) &&& 1)) ^^^ ((wd >>> ((2 : Int32) &&& 31)) &&& 1)) ^^^ ((wd >>> ((3 : Int32) &&& 31)) &&& 1)) ^^^ ((wd >>> ((4 : Int32) &&& 31)) &&& 1)) ^^^ ((wd >>> ((5 : Int32) &&& 31)) &&& 1)) ^^^ ((wd >>> ((6 : Int32) &&& 31)) &&& 1))), (0, .ref h0), (1, .int wd)]) hx hb dX5_parity_23 hl (k := 1) rfl (by decide) (by decide) rfl (fun ls hl => ?_)
  refine lv_goto (tgt := 9) hx hb dX5_parity_26 (by decide) ?_
  refine lv_iload_n hx hb dX5_parity_9 rfl (lv_at hl 0 rfl) ?_
  refine lv_bipush (v := 32) hx hb dX5_parity_10 (by decide) ?_
  refine lv_icmp_ge (tgt := 29) hx hb dX5_parity_12 (by decide) (fun c9 => absurd c9 (by decide)) (fun _ => ?_)
  refine lv_iload_n hx hb dX5_parity_15 rfl (lv_at hl 1 rfl) ?_
  refine lv_iload_n hx hb dX5_parity_16 rfl (lv_at hl 3 rfl) ?_
  refine lv_iload_n hx hb dX5_parity_17 rfl (lv_at hl 0 rfl) ?_
  refine lv_ishr hx hb dX5_parity_18 ?_
  refine lv_iconst (v := 1) hx hb dX5_parity_19 (by decide) ?_
  refine lv_iand hx hb dX5_parity_20 ?_
  refine lv_ixor hx hb dX5_parity_21 ?_
  refine lv_istore_n (lv' := [(2, .int (((((((((0 : Int32) ^^^ ((wd >>> ((0 : Int32) &&& 31)) &&& 1)) ^^^ ((wd >>> ((1 : Int32) &&& 31)) &&& 1)) ^^^ ((wd >>> ((2 : Int32) &&& 31)) &&& 1)) ^^^ ((wd >>> ((3 : Int32) &&& 31)) &&& 1)) ^^^ ((wd >>> ((4 : Int32) &&& 31)) &&& 1)) ^^^ ((wd >>> ((5 : Int32) &&& 31)) &&& 1)) ^^^ ((wd >>> ((6 : Int32) &&& 31)) &&& 1)) ^^^ ((wd >>> ((7 : Int32) &&& 31)) &&& 1))), (3, .int 7), (0, .ref h0), (1, .int wd)]) hx hb dX5_parity_22 rfl hl (by decide) rfl (fun ls hl => ?_)
  refine lv_iinc (v := 8) (lv' := [(3, .int 8), (2, .int (((((((((0 : Int32) ^^^ ((wd >>> ((0 : Int32) &&& 31)) &&& 1)) ^^^ ((wd >>> ((1 : Int32) &&& 31)) &&& 1)) ^^^ ((wd >>> ((2 : Int32) &&& 31)) &&& 1)) ^^^ ((wd >>> ((3 : Int32) &&& 31)) &&& 1)) ^^^ ((wd >>> ((4 : Int32) &&& 31)) &&& 1)) ^^^ ((wd >>> ((5 : Int32) &&& 31)) &&& 1)) ^^^ ((wd >>> ((6 : Int32) &&& 31)) &&& 1)) ^^^ ((wd >>> ((7 : Int32) &&& 31)) &&& 1))), (0, .ref h0), (1, .int wd)]) hx hb dX5_parity_23 hl (k := 1) rfl (by decide) (by decide) rfl (fun ls hl => ?_)
  refine lv_goto (tgt := 9) hx hb dX5_parity_26 (by decide) ?_
  refine lv_iload_n hx hb dX5_parity_9 rfl (lv_at hl 0 rfl) ?_
  refine lv_bipush (v := 32) hx hb dX5_parity_10 (by decide) ?_
  refine lv_icmp_ge (tgt := 29) hx hb dX5_parity_12 (by decide) (fun c9 => absurd c9 (by decide)) (fun _ => ?_)
  refine lv_iload_n hx hb dX5_parity_15 rfl (lv_at hl 1 rfl) ?_
  refine lv_iload_n hx hb dX5_parity_16 rfl (lv_at hl 3 rfl) ?_
  refine lv_iload_n hx hb dX5_parity_17 rfl (lv_at hl 0 rfl) ?_
  refine lv_ishr hx hb dX5_parity_18 ?_
  refine lv_iconst (v := 1) hx hb dX5_parity_19 (by decide) ?_
  refine lv_iand hx hb dX5_parity_20 ?_
  refine lv_ixor hx hb dX5_parity_21 ?_
  refine lv_istore_n (lv' := [(2, .int ((((((((((0 : Int32) ^^^ ((wd >>> ((0 : Int32) &&& 31)) &&& 1)) ^^^ ((wd >>> ((1 : Int32) &&& 31)) &&& 1)) ^^^ ((wd >>> ((2 : Int32) &&& 31)) &&& 1)) ^^^ ((wd >>> ((3 : Int32) &&& 31)) &&& 1)) ^^^ ((wd >>> ((4 : Int32) &&& 31)) &&& 1)) ^^^ ((wd >>> ((5 : Int32) &&& 31)) &&& 1)) ^^^ ((wd >>> ((6 : Int32) &&& 31)) &&& 1)) ^^^ ((wd >>> ((7 : Int32) &&& 31)) &&& 1)) ^^^ ((wd >>> ((8 : Int32) &&& 31)) &&& 1))), (3, .int 8), (0, .ref h0), (1, .int wd)]) hx hb dX5_parity_22 rfl hl (by decide) rfl (fun ls hl => ?_)
  refine lv_iinc (v := 9) (lv' := [(3, .int 9), (2, .int ((((((((((0 : Int32) ^^^ ((wd >>> ((0 : Int32) &&& 31)) &&& 1)) ^^^ ((wd >>> ((1 : Int32) &&& 31)) &&& 1)) ^^^ ((wd >>> ((2 : Int32) &&& 31)) &&& 1)) ^^^ ((wd >>> ((3 : Int32) &&& 31)) &&& 1)) ^^^ ((wd >>> ((4 : Int32) &&& 31)) &&& 1)) ^^^ ((wd >>> ((5 : Int32) &&& 31)) &&& 1)) ^^^ ((wd >>> ((6 : Int32) &&& 31)) &&& 1)) ^^^ ((wd >>> ((7 : Int32) &&& 31)) &&& 1)) ^^^ ((wd >>> ((8 : Int32) &&& 31)) &&& 1))), (0, .ref h0), (1, .int wd)]) hx hb dX5_parity_23 hl (k := 1) rfl (by decide) (by decide) rfl (fun ls hl => ?_)
  refine lv_goto (tgt := 9) hx hb dX5_parity_26 (by decide) ?_
  refine lv_iload_n hx hb dX5_parity_9 rfl (lv_at hl 0 rfl) ?_
  refine lv_bipush (v := 32) hx hb dX5_parity_10 (by decide) ?_
  refine lv_icmp_ge (tgt := 29) hx hb dX5_parity_12 (by decide) (fun c9 => absurd c9 (by decide)) (fun _ => ?_)
  refine lv_iload_n hx hb dX5_parity_15 rfl (lv_at hl 1 rfl) ?_
  refine lv_iload_n hx hb dX5_parity_16 rfl (lv_at hl 3 rfl) ?_
  refine lv_iload_n hx hb dX5_parity_17 rfl (lv_at hl 0 rfl) ?_
  refine lv_ishr hx hb dX5_parity_18 ?_
  refine lv_iconst (v := 1) hx hb dX5_parity_19 (by decide) ?_
  refine lv_iand hx hb dX5_parity_20 ?_
  refine lv_ixor hx hb dX5_parity_21 ?_
  refine lv_istore_n (lv' := [(2, .int (((((((((((0 : Int32) ^^^ ((wd >>> ((0 : Int32) &&& 31)) &&& 1)) ^^^ ((wd >>> ((1 : Int32) &&& 31)) &&& 1)) ^^^ ((wd >>> ((2 : Int32) &&& 31)) &&& 1)) ^^^ ((wd >>> ((3 : Int32) &&& 31)) &&& 1)) ^^^ ((wd >>> ((4 : Int32) &&& 31)) &&& 1)) ^^^ ((wd >>> ((5 : Int32) &&& 31)) &&& 1)) ^^^ ((wd >>> ((6 : Int32) &&& 31)) &&& 1)) ^^^ ((wd >>> ((7 : Int32) &&& 31)) &&& 1)) ^^^ ((wd >>> ((8 : Int32) &&& 31)) &&& 1)) ^^^ ((wd >>> ((9 : Int32) &&& 31)) &&& 1))), (3, .int 9), (0, .ref h0), (1, .int wd)]) hx hb dX5_parity_22 rfl hl (by decide) rfl (fun ls hl => ?_)
  refine lv_iinc (v := 10) (lv' := [(3, .int 10), (2, .int (((((((((((0 : Int32) ^^^ ((wd >>> ((0 : Int32) &&& 31)) &&& 1)) ^^^ ((wd >>> ((1 : Int32) &&& 31)) &&& 1)) ^^^ ((wd >>> ((2 : Int32) &&& 31)) &&& 1)) ^^^ ((wd >>> ((3 : Int32) &&& 31)) &&& 1)) ^^^ ((wd >>> ((4 : Int32) &&& 31)) &&& 1)) ^^^ ((wd >>> ((5 : Int32) &&& 31)) &&& 1)) ^^^ ((wd >>> ((6 : Int32) &&& 31)) &&& 1)) ^^^ ((wd >>> ((7 : Int32) &&& 31)) &&& 1)) ^^^ ((wd >>> ((8 : Int32) &&& 31)) &&& 1)) ^^^ ((wd >>> ((9 : Int32) &&& 31)) &&& 1))), (0, .ref h0), (1, .int wd)]) hx hb dX5_parity_23 hl (k := 1) rfl (by decide) (by decide) rfl (fun ls hl => ?_)
  refine lv_goto (tgt := 9) hx hb dX5_parity_26 (by decide) ?_
  refine lv_iload_n hx hb dX5_parity_9 rfl (lv_at hl 0 rfl) ?_
  refine lv_bipush (v := 32) hx hb dX5_parity_10 (by decide) ?_
  refine lv_icmp_ge (tgt := 29) hx hb dX5_parity_12 (by decide) (fun c9 => absurd c9 (by decide)) (fun _ => ?_)
  refine lv_iload_n hx hb dX5_parity_15 rfl (lv_at hl 1 rfl) ?_
  refine lv_iload_n hx hb dX5_parity_16 rfl (lv_at hl 3 rfl) ?_
  refine lv_iload_n hx hb dX5_parity_17 rfl (lv_at hl 0 rfl) ?_
  refine lv_ishr hx hb dX5_parity_18 ?_
  refine lv_iconst (v := 1) hx hb dX5_parity_19 (by decide) ?_
  refine lv_iand hx hb dX5_parity_20 ?_
  refine lv_ixor hx hb dX5_parity_21 ?_
  refine lv_istore_n (lv' := [(2, .int ((((((((((((0 : Int32) ^^^ ((wd >>> ((0 : Int32) &&& 31)) &&& 1)) ^^^ ((wd >>> ((1 : Int32) &&& 31)) &&& 1)) ^^^ ((wd >>> ((2 : Int32) &&& 31)) &&& 1)) ^^^ ((wd >>> ((3 : Int32) &&& 31)) &&& 1)) ^^^ ((wd >>> ((4 : Int32) &&& 31)) &&& 1)) ^^^ ((wd >>> ((5 : Int32) &&& 31)) &&& 1)) ^^^ ((wd >>> ((6 : Int32) &&& 31)) &&& 1)) ^^^ ((wd >>> ((7 : Int32) &&& 31)) &&& 1)) ^^^ ((wd >>> ((8 : Int32) &&& 31)) &&& 1)) ^^^ ((wd >>> ((9 : Int32) &&& 31)) &&& 1)) ^^^ ((wd >>> ((10 : Int32) &&& 31)) &&& 1))), (3, .int 10), (0, .ref h0), (1, .int wd)]) hx hb dX5_parity_22 rfl hl (by decide) rfl (fun ls hl => ?_)
  refine lv_iinc (v := 11) (lv' := [(3, .int 11), (2, .int ((((((((((((0 : Int32) ^^^ ((wd >>> ((0 : Int32) &&& 31)) &&& 1)) ^^^ ((wd >>> ((1 : Int32) &&& 31)) &&& 1)) ^^^ ((wd >>> ((2 : Int32) &&& 31)) &&& 1)) ^^^ ((wd >>> ((3 : Int32) &&& 31)) &&& 1)) ^^^ ((wd >>> ((4 : Int32) &&& 31)) &&& 1)) ^^^ ((wd >>> ((5 : Int32) &&& 31)) &&& 1)) ^^^ ((wd >>> ((6 : Int32) &&& 31)) &&& 1)) ^^^ ((wd >>> ((7 : Int32) &&& 31)) &&& 1)) ^^^ ((wd >>> ((8 : Int32) &&& 31)) &&& 1)) ^^^ ((wd >>> ((9 : Int32) &&& 31)) &&& 1)) ^^^ ((wd >>> ((10 : Int32) &&& 31)) &&& 1))), (0, .ref h0), (1, .int wd)]) hx hb dX5_parity_23 hl (k := 1) rfl (by decide) (by decide) rfl (fun ls hl => ?_)
  refine lv_goto (tgt := 9) hx hb dX5_parity_26 (by decide) ?_
  refine lv_iload_n hx hb dX5_parity_9 rfl (lv_at hl 0 rfl) ?_
  refine lv_bipush (v := 32) hx hb dX5_parity_10 (by decide) ?_
  refine lv_icmp_ge (tgt := 29) hx hb dX5_parity_12 (by decide) (fun c9 => absurd c9 (by decide)) (fun _ => ?_)
  refine lv_iload_n hx hb dX5_parity_15 rfl (lv_at hl 1 rfl) ?_
  refine lv_iload_n hx hb dX5_parity_16 rfl (lv_at hl 3 rfl) ?_
  refine lv_iload_n hx hb dX5_parity_17 rfl (lv_at hl 0 rfl) ?_
  refine lv_ishr hx hb dX5_parity_18 ?_
  refine lv_iconst (v := 1) hx hb dX5_parity_19 (by decide) ?_
  refine lv_iand hx hb dX5_parity_20 ?_
  refine lv_ixor hx hb dX5_parity_21 ?_
  refine lv_istore_n (lv' := [(2, .int (((((((((((((0 : Int32) ^^^ ((wd >>> ((0 : Int32) &&& 31)) &&& 1)) ^^^ ((wd >>> ((1 : Int32) &&& 31)) &&& 1)) ^^^ ((wd >>> ((2 : Int32) &&& 31)) &&& 1)) ^^^ ((wd >>> ((3 : Int32) &&& 31)) &&& 1)) ^^^ ((wd >>> ((4 : Int32) &&& 31)) &&& 1)) ^^^ ((wd >>> ((5 : Int32) &&& 31)) &&& 1)) ^^^ ((wd >>> ((6 : Int32) &&& 31)) &&& 1)) ^^^ ((wd >>> ((7 : Int32) &&& 31)) &&& 1)) ^^^ ((wd >>> ((8 : Int32) &&& 31)) &&& 1)) ^^^ ((wd >>> ((9 : Int32) &&& 31)) &&& 1)) ^^^ ((wd >>> ((10 : Int32) &&& 31)) &&& 1)) ^^^ ((wd >>> ((11 : Int32) &&& 31)) &&& 1))), (3, .int 11), (0, .ref h0), (1, .int wd)]) hx hb dX5_parity_22 rfl hl (by decide) rfl (fun ls hl => ?_)
  refine lv_iinc (v := 12) (lv' := [(3, .int 12), (2, .int (((((((((((((0 : Int32) ^^^ ((wd >>> ((0 : Int32) &&& 31)) &&& 1)) ^^^ ((wd >>> ((1 : Int32) &&& 31)) &&& 1)) ^^^ ((wd >>> ((2 : Int32) &&& 31)) &&& 1)) ^^^ ((wd >>> ((3 : Int32) &&& 31)) &&& 1)) ^^^ ((wd >>> ((4 : Int32) &&& 31)) &&& 1)) ^^^ ((wd >>> ((5 : Int32) &&& 31)) &&& 1)) ^^^ ((wd >>> ((6 : Int32) &&& 31)) &&& 1)) ^^^ ((wd >>> ((7 : Int32) &&& 31)) &&& 1)) ^^^ ((wd >>> ((8 : Int32) &&& 31)) &&& 1)) ^^^ ((wd >>> ((9 : Int32) &&& 31)) &&& 1)) ^^^ ((wd >>> ((10 : Int32) &&& 31)) &&& 1)) ^^^ ((wd >>> ((11 : Int32) &&& 31)) &&& 1))), (0, .ref h0), (1, .int wd)]) hx hb dX5_parity_23 hl (k := 1) rfl (by decide) (by decide) rfl (fun ls hl => ?_)
  refine lv_goto (tgt := 9) hx hb dX5_parity_26 (by decide) ?_
  refine lv_iload_n hx hb dX5_parity_9 rfl (lv_at hl 0 rfl) ?_
  refine lv_bipush (v := 32) hx hb dX5_parity_10 (by decide) ?_
  refine lv_icmp_ge (tgt := 29) hx hb dX5_parity_12 (by decide) (fun c9 => absurd c9 (by decide)) (fun _ => ?_)
  refine lv_iload_n hx hb dX5_parity_15 rfl (lv_at hl 1 rfl) ?_
  refine lv_iload_n hx hb dX5_parity_16 rfl (lv_at hl 3 rfl) ?_
  refine lv_iload_n hx hb dX5_parity_17 rfl (lv_at hl 0 rfl) ?_
  refine lv_ishr hx hb dX5_parity_18 ?_
  refine lv_iconst (v := 1) hx hb dX5_parity_19 (by decide) ?_
  refine lv_iand hx hb dX5_parity_20 ?_
  refine lv_ixor hx hb dX5_parity_21 ?_
  refine lv_istore_n (lv' := [(2, .int ((((((((((((((0 : Int32) ^^^ ((wd >>> ((0 : Int32) &&& 31)) &&& 1)) ^^^ ((wd >>> ((1 : Int32) &&& 31)) &&& 1)) ^^^ ((wd >>> ((2 : Int32) &&& 31)) &&& 1)) ^^^ ((wd >>> ((3 : Int32) &&& 31)) &&& 1)) ^^^ ((wd >>> ((4 : Int32) &&& 31)) &&& 1)) ^^^ ((wd >>> ((5 : Int32) &&& 31)) &&& 1)) ^^^ ((wd >>> ((6 : Int32) &&& 31)) &&& 1)) ^^^ ((wd >>> ((7 : Int32) &&& 31)) &&& 1)) ^^^ ((wd >>> ((8 : Int32) &&& 31)) &&& 1)) ^^^ ((wd >>> ((9 : Int32) &&& 31)) &&& 1)) ^^^ ((wd >>> ((10 : Int32) &&& 31)) &&& 1)) ^^^ ((wd >>> ((11 : Int32) &&& 31)) &&& 1)) ^^^ ((wd >>> ((12 : Int32) &&& 31)) &&& 1))), (3, .int 12), (0, .ref h0), (1, .int wd)]) hx hb dX5_parity_22 rfl hl (by decide) rfl (fun ls hl => ?_)
  refine lv_iinc (v := 13) (lv' := [(3, .int 13), (2, .int ((((((((((((((0 : Int32) ^^^ ((wd >>> ((0 : Int32) &&& 31)) &&& 1)) ^^^ ((wd >>> ((1 : Int32) &&& 31)) &&& 1)) ^^^ ((wd >>> ((2 : Int32) &&& 31)) &&& 1)) ^^^ ((wd >>> ((3 : Int32) &&& 31)) &&& 1)) ^^^ ((wd >>> ((4 : Int32) &&& 31)) &&& 1)) ^^^ ((wd >>> ((5 : Int32) &&& 31)) &&& 1)) ^^^ ((wd >>> ((6 : Int32) &&& 31)) &&& 1)) ^^^ ((wd >>> ((7 : Int32) &&& 31)) &&& 1)) ^^^ ((wd >>> ((8 : Int32) &&& 31)) &&& 1)) ^^^ ((wd >>> ((9 : Int32) &&& 31)) &&& 1)) ^^^ ((wd >>> ((10 : Int32) &&& 31)) &&& 1)) ^^^ ((wd >>> ((11 : Int32) &&& 31)) &&& 1)) ^^^ ((wd >>> ((12 : Int32) &&& 31)) &&& 1))), (0, .ref h0), (1, .int wd)]) hx hb dX5_parity_23 hl (k := 1) rfl (by decide) (by decide) rfl (fun ls hl => ?_)
  refine lv_goto (tgt := 9) hx hb dX5_parity_26 (by decide) ?_
  refine lv_iload_n hx hb dX5_parity_9 rfl (lv_at hl 0 rfl) ?_
  refine lv_bipush (v := 32) hx hb dX5_parity_10 (by decide) ?_
  refine lv_icmp_ge (tgt := 29) hx hb dX5_parity_12 (by decide) (fun c9 => absurd c9 (by decide)) (fun _ => ?_)
  refine lv_iload_n hx hb dX5_parity_15 rfl (lv_at hl 1 rfl) ?_
  refine lv_iload_n hx hb dX5_parity_16 rfl (lv_at hl 3 rfl) ?_
  refine lv_iload_n hx hb dX5_parity_17 rfl (lv_at hl 0 rfl) ?_
  refine lv_ishr hx hb dX5_parity_18 ?_
  refine lv_iconst (v := 1) hx hb dX5_parity_19 (by decide) ?_
  refine lv_iand hx hb dX5_parity_20 ?_
  refine lv_ixor hx hb dX5_parity_21 ?_
  refine lv_istore_n (lv' := [(2, .int (((((((((((((((0 : Int32) ^^^ ((wd >>> ((0 : Int32) &&& 31)) &&& 1)) ^^^ ((wd >>> ((1 : Int32) &&& 31)) &&& 1)) ^^^ ((wd >>> ((2 : Int32) &&& 31)) &&& 1)) ^^^ ((wd >>> ((3 : Int32) &&& 31)) &&& 1)) ^^^ ((wd >>> ((4 : Int32) &&& 31)) &&& 1)) ^^^ ((wd >>> ((5 : Int32) &&& 31)) &&& 1)) ^^^ ((wd >>> ((6 : Int32) &&& 31)) &&& 1)) ^^^ ((wd >>> ((7 : Int32) &&& 31)) &&& 1)) ^^^ ((wd >>> ((8 : Int32) &&& 31)) &&& 1)) ^^^ ((wd >>> ((9 : Int32) &&& 31)) &&& 1)) ^^^ ((wd >>> ((10 : Int32) &&& 31)) &&& 1)) ^^^ ((wd >>> ((11 : Int32) &&& 31)) &&& 1)) ^^^ ((wd >>> ((12 : Int32) &&& 31)) &&& 1)) ^^^ ((wd >>> ((13 : Int32) &&& 31)) &&& 1))), (3, .int 13), (0, .ref h0), (1, .int wd)]) hx hb dX5_parity_22 rfl hl (by decide) rfl (fun ls hl => ?_)
  refine lv_iinc (v := 14) (lv' := [(3, .int 14), (2, .int (((((((((((((((0 : Int32) ^^^ ((wd >>> ((0 : Int32) &&& 31)) &&& 1)) ^^^ ((wd >>> ((1 : Int32) &&& 31)) &&& 1)) ^^^ ((wd >>> ((2 : Int32) &&& 31)) &&& 1)) ^^^ ((wd >>> ((3 : Int32) &&& 31)) &&& 1)) ^^^ ((wd >>> ((4 : Int32) &&& 31)) &&& 1)) ^^^ ((wd >>> ((5 : Int32) &&& 31)) &&& 1)) ^^^ ((wd >>> ((6 : Int32) &&& 31)) &&& 1)) ^^^ ((wd >>> ((7 : Int32) &&& 31)) &&& 1)) ^^^ ((wd >>> ((8 : Int32) &&& 31)) &&& 1)) ^^^ ((wd >>> ((9 : Int32) &&& 31)) &&& 1)) ^^^ ((wd >>> ((10 : Int32) &&& 31)) &&& 1)) ^^^ ((wd >>> ((11 : Int32) &&& 31)) &&& 1)) ^^^ ((wd >>> ((12 : Int32) &&& 31)) &&& 1)) ^^^ ((wd >>> ((13 : Int32) &&& 31)) &&& 1))), (0, .ref h0), (1, .int wd)]) hx hb dX5_parity_23 hl (k := 1) rfl (by decide) (by decide) rfl (fun ls hl => ?_)
  refine lv_goto (tgt := 9) hx hb dX5_parity_26 (by decide) ?_
  refine lv_iload_n hx hb dX5_parity_9 rfl (lv_at hl 0 rfl) ?_
  refine lv_bipush (v := 32) hx hb dX5_parity_10 (by decide) ?_
  refine lv_icmp_ge (tgt := 29) hx hb dX5_parity_12 (by decide) (fun c9 => absurd c9 (by decide)) (fun _ => ?_)
  refine lv_iload_n hx hb dX5_parity_15 rfl (lv_at hl 1 rfl) ?_
  refine lv_iload_n hx hb dX5_parity_16 rfl (lv_at hl 3 rfl) ?_
  refine lv_iload_n hx hb dX5_parity_17 rfl (lv_at hl 0 rfl) ?_
  refine lv_ishr hx hb dX5_parity_18 ?_
  refine lv_iconst (v := 1) hx hb dX5_parity_19 (by decide) ?_
  refine lv_iand hx hb dX5_parity_20 ?_
  refine lv_ixor hx hb dX5_parity_21 ?_
  refine lv_istore_n (lv' := [(2, .int ((((((((((((((((0 : Int32) ^^^ ((wd >>> ((0 : Int32) &&& 31)) &&& 1)) ^^^ ((wd >>> ((1 : Int32) &&& 31)) &&& 1)) ^^^ ((wd >>> ((2 : Int32) &&& 31)) &&& 1)) ^^^ ((wd >>> ((3 : Int32) &&& 31)) &&& 1)) ^^^ ((wd >>> ((4 : Int32) &&& 31)) &&& 1)) ^^^ ((wd >>> ((5 : Int32) &&& 31)) &&& 1)) ^^^ ((wd >>> ((6 : Int32) &&& 31)) &&& 1)) ^^^ ((wd >>> ((7 : Int32) &&& 31)) &&& 1)) ^^^ ((wd >>> ((8 : Int32) &&& 31)) &&& 1)) ^^^ ((wd >>> ((9 : Int32) &&& 31)) &&& 1)) ^^^ ((wd >>> ((10 : Int32) &&& 31)) &&& 1)) ^^^ ((wd >>> ((11 : Int32) &&& 31)) &&& 1)) ^^^ ((wd >>> ((12 : Int32) &&& 31)) &&& 1)) ^^^ ((wd >>> ((13 : Int32) &&& 31)) &&& 1)) ^^^ ((wd >>> ((14 : Int32) &&& 31)) &&& 1))), (3, .int 14), (0, .ref h0), (1, .int wd)]) hx hb dX5_parity_22 rfl hl (by decide) rfl (fun ls hl => ?_)
  refine lv_iinc (v := 15) (lv' := [(3, .int 15), (2, .int ((((((((((((((((0 : Int32) ^^^ ((wd >>> ((0 : Int32) &&& 31)) &&& 1)) ^^^ ((wd >>> ((1 : Int32) &&& 31)) &&& 1)) ^^^ ((wd >>> ((2 : Int32) &&& 31)) &&& 1)) ^^^ ((wd >>> ((3 : Int32) &&& 31)) &&& 1)) ^^^ ((wd >>> ((4 : Int32) &&& 31)) &&& 1)) ^^^ ((wd >>> ((5 : Int32) &&& 31)) &&& 1)) ^^^ ((wd >>> ((6 : Int32) &&& 31)) &&& 1)) ^^^ ((wd >>> ((7 : Int32) &&& 31)) &&& 1)) ^^^ ((wd >>> ((8 : Int32) &&& 31)) &&& 1)) ^^^ ((wd >>> ((9 : Int32) &&& 31)) &&& 1)) ^^^ ((wd >>> ((10 : Int32) &&& 31)) &&& 1)) ^^^ ((wd >>> ((11 : Int32) &&& 31)) &&& 1)) ^^^ ((wd >>> ((12 : Int32) &&& 31)) &&& 1)) ^^^ ((wd >>> ((13 : Int32) &&& 31)) &&& 1)) ^^^ ((wd >>> ((14 : Int32) &&& 31)) &&& 1))), (0, .ref h0), (1, .int wd)]) hx hb dX5_parity_23 hl (k := 1) rfl (by decide) (by decide) rfl (fun ls hl => ?_)
  refine lv_goto (tgt := 9) hx hb dX5_parity_26 (by decide) ?_
  refine lv_iload_n hx hb dX5_parity_9 rfl (lv_at hl 0 rfl) ?_
  refine lv_bipush (v := 32) hx hb dX5_parity_10 (by decide) ?_
  refine lv_icmp_ge (tgt := 29) hx hb dX5_parity_12 (by decide) (fun c9 => absurd c9 (by decide)) (fun _ => ?_)
  refine lv_iload_n hx hb dX5_parity_15 rfl (lv_at hl 1 rfl) ?_
  refine lv_iload_n hx hb dX5_parity_16 rfl (lv_at hl 3 rfl) ?_
  refine lv_iload_n hx hb dX5_parity_17 rfl (lv_at hl 0 rfl) ?_
  refine lv_ishr hx hb dX5_parity_18 ?_
  refine lv_iconst (v := 1) hx hb dX5_parity_19 (by decide) ?_
  refine lv_iand hx hb dX5_parity_20 ?_
  refine lv_ixor hx hb dX5_parity_21 ?_
  refine lv_istore_n (lv' := [(2, .int (((((((((((((((((0 : Int32) ^^^ ((wd >>> ((0 : Int32) &&& 31)) &&& 1)) ^^^ ((wd >>> ((1 : Int32) &&& 31)) &&& 1)) ^^^ ((wd >>> ((2 : Int32) &&& 31)) &&& 1)) ^^^ ((wd >>> ((3 : Int32) &&& 31)) &&& 1)) ^^^ ((wd >>> ((4 : Int32) &&& 31)) &&& 1)) ^^^ ((wd >>> ((5 : Int32) &&& 31)) &&& 1)) ^^^ ((wd >>> ((6 : Int32) &&& 31)) &&& 1)) ^^^ ((wd >>> ((7 : Int32) &&& 31)) &&& 1)) ^^^ ((wd >>> ((8 : Int32) &&& 31)) &&& 1)) ^^^ ((wd >>> ((9 : Int32) &&& 31)) &&& 1)) ^^^ ((wd >>> ((10 : Int32) &&& 31)) &&& 1)) ^^^ ((wd >>> ((11 : Int32) &&& 31)) &&& 1)) ^^^ ((wd >>> ((12 : Int32) &&& 31)) &&& 1)) ^^^ ((wd >>> ((13 : Int32) &&& 31)) &&& 1)) ^^^ ((wd >>> ((14 : Int32) &&& 31)) &&& 1)) ^^^ ((wd >>> ((15 : Int32) &&& 31)) &&& 1))), (3, .int 15), (0, .ref h0), (1, .int wd)]) hx hb dX5_parity_22 rfl hl (by decide) rfl (fun ls hl => ?_)
  refine lv_iinc (v := 16) (lv' := [(3, .int 16), (2, .int (((((((((((((((((0 : Int32) ^^^ ((wd >>> ((0 : Int32) &&& 31)) &&& 1)) ^^^ ((wd >>> ((1 : Int32) &&& 31)) &&& 1)) ^^^ ((wd >>> ((2 : Int32) &&& 31)) &&& 1)) ^^^ ((wd >>> ((3 : Int32) &&& 31)) &&& 1)) ^^^ ((wd >>> ((4 : Int32) &&& 31)) &&& 1)) ^^^ ((wd >>> ((5 : Int32) &&& 31)) &&& 1)) ^^^ ((wd >>> ((6 : Int32) &&& 31)) &&& 1)) ^^^ ((wd >>> ((7 : Int32) &&& 31)) &&& 1)) ^^^ ((wd >>> ((8 : Int32) &&& 31)) &&& 1)) ^^^ ((wd >>> ((9 : Int32) &&& 31)) &&& 1)) ^^^ ((wd >>> ((10 : Int32) &&& 31)) &&& 1)) ^^^ ((wd >>> ((11 : Int32) &&& 31)) &&& 1)) ^^^ ((wd >>> ((12 : Int32) &&& 31)) &&& 1)) ^^^ ((wd >>> ((13 : Int32) &&& 31)) &&& 1)) ^^^ ((wd >>> ((14 : Int32) &&& 31)) &&& 1)) ^^^ ((wd >>> ((15 : Int32) &&& 31)) &&& 1))), (0, .ref h0), (1, .int wd)]) hx hb dX5_parity_23 hl (k := 1) rfl (by decide) (by decide) rfl (fun ls hl => ?_)
  refine lv_goto (tgt := 9) hx hb dX5_parity_26 (by decide) ?_
  refine lv_iload_n hx hb dX5_parity_9 rfl (lv_at hl 0 rfl) ?_
  refine lv_bipush (v := 32) hx hb dX5_parity_10 (by decide) ?_
  refine lv_icmp_ge (tgt := 29) hx hb dX5_parity_12 (by decide) (fun c9 => absurd c9 (by decide)) (fun _ => ?_)
  refine lv_iload_n hx hb dX5_parity_15 rfl (lv_at hl 1 rfl) ?_
  refine lv_iload_n hx hb dX5_parity_16 rfl (lv_at hl 3 rfl) ?_
  refine lv_iload_n hx hb dX5_parity_17 rfl (lv_at hl 0 rfl) ?_
  refine lv_ishr hx hb dX5_parity_18 ?_
  refine lv_iconst (v := 1) hx hb dX5_parity_19 (by decide) ?_
  refine lv_iand hx hb dX5_parity_20 ?_
  refine lv_ixor hx hb dX5_parity_21 ?_
  refine lv_istore_n (lv' := [(2, .int ((((((((((((((((((0 : Int32) ^^^ ((wd >>> ((0 : Int32) &&& 31)) &&& 1)) ^^^ ((wd >>> ((1 : Int32) &&& 31)) &&& 1)) ^^^ ((wd >>> ((2 : Int32) &&& 31)) &&& 1)) ^^^ ((wd >>> ((3 : Int32) &&& 31)) &&& 1)) ^^^ ((wd >>> ((4 : Int32) &&& 31)) &&& 1)) ^^^ ((wd >>> ((5 : Int32) &&& 31)) &&& 1)) ^^^ ((wd >>> ((6 : Int32) &&& 31)) &&& 1)) ^^^ ((wd >>> ((7 : Int32) &&& 31)) &&& 1)) ^^^ ((wd >>> ((8 : Int32) &&& 31)) &&& 1)) ^^^ ((wd >>> ((9 : Int32) &&& 31)) &&& 1)) ^^^ ((wd >>> ((10 : Int32) &&& 31)) &&& 1)) ^^^ ((wd >>> ((11 : Int32) &&& 31)) &&& 1)) ^^^ ((wd >>> ((12 : Int32) &&& 31)) &&& 1)) ^^^ ((wd >>> ((13 : Int32) &&& 31)) &&& 1)) ^^^ ((wd >>> ((14 : Int32) &&& 31)) &&& 1)) ^^^ ((wd >>> ((15 : Int32) &&& 31)) &&& 1)) ^^^ ((wd >>> ((16 : Int32) &&& 31)) &&& 1))), (3, .int 16), (0, .ref h0), (1, .int wd)]) hx hb dX5_parity_22 rfl hl (by decide) rfl (fun ls hl => ?_)
  refine lv_iinc (v := 17) (lv' := [(3, .int 17), (2, .int ((((((((((((((((((0 : Int32) ^^^ ((wd >>> ((0 : Int32) &&& 31)) &&& 1)) ^^^ ((wd >>> ((1 : Int32) &&& 31)) &&& 1)) ^^^ ((wd >>> ((2 : Int32) &&& 31)) &&& 1)) ^^^ ((wd >>> ((3 : Int32) &&& 31)) &&& 1)) ^^^ ((wd >>> ((4 : Int32) &&& 31)) &&& 1)) ^^^ ((wd >>> ((5 : Int32) &&& 31)) &&& 1)) ^^^ ((wd >>> ((6 : Int32) &&& 31)) &&& 1)) ^^^ ((wd >>> ((7 : Int32) &&& 31)) &&& 1)) ^^^ ((wd >>> ((8 : Int32) &&& 31)) &&& 1)) ^^^ ((wd >>> ((9 : Int32) &&& 31)) &&& 1)) ^^^ ((wd >>> ((10 : Int32) &&& 31)) &&& 1)) ^^^ ((wd >>> ((11 : Int32) &&& 31)) &&& 1)) ^^^ ((wd >>> ((12 : Int32) &&& 31)) &&& 1)) ^^^ ((wd >>> ((13 : Int32) &&& 31)) &&& 1)) ^^^ ((wd >>> ((14 : Int32) &&& 31)) &&& 1)) ^^^ ((wd >>> ((15 : Int32) &&& 31)) &&& 1)) ^^^ ((wd >>> ((16 : Int32) &&& 31)) &&& 1))), (0, .ref h0), (1, .int wd)]) hx hb dX5_parity_23 hl (k := 1) rfl (by decide) (by decide) rfl (fun ls hl => ?_)
  refine lv_goto (tgt := 9) hx hb dX5_parity_26 (by decide) ?_
  refine lv_iload_n hx hb dX5_parity_9 rfl (lv_at hl 0 rfl) ?_
  refine lv_bipush (v := 32) hx hb dX5_parity_10 (by decide) ?_
  refine lv_icmp_ge (tgt := 29) hx hb dX5_parity_12 (by decide) (fun c9 => absurd c9 (by decide)) (fun _ => ?_)
  refine lv_iload_n hx hb dX5_parity_15 rfl (lv_at hl 1 rfl) ?_
  refine lv_iload_n hx hb dX5_parity_16 rfl (lv_at hl 3 rfl) ?_
  refine lv_iload_n hx hb dX5_parity_17 rfl (lv_at hl 0 rfl) ?_
  refine lv_ishr hx hb dX5_parity_18 ?_
  refine lv_iconst (v := 1) hx hb dX5_parity_19 (by decide) ?_
  refine lv_iand hx hb dX5_parity_20 ?_
  refine lv_ixor hx hb dX5_parity_21 ?_
  refine lv_istore_n (lv' := [(2, .int (((((((((((((((((((0 : Int32) ^^^ ((wd >>> ((0 : Int32) &&& 31)) &&& 1)) ^^^ ((wd >>> ((1 : Int32) &&& 31)) &&& 1)) ^^^ ((wd >>> ((2 : Int32) &&& 31)) &&& 1)) ^^^ ((wd >>> ((3 : Int32) &&& 31)) &&& 1)) ^^^ ((wd >>> ((4 : Int32) &&& 31)) &&& 1)) ^^^ ((wd >>> ((5 : Int32) &&& 31)) &&& 1)) ^^^ ((wd >>> ((6 : Int32) &&& 31)) &&& 1)) ^^^ ((wd >>> ((7 : Int32) &&& 31)) &&& 1)) ^^^ ((wd >>> ((8 : Int32) &&& 31)) &&& 1)) ^^^ ((wd >>> ((9 : Int32) &&& 31)) &&& 1)) ^^^ ((wd >>> ((10 : Int32) &&& 31)) &&& 1)) ^^^ ((wd >>> ((11 : Int32) &&& 31)) &&& 1)) ^^^ ((wd >>> ((12 : Int32) &&& 31)) &&& 1)) ^^^ ((wd >>> ((13 : Int32) &&& 31)) &&& 1)) ^^^ ((wd >>> ((14 : Int32) &&& 31)) &&& 1)) ^^^ ((wd >>> ((15 : Int32) &&& 31)) &&& 1)) ^^^ ((wd >>> ((16 : Int32) &&& 31)) &&& 1)) ^^^ ((wd >>> ((17 : Int32) &&& 31)) &&& 1))), (3, .int 17), (0, .ref h0), (1, .int wd)]) hx hb dX5_parity_22 rfl hl (by decide) rfl (fun ls hl => ?_)
  refine lv_iinc (v := 18) (lv' := [(3, .int 18), (2, .int (((((((((((((((((((0 : Int32) ^^^ ((wd >>> ((0 : Int32) &&& 31)) &&& 1)) ^^^ ((wd >>> ((1 : Int32) &&& 31)) &&& 1)) ^^^ ((wd >>> ((2 : Int32) &&& 31)) &&& 1)) ^^^ ((wd >>> ((3 : Int32) &&& 31)) &&& 1)) ^^^ ((wd >>> ((4 : Int32) &&& 31)) &&& 1)) ^^^ ((wd >>> ((5 : Int32) &&& 31)) &&& 1)) ^^^ ((wd >>> ((6 : Int32) &&& 31)) &&& 1)) ^^^ ((wd >>> ((7 : Int32) &&& 31)) &&& 1)) ^^^ ((wd >>> ((8 : Int32) &&& 31)) &&& 1)) ^^^ ((wd >>> ((9 : Int32) &&& 31)) &&& 1)) ^^^ ((wd >>> ((10 : Int32) &&& 31)) &&& 1)) ^^^ ((wd >>> ((11 : Int32) &&& 31)) &&& 1)) ^^^ ((wd >>> ((12 : Int32) &&& 31)) &&& 1)) ^^^ ((wd >>> ((13 : Int32) &&& 31)) &&& 1)) ^^^ ((wd >>> ((14 : Int32) &&& 31)) &&& 1)) ^^^ ((wd >>> ((15 : Int32) &&& 31)) &&& 1)) ^^^ ((wd >>> ((16 : Int32) &&& 31)) &&& 1)) ^^^ ((wd >>> ((17 : Int32) &&& 31)) &&& 1))), (0, .ref h0), (1, .int wd)]) hx hb dX5_parity_23 hl (k := 1) rfl (by decide) (by decide) rfl (fun ls hl => ?_)
  refine lv_goto (tgt := 9) hx hb dX5_parity_26 (by decide) ?_
  refine lv_iload_n hx hb dX5_parity_9 rfl (lv_at hl 0 rfl) ?_
  refine lv_bipush (v := 32) hx hb dX5_parity_10 (by decide) ?_
  refine lv_icmp_ge (tgt := 29) hx hb dX5_parity_12 (by decide) (fun c9 => absurd c9 (by decide)) (fun _ => ?_)
  refine lv_iload_n hx hb dX5_parity_15 rfl (lv_at hl 1 rfl) ?_
  refine lv_iload_n hx hb dX5_parity_16 rfl (lv_at hl 3 rfl) ?_
  refine lv_iload_n hx hb dX5_parity_17 rfl (lv_at hl 0 rfl) ?_
  refine lv_ishr hx hb dX5_parity_18 ?_
  refine lv_iconst (v := 1) hx hb dX5_parity_19 (by decide) ?_
  refine lv_iand hx hb dX5_parity_20 ?_
  refine lv_ixor hx hb dX5_parity_21 ?_
  refine lv_istore_n (lv' := [(2, .int ((((((((((((((((((((0 : Int32) ^^^ ((wd >>> ((0 : Int32) &&& 31)) &&& 1)) ^^^ ((wd >>> ((1 : Int32) &&& 31)) &&& 1)) ^^^ ((wd >>> ((2 : Int32) &&& 31)) &&& 1)) ^^^ ((wd >>> ((3 : Int32) &&& 31)) &&& 1)) ^^^ ((wd >>> ((4 : Int32) &&& 31)) &&& 1)) ^^^ ((wd >>> ((5 : Int32) &&& 31)) &&& 1)) ^^^ ((wd >>> ((6 : Int32) &&& 31)) &&& 1)) ^^^ ((wd >>> ((7 : Int32) &&& 31)) &&& 1)) ^^^ ((wd >>> ((8 : Int32) &&& 31)) &&& 1)) ^^^ ((wd >>> ((9 : Int32) &&& 31)) &&& 1)) ^^^ ((wd >>> ((10 : Int32) &&& 31)) &&& 1)) ^^^ ((wd >>> ((11 : Int32) &&& 31)) &&& 1)) ^^^ ((wd >>> ((12 : Int32) &&& 31)) &&& 1)) ^^^ ((wd >>> ((13 : Int32) &&& 31)) &&& 1)) ^^^ ((wd >>> ((14 : Int32) &&& 31)) &&& 1)) ^^^ ((wd >>> ((15 : Int32) &&& 31)) &&& 1)) ^^^ ((wd >>> ((16 : Int32) &&& 31)) &&& 1)) ^^^ ((wd >>> ((17 : Int32) &&& 31)) &&& 1)) ^^^ ((wd >>> ((18 : Int32) &&& 31)) &&& 1))), (3, .int 18), (0, .ref h0), (1, .int wd)]) hx hb dX5_parity_22 rfl hl (by decide) rfl (fun ls hl => ?_)
  refine lv_iinc (v := 19) (lv' := [(3, .int 19), (2, .int ((((((((((((((((((((0 : Int32) ^^^ ((wd >>> ((0 : Int32) &&& 31)) &&& 1)) ^^^ ((wd >>> ((1 : Int32) &&& 31)) &&& 1)) ^^^ ((wd >>> ((2 : Int32) &&& 31)) &&& 1)) ^^^ ((wd >>> ((3 : Int32) &&& 31)) &&& 1)) ^^^ ((wd >>> ((4 : Int32) &&& 31)) &&& 1)) ^^^ ((wd >>> ((5 : Int32) &&& 31)) &&& 1)) ^^^ ((wd >>> ((6 : Int32) &&& 31)) &&& 1)) ^^^ ((wd >>> ((7 : Int32) &&& 31)) &&& 1)) ^^^ ((wd >>> ((8 : Int32) &&& 31)) &&& 1)) ^^^ ((wd >>> ((9 : Int32) &&& 31)) &&& 1)) ^^^ ((wd >>> ((10 : Int32) &&& 31)) &&& 1)) ^^^ ((wd >>> ((11 : Int32) &&& 31)) &&& 1)) ^^^ ((wd >>> ((12 : Int32) &&& 31)) &&& 1)) ^^^ ((wd >>> ((13 : Int32) &&& 31)) &&& 1)) ^^^ ((wd >>> ((14 : Int32) &&& 31)) &&& 1)) ^^^ ((wd >>> ((15 : Int32) &&& 31)) &&& 1)) ^^^ ((wd >>> ((16 : Int32) &&& 31)) &&& 1)) ^^^ ((wd >>> ((17 : Int32) &&& 31)) &&& 1)) ^^^ ((wd >>> ((18 : Int32) &&& 31)) &&& 1))), (0, .ref h0), (1, .int wd)]) hx hb dX5_parity_23 hl (k := 1) rfl (by decide) (by decide) rfl (fun ls hl => ?_)
  refine lv_goto (tgt := 9) hx hb dX5_parity_26 (by decide) ?_
  refine lv_iload_n hx hb dX5_parity_9 rfl (lv_at hl 0 rfl) ?_
  refine lv_bipush (v := 32) hx hb dX5_parity_10 (by decide) ?_
  refine lv_icmp_ge (tgt := 29) hx hb dX5_parity_12 (by decide) (fun c9 => absurd c9 (by decide)) (fun _ => ?_)
  refine lv_iload_n hx hb dX5_parity_15 rfl (lv_at hl 1 rfl) ?_
  refine lv_iload_n hx hb dX5_parity_16 rfl (lv_at hl 3 rfl) ?_
  refine lv_iload_n hx hb dX5_parity_17 rfl (lv_at hl 0 rfl) ?_
  refine lv_ishr hx hb dX5_parity_18 ?_
  refine lv_iconst (v := 1) hx hb dX5_parity_19 (by decide) ?_
  refine lv_iand hx hb dX5_parity_20 ?_
  refine lv_ixor hx hb dX5_parity_21 ?_
  refine lv_istore_n (lv' := [(2, .int (((((((((((((((((((((0 : Int32) ^^^ ((wd >>> ((0 : Int32) &&& 31)) &&& 1)) ^^^ ((wd >>> ((1 : Int32) &&& 31)) &&& 1)) ^^^ ((wd >>> ((2 : Int32) &&& 31)) &&& 1)) ^^^ ((wd >>> ((3 : Int32) &&& 31)) &&& 1)) ^^^ ((wd >>> ((4 : Int32) &&& 31)) &&& 1)) ^^^ ((wd >>> ((5 : Int32) &&& 31)) &&& 1)) ^^^ ((wd >>> ((6 : Int32) &&& 31)) &&& 1)) ^^^ ((wd >>> ((7 : Int32) &&& 31)) &&& 1)) ^^^ ((wd >>> ((8 : Int32) &&& 31)) &&& 1)) ^^^ ((wd >>> ((9 : Int32) &&& 31)) &&& 1)) ^^^ ((wd >>> ((10 : Int32) &&& 31)) &&& 1)) ^^^ ((wd >>> ((11 : Int32) &&& 31)) &&& 1)) ^^^ ((wd >>> ((12 : Int32) &&& 31)) &&& 1)) ^^^ ((wd >>> ((13 : Int32) &&& 31)) &&& 1)) ^^^ ((wd >>> ((14 : Int32) &&& 31)) &&& 1)) ^^^ ((wd >>> ((15 : Int32) &&& 31)) &&& 1)) ^^^ ((wd >>> ((16 : Int32) &&& 31)) &&& 1)) ^^^ ((wd >>> ((17 : Int32) &&& 31)) &&& 1)) ^^^ ((wd >>> ((18 : Int32) &&& 31)) &&& 1)) ^^^ ((wd >>> ((19 : Int32) &&& 31)) &&& 1))), (3, .int 19), (0, .ref h0), (1, .int wd)]) hx hb dX5_parity_22 rfl hl (by decide) rfl (fun ls hl => ?_)
  refine lv_iinc (v := 20) (lv' := [(3, .int 20), (2, .int (((((((((((((((((((((0 : Int32) ^^^ ((wd >>> ((0 : Int32) &&& 31)) &&& 1)) ^^^ ((wd >>> ((1 : Int32) &&& 31)) &&& 1)) ^^^ ((wd >>> ((2 : Int32) &&& 31)) &&& 1)) ^^^ ((wd >>> ((3 : Int32) &&& 31)) &&& 1)) ^^^ ((wd >>> ((4 : Int32) &&& 31)) &&& 1)) ^^^ ((wd >>> ((5 : Int32) &&& 31)) &&& 1)) ^^^ ((wd >>> ((6 : Int32) &&& 31)) &&& 1)) ^^^ ((wd >>> ((7 : Int32) &&& 31)) &&& 1)) ^^^ ((wd >>> ((8 : Int32) &&& 31)) &&& 1)) ^^^ ((wd >>> ((9 : Int32) &&& 31)) &&& 1)) ^^^ ((wd >>> ((10 : Int32) &&& 31)) &&& 1)) ^^^ ((wd >>> ((11 : Int32) &&& 31)) &&& 1)) ^^^ ((wd >>> ((12 : Int32) &&& 31)) &&& 1)) ^^^ ((wd >>> ((13 : Int32) &&& 31)) &&& 1)) ^^^ ((wd >>> ((14 : Int32) &&& 31)) &&& 1)) ^^^ ((wd >>> ((15 : Int32) &&& 31)) &&& 1)) ^^^ ((wd >>> ((16 : Int32) &&& 31)) &&& 1)) ^^^ ((wd >>> ((17 : Int32) &&& 31)) &&& 1)) ^^^ ((wd >>> ((18 : Int32) &&& 31)) &&& 1)) ^^^ ((wd >>> ((19 : Int32) &&& 31)) &&& 1))), (0, .ref h0), (1, .int wd)]) hx hb dX5_parity_23 hl (k := 1) rfl (by decide) (by decide) rfl (fun ls hl => ?_)
  refine lv_goto (tgt := 9) hx hb dX5_parity_26 (by decide) ?_
  refine lv_iload_n hx hb dX5_parity_9 rfl (lv_at hl 0 rfl) ?_
  refine lv_bipush (v := 32) hx hb dX5_parity_10 (by decide) ?_
  refine lv_icmp_ge (tgt := 29) hx hb dX5_parity_12 (by decide) (fun c9 => absurd c9 (by decide)) (fun _ => ?_)
  refine lv_iload_n hx hb dX5_parity_15 rfl (lv_at hl 1 rfl) ?_
  refine lv_iload_n hx hb dX5_parity_16 rfl (lv_at hl 3 rfl) ?_
  refine lv_iload_n hx hb dX5_parity_17 rfl (lv_at hl 0 rfl) ?_
  refine lv_ishr hx hb dX5_parity_18 ?_
  refine lv_iconst (v := 1) hx hb dX5_parity_19 (by decide) ?_
  refine lv_iand hx hb dX5_parity_20 ?_
  refine lv_ixor hx hb dX5_parity_21 ?_
  refine lv_istore_n (lv' := [(2, .int ((((((((((((((((((((((0 : Int32) ^^^ ((wd >>> ((0 : Int32) &&& 31)) &&& 1)) ^^^ ((wd >>> ((1 : Int32) &&& 31)) &&& 1)) ^^^ ((wd >>> ((2 : Int32) &&& 31)) &&& 1)) ^^^ ((wd >>> ((3 : Int32) &&& 31)) &&& 1)) ^^^ ((wd >>> ((4 : Int32) &&& 31)) &&& 1)) ^^^ ((wd >>> ((5 : Int32) &&& 31)) &&& 1)) ^^^ ((wd >>> ((6 : Int32) &&& 31)) &&& 1)) ^^^ ((wd >>> ((7 : Int32) &&& 31)) &&& 1)) ^^^ ((wd >>> ((8 : Int32) &&& 31)) &&& 1)) ^^^ ((wd >>> ((9 : Int32) &&& 31)) &&& 1)) ^^^ ((wd >>> ((10 : Int32) &&& 31)) &&& 1)) ^^^ ((wd >>> ((11 : Int32) &&& 31)) &&& 1)) ^^^ ((wd >>> ((12 : Int32) &&& 31)) &&& 1)) ^^^ ((wd >>> ((13 : Int32) &&& 31)) &&& 1)) ^^^ ((wd >>> ((14 : Int32) &&& 31)) &&& 1)) ^^^ ((wd >>> ((15 : Int32) &&& 31)) &&& 1)) ^^^ ((wd >>> ((16 : Int32) &&& 31)) &&& 1)) ^^^ ((wd >>> ((17 : Int32) &&& 31)) &&& 1)) ^^^ ((wd >>> ((18 : Int32) &&& 31)) &&& 1)) ^^^ ((wd >>> ((19 : Int32) &&& 31)) &&& 1)) ^^^ ((wd >>> ((20 : Int32) &&& 31)) &&& 1))), (3, .int 20), (0, .ref h0), (1, .int wd)]) hx hb dX5_parity_22 rfl hl (by decide) rfl (fun ls hl => ?_)
  refine lv_iinc (v := 21) (lv' := [(3, .int 21), (2, .int ((((((((((((((((((((((0 : Int32) ^^^ ((wd >>> ((0 : Int32) &&& 31)) &&& 1)) ^^^ ((wd >>> ((1 : Int32) &&& 31)) &&& 1)) ^^^ ((wd >>> ((2 : Int32) &&& 31)) &&& 1)) ^^^ ((wd >>> ((3 : Int32) &&& 31)) &&& 1)) ^^^ ((wd >>> ((4 : Int32) &&& 31)) &&& 1)) ^^^ ((wd >>> ((5 : Int32) &&& 31)) &&& 1)) ^^^ ((wd >>> ((6 : Int32) &&& 31)) &&& 1)) ^^^ ((wd >>> ((7 : Int32) &&& 31)) &&& 1)) ^^^ ((wd >>> ((8 : Int32) &&& 31)) &&& 1)) ^^^ ((wd >>> ((9 : Int32) &&& 31)) &&& 1)) ^^^ ((wd >>> ((10 : Int32) &&& 31)) &&& 1)) ^^^ ((wd >>> ((11 : Int32) &&& 31)) &&& 1)) ^^^ ((wd >>> ((12 : Int32) &&& 31)) &&& 1)) ^^^ ((wd >>> ((13 : Int32) &&& 31)) &&& 1)) ^^^ ((wd >>> ((14 : Int32) &&& 31)) &&& 1)) ^^^ ((wd >>> ((15 : Int32) &&& 31)) &&& 1)) ^^^ ((wd >>> ((16 : Int32) &&& 31)) &&& 1)) ^^^ ((wd >>> ((17 : Int32) &&& 31)) &&& 1)) ^^^ ((wd >>> ((18 : Int32) &&& 31)) &&& 1)) ^^^ ((wd >>> ((19 : Int32) &&& 31)) &&& 1)) ^^^ ((wd >>> ((20 : Int32) &&& 31)) &&& 1))), (0, .ref h0), (1, .int wd)]) hx hb dX5_parity_23 hl (k := 1) rfl (by decide) (by decide) rfl (fun ls hl => ?_)
  refine lv_goto (tgt := 9) hx hb dX5_parity_26 (by decide) ?_
  refine lv_iload_n hx hb dX5_parity_9 rfl (lv_at hl 0 rfl) ?_
  refine lv_bipush (v := 32) hx hb dX5_parity_10 (by decide) ?_
  refine lv_icmp_ge (tgt := 29) hx hb dX5_parity_12 (by decide) (fun c9 => absurd c9 (by decide)) (fun _ => ?_)
  refine lv_iload_n hx hb dX5_parity_15 rfl (lv_at hl 1 rfl) ?_
  refine lv_iload_n hx hb dX5_parity_16 rfl (lv_at hl 3 rfl) ?_
  refine lv_iload_n hx hb dX5_parity_17 rfl (lv_at hl 0 rfl) ?_
  refine lv_ishr hx hb dX5_parity_18 ?_
  refine lv_iconst (v := 1) hx hb dX5_parity_19 (by decide) ?_
  refine lv_iand hx hb dX5_parity_20 ?_
  refine lv_ixor hx hb dX5_parity_21 ?_
  refine lv_istore_n (lv' := [(2, .int (((((((((((((((((((((((0 : Int32) ^^^ ((wd >>> ((0 : Int32) &&& 31)) &&& 1)) ^^^ ((wd >>> ((1 : Int32) &&& 31)) &&& 1)) ^^^ ((wd >>> ((2 : Int32) &&& 31)) &&& 1)) ^^^ ((wd >>> ((3 : Int32) &&& 31)) &&& 1)) ^^^ ((wd >>> ((4 : Int32) &&& 31)) &&& 1)) ^^^ ((wd >>> ((5 : Int32) &&& 31)) &&& 1)) ^^^ ((wd >>> ((6 : Int32) &&& 31)) &&& 1)) ^^^ ((wd >>> ((7 : Int32) &&& 31)) &&& 1)) ^^^ ((wd >>> ((8 : Int32) &&& 31)) &&& 1)) ^^^ ((wd >>> ((9 : Int32) &&& 31)) &&& 1)) ^^^ ((wd >>> ((10 : Int32) &&& 31)) &&& 1)) ^^^ ((wd >>> ((11 : Int32) &&& 31)) &&& 1)) ^^^ ((wd >>> ((12 : Int32) &&& 31)) &&& 1)) ^^^ ((wd >>> ((13 : Int32) &&& 31)) &&& 1)) ^^^ ((wd >>> ((14 : Int32) &&& 31)) &&& 1)) ^^^ ((wd >>> ((15 : Int32) &&& 31)) &&& 1)) ^^^ ((wd >>> ((16 : Int32) &&& 31)) &&& 1)) ^^^ ((wd >>> ((17 : Int32) &&& 31)) &&& 1)) ^^^ ((wd >>> ((18 : Int32) &&& 31)) &&& 1)) ^^^ ((wd >>> ((19 : Int32) &&& 31)) &&& 1)) ^^^ ((wd >>> ((20 : Int32) &&& 31)) &&& 1)) ^^^ ((wd >>> ((21 : Int32) &&& 31)) &&& 1))), (3, .int 21), (0, .ref h0), (1, .int wd)]) hx hb dX5_parity_22 rfl hl (by decide) rfl (fun ls hl => ?_)
  refine lv_iinc (v := 22) (lv' := [(3, .int 22), (2, .int (((((((((((((((((((((((0 : Int32) ^^^ ((wd >>> ((0 : Int32) &&& 31)) &&& 1)) ^^^ ((wd >>> ((1 : Int32) &&& 31)) &&& 1)) ^^^ ((wd >>> ((2 : Int32) &&& 31)) &&& 1)) ^^^ ((wd >>> ((3 : Int32) &&& 31)) &&& 1)) ^^^ ((wd >>> ((4 : Int32) &&& 31)) &&& 1)) ^^^ ((wd >>> ((5 : Int32) &&& 31)) &&& 1)) ^^^ ((wd >>> ((6 : Int32) &&& 31)) &&& 1)) ^^^ ((wd >>> ((7 : Int32) &&& 31)) &&& 1)) ^^^ ((wd >>> ((8 : Int32) &&& 31)) &&& 1)) ^^^ ((wd >>> ((9 : Int32) &&& 31)) &&& 1)) ^^^ ((wd >>> ((10 : Int32) &&& 31)) &&& 1)) ^^^ ((wd >>> ((11 : Int32) &&& 31)) &&& 1)) ^^^ ((wd >>> ((12 : Int32) &&& 31)) &&& 1)) ^^^ ((wd >>> ((13 : Int32) &&& 31)) &&& 1)) ^^^ ((wd >>> ((14 : Int32) &&& 31)) &&& 1)) ^^^ ((wd >>> ((15 : Int32) &&& 31)) &&& 1)) ^^^ ((wd >>> ((16 : Int32) &&& 31)) &&& 1)) ^^^ ((wd >>> ((17 : Int32) &&& 31)) &&& 1)) ^^^ ((wd >>> ((18 : Int32) &&& 31)) &&& 1)) ^^^ ((wd >>> ((19 : Int32) &&& 31)) &&& 1)) ^^^ ((wd >>> ((20 : Int32) &&& 31)) &&& 1)) ^^^ ((wd >>> ((21 : Int32) &&& 31)) &&& 1))), (0, .ref h0), (1, .int wd)]) hx hb dX5_parity_23 hl (k := 1) rfl (by decide) (by decide) rfl (fun ls hl => ?_)
  refine lv_goto (tgt := 9) hx hb dX5_parity_26 (by decide) ?_
  refine lv_iload_n hx hb dX5_parity_9 rfl (lv_at hl 0 rfl) ?_
  refine lv_bipush (v := 32) hx hb dX5_parity_10 (by decide) ?_
  refine lv_icmp_ge (tgt := 29) hx hb dX5_parity_12 (by decide) (fun c9 => absurd c9 (by decide)) (fun _ => ?_)
  refine lv_iload_n hx hb dX5_parity_15 rfl (lv_at hl 1 rfl) ?_
  refine lv_iload_n hx hb dX5_parity_16 rfl (lv_at hl 3 rfl) ?_
  refine lv_iload_n hx hb dX5_parity_17 rfl (lv_at hl 0 rfl) ?_
  refine lv_ishr hx hb dX5_parity_18 ?_
  refine lv_iconst (v := 1) hx hb dX5_parity_19 (by decide) ?_
  refine lv_iand hx hb dX5_parity_20 ?_
  refine lv_ixor hx hb dX5_parity_21 ?_
  refine lv_istore_n (lv' := [(2, .int ((((((((((((((((((((((((0 : Int32) ^^^ ((wd >>> ((0 : Int32) &&& 31)) &&& 1)) ^^^ ((wd >>> ((1 : Int32) &&& 31)) &&& 1)) ^^^ ((wd >>> ((2 : Int32) &&& 31)) &&& 1)) ^^^ ((wd >>> ((3 : Int32) &&& 31)) &&& 1)) ^^^ ((wd >>> ((4 : Int32) &&& 31)) &&& 1)) ^^^ ((wd >>> ((5 : Int32) &&& 31)) &&& 1)) ^^^ ((wd >>> ((6 : Int32) &&& 31)) &&& 1)) ^^^ ((wd >>> ((7 : Int32) &&& 31)) &&& 1)) ^^^ ((wd >>> ((8 : Int32) &&& 31)) &&& 1)) ^^^ ((wd >>> ((9 : Int32) &&& 31)) &&& 1)) ^^^ ((wd >>> ((10 : Int32) &&& 31)) &&& 1)) ^^^ ((wd >>> ((11 : Int32) &&& 31)) &&& 1)) ^^^ ((wd >>> ((12 : Int32) &&& 31)) &&& 1)) ^^^ ((wd >>> ((13 : Int32) &&& 31)) &&& 1)) ^^^ ((wd >>> ((14 : Int32) &&& 31)) &&& 1)) ^^^ ((wd >>> ((15 : Int32) &&& 31)) &&& 1)) ^^^ ((wd >>> ((16 : Int32) &&& 31)) &&& 1)) ^^^ ((wd >>> ((17 : Int32) &&& 31)) &&& 1)) ^^^ ((wd >>> ((18 : Int32) &&& 31)) &&& 1)) ^^^ ((wd >>> ((19 : Int32) &&& 31)) &&& 1)) ^^^ ((wd >>> ((20 : Int32) &&& 31)) &&& 1)) ^^^ ((wd >>> ((21 : Int32) &&& 31)) &&& 1)) ^^^ ((wd >>> ((22 : Int32) &&& 31)) &&& 1))), (3, .int 22), (0, .ref h0), (1, .int wd)]) hx hb dX5_parity_22 rfl hl (by decide) rfl (fun ls hl => ?_)
  refine lv_iinc (v := 23) (lv' := [(3, .int 23), (2, .int ((((((((((((((((((((((((0 : Int32) ^^^ ((wd >>> ((0 : Int32) &&& 31)) &&& 1)) ^^^ ((wd >>> ((1 : Int32) &&& 31)) &&& 1)) ^^^ ((wd >>> ((2 : Int32) &&& 31)) &&& 1)) ^^^ ((wd >>> ((3 : Int32) &&& 31)) &&& 1)) ^^^ ((wd >>> ((4 : Int32) &&& 31)) &&& 1)) ^^^ ((wd >>> ((5 : Int32) &&& 31)) &&& 1)) ^^^ ((wd >>> ((6 : Int32) &&& 31)) &&& 1)) ^^^ ((wd >>> ((7 : Int32) &&& 31)) &&& 1)) ^^^ ((wd >>> ((8 : Int32) &&& 31)) &&& 1)) ^^^ ((wd >>> ((9 : Int32) &&& 31)) &&& 1)) ^^^ ((wd >>> ((10 : Int32) &&& 31)) &&& 1)) ^^^ ((wd >>> ((11 : Int32) &&& 31)) &&& 1)) ^^^ ((wd >>> ((12 : Int32) &&& 31)) &&& 1)) ^^^ ((wd >>> ((13 : Int32) &&& 31)) &&& 1)) ^^^ ((wd >>> ((14 : Int32) &&& 31)) &&& 1)) ^^^ ((wd >>> ((15 : Int32) &&& 31)) &&& 1)) ^^^ ((wd >>> ((16 : Int32) &&& 31)) &&& 1)) ^^^ ((wd >>> ((17 : Int32) &&& 31)) &&& 1)) ^^^ ((wd >>> ((18 : Int32) &&& 31)) &&& 1)) ^^^ ((wd >>> ((19 : Int32) &&& 31)) &&& 1)) ^^^ ((wd >>> ((20 : Int32) &&& 31)) &&& 1)) ^^^ ((wd >>> ((21 : Int32) &&& 31)) &&& 1)) ^^^ ((wd >>> ((22 : Int32) &&& 31)) &&& 1))), (0, .ref h0), (1, .int wd)]) hx hb dX5_parity_23 hl (k := 1) rfl (by decide) (by decide) rfl (fun ls hl => ?_)
  refine lv_goto (tgt := 9) hx hb dX5_parity_26 (by decide) ?_
  refine lv_iload_n hx hb dX5_parity_9 rfl (lv_at hl 0 rfl) ?_
  refine lv_bipush (v := 32) hx hb dX5_parity_10 (by decide) ?_
  refine lv_icmp_ge (tgt := 29) hx hb dX5_parity_12 (by decide) (fun c9 => absurd c9 (by decide)) (fun _ => ?_)
  refine lv_iload_n hx hb dX5_parity_15 rfl (lv_at hl 1 rfl) ?_
  refine lv_iload_n hx hb dX5_parity_16 rfl (lv_at hl 3 rfl) ?_
  refine lv_iload_n hx hb dX5_parity_17 rfl (lv_at hl 0 rfl) ?_
  refine lv_ishr hx hb dX5_parity_18 ?_
  refine lv_iconst (v := 1) hx hb dX5_parity_19 (by decide) ?_
  refine lv_iand hx hb dX5_parity_20 ?_
  refine lv_ixor hx hb dX5_parity_21 ?_
  refine lv_istore_n (lv' := [(2, .int (((((((((((((((((((((((((0 : Int32) ^^^ ((wd >>> ((0 : Int32) &&& 31)) &&& 1)) ^^^ ((wd >>> ((1 : Int32) &&& 31)) &&& 1)) ^^^ ((wd >>> ((2 : Int32) &&& 31)) &&& 1)) ^^^ ((wd >>> ((3 : Int32) &&& 31)) &&& 1)) ^^^ ((wd >>> ((4 : Int32) &&& 31)) &&& 1)) ^^^ ((wd >>> ((5 : Int32) &&& 31)) &&& 1)) ^^^ ((wd >>> ((6 : Int32) &&& 31)) &&& 1)) ^^^ ((wd >>> ((7 : Int32) &&& 31)) &&& 1)) ^^^ ((wd >>> ((8 : Int32) &&& 31)) &&& 1)) ^^^ ((wd >>> ((9 : Int32) &&& 31)) &&& 1)) ^^^ ((wd >>> ((10 : Int32) &&& 31)) &&& 1)) ^^^ ((wd >>> ((11 : Int32) &&& 31)) &&& 1)) ^^^ ((wd >>> ((12 : Int32) &&& 31)) &&& 1)) ^^^ ((wd >>> ((13 : Int32) &&& 31)) &&& 1)) ^^^ ((wd >>> ((14 : Int32) &&& 31)) &&& 1)) ^^^ ((wd >>> ((15 : Int32) &&& 31)) &&& 1)) ^^^ ((wd >>> ((16 : Int32) &&& 31)) &&& 1)) ^^^ ((wd >>> ((17 : Int32) &&& 31)) &&& 1)) ^^^ ((wd >>> ((18 : Int32) &&& 31)) &&& 1)) ^^^ ((wd >>> ((19 : Int32) &&& 31)) &&& 1)) ^^^ ((wd >>> ((20 : Int32) &&& 31)) &&& 1)) ^^^ ((wd >>> ((21 : Int32) &&& 31)) &&& 1)) ^^^ ((wd >>> ((22 : Int32) &&& 31)) &&& 1)) ^^^ ((wd >>> ((23 : Int32) &&& 31)) &&& 1))), (3, .int 23), (0, .ref h0), (1, .int wd)]) hx hb dX5_parity_22 rfl hl (by decide) rfl (fun ls hl => ?_)
  refine lv_iinc (v := 24) (lv' := [(3, .int 24), (2, .int (((((((((((((((((((((((((0 : Int32) ^^^ ((wd >>> ((0 : Int32) &&& 31)) &&& 1)) ^^^ ((wd >>> ((1 : Int32) &&& 31)) &&& 1)) ^^^ ((wd >>> ((2 : Int32) &&& 31)) &&& 1)) ^^^ ((wd >>> ((3 : Int32) &&& 31)) &&& 1)) ^^^ ((wd >>> ((4 : Int32) &&& 31)) &&& 1)) ^^^ ((wd >>> ((5 : Int32) &&& 31)) &&& 1)) ^^^ ((wd >>> ((6 : Int32) &&& 31)) &&& 1)) ^^^ ((wd >>> ((7 : Int32) &&& 31)) &&& 1)) ^^^ ((wd >>> ((8 : Int32) &&& 31)) &&& 1)) ^^^ ((wd >>> ((9 : Int32) &&& 31)) &&& 1)) ^^^ ((wd >>> ((10 : Int32) &&& 31)) &&& 1)) ^^^ ((wd >>> ((11 : Int32) &&& 31)) &&& 1)) ^^^ ((wd >>> ((12 : Int32) &&& 31)) &&& 1)) ^^^ ((wd >>> ((13 : Int32) &&& 31)) &&& 1)) ^^^ ((wd >>> ((14 : Int32) &&& 31)) &&& 1)) ^^^ ((wd >>> ((15 : Int32) &&& 31)) &&& 1)) ^^^ ((wd >>> ((16 : Int32) &&& 31)) &&& 1)) ^^^ ((wd >>> ((17 : Int32) &&& 31)) &&& 1)) ^^^ ((wd >>> ((18 : Int32) &&& 31)) &&& 1)) ^^^ ((wd >>> ((19 : Int32) &&& 31)) &&& 1)) ^^^ ((wd >>> ((20 : Int32) &&& 31)) &&& 1)) ^^^ ((wd >>> ((21 : Int32) &&& 31)) &&& 1)) ^^^ ((wd >>> ((22 : Int32) &&& 31)) &&& 1)) ^^^ ((wd >>> ((23 : Int32) &&& 31)) &&& 1))), (0, .ref h0), (1, .int wd)]) hx hb dX5_parity_23 hl (k := 1) rfl (by decide) (by decide) rfl (fun ls hl => ?_)
  refine lv_goto (tgt := 9) hx hb dX5_parity_26 (by decide) ?_
  refine lv_iload_n hx hb dX5_parity_9 rfl (lv_at hl 0 rfl) ?_
  refine lv_bipush (v := 32) hx hb dX5_parity_10 (by decide) ?_
  refine lv_icmp_ge (tgt := 29) hx hb dX5_parity_12 (by decide) (fun c9 => absurd c9 (by decide)) (fun _ => ?_)
  refine lv_iload_n hx hb dX5_parity_15 rfl (lv_at hl 1 rfl) ?_
  refine lv_iload_n hx hb dX5_parity_16 rfl (lv_at hl 3 rfl) ?_
  refine lv_iload_n hx hb dX5_parity_17 rfl (lv_at hl 0 rfl) ?_
  refine lv_ishr hx hb dX5_parity_18 ?_
  refine lv_iconst (v := 1) hx hb dX5_parity_19 (by decide) ?_
  refine lv_iand hx hb dX5_parity_20 ?_
  refine lv_ixor hx hb dX5_parity_21 ?_
  refine lv_istore_n (lv' := [(2, .int ((((((((((((((((((((((((((0 : Int32) ^^^ ((wd >>> ((0 : Int32) &&& 31)) &&& 1)) ^^^ ((wd >>> ((1 : Int32) &&& 31)) &&& 1)) ^^^ ((wd >>> ((2 : Int32) &&& 31)) &&& 1)) ^^^ ((wd >>> ((3 : Int32) &&& 31)) &&& 1)) ^^^ ((wd >>> ((4 : Int32) &&& 31)) &&& 1)) ^^^ ((wd >>> ((5 : Int32) &&& 31)) &&& 1)) ^^^ ((wd >>> ((6 : Int32) &&& 31)) &&& 1)) ^^^ ((wd >>> ((7 : Int32) &&& 31)) &&& 1)) ^^^ ((wd >>> ((8 : Int32) &&& 31)) &&& 1)) ^^^ ((wd >>> ((9 : Int32) &&& 31)) &&& 1)) ^^^ ((wd >>> ((10 : Int32) &&& 31)) &&& 1)) ^^^ ((wd >>> ((11 : Int32) &&& 31)) &&& 1)) ^^^ ((wd >>> ((12 : Int32) &&& 31)) &&& 1)) ^^^ ((wd >>> ((13 : Int32) &&& 31)) &&& 1)) ^^^ ((wd >>> ((14 : Int32) &&& 31)) &&& 1)) ^^^ ((wd >>> ((15 : Int32) &&& 31)) &&& 1)) ^^^ ((wd >>> ((16 : Int32) &&& 31)) &&& 1)) ^^^ ((wd >>> ((17 : Int32) &&& 31)) &&& 1)) ^^^ ((wd >>> ((18 : Int32) &&& 31)) &&& 1)) ^^^ ((wd >>> ((19 : Int32) &&& 31)) &&& 1)) ^^^ ((wd >>> ((20 : Int32) &&& 31)) &&& 1)) ^^^ ((wd >>> ((21 : Int32) &&& 31)) &&& 1)) ^^^ ((wd >>> ((22 : Int32) &&& 31)) &&& 1)) ^^^ ((wd >>> ((23 : Int32) &&& 31)) &&& 1)) ^^^ ((wd >>> ((24 : Int32) &&& 31)) &&& 1))), (3, .int 24), (0, .ref h0), (1, .int wd)]) hx hb dX5_parity_22 rfl hl (by decide) rfl (fun ls hl => ?_)
  refine lv_iinc (v := 25) (lv' := [(3, .int 25), (2, .int ((((((((((((((((((((((((((0 : Int32) ^^^ ((wd >>> ((0 : Int32) &&& 31)) &&& 1)) ^^^ ((wd >>> ((1 : Int32) &&& 31)) &&& 1)) ^^^ ((wd >>> ((2 : Int32) &&& 31)) &&& 1)) ^^^ ((wd >>> ((3 : Int32) &&& 31)) &&& 1)) ^^^ ((wd >>> ((4 : Int32) &&& 31)) &&& 1)) ^^^ ((wd >>> ((5 : Int32) &&& 31)) &&& 1)) ^^^ ((wd >>> ((6 : Int32) &&& 31)) &&& 1)) ^^^ ((wd >>> ((7 : Int32) &&& 31)) &&& 1)) ^^^ ((wd >>> ((8 : Int32) &&& 31)) &&& 1)) ^^^ ((wd >>> ((9 : Int32) &&& 31)) &&& 1)) ^^^ ((wd >>> ((10 : Int32) &&& 31)) &&& 1)) ^^^ ((wd >>> ((11 : Int32) &&& 31)) &&& 1)) ^^^ ((wd >>> ((12 : Int32) &&& 31)) &&& 1)) ^^^ ((wd >>> ((13 : Int32) &&& 31)) &&& 1)) ^^^ ((wd >>> ((14 : Int32) &&& 31)) &&& 1)) ^^^ ((wd >>> ((15 : Int32) &&& 31)) &&& 1)) ^^^ ((wd >>> ((16 : Int32) &&& 31)) &&& 1)) ^^^ ((wd >>> ((17 : Int32) &&& 31)) &&& 1)) ^^^ ((wd >>> ((18 : Int32) &&& 31)) &&& 1)) ^^^ ((wd >>> ((19 : Int32) &&& 31)) &&& 1)) ^^^ ((wd >>> ((20 : Int32) &&& 31)) &&& 1)) ^^^ ((wd >>> ((21 : Int32) &&& 31)) &&& 1)) ^^^ ((wd >>> ((22 : Int32) &&& 31)) &&& 1)) ^^^ ((wd >>> ((23 : Int32) &&& 31)) &&& 1)) ^^^ ((wd >>> ((24 : Int32) &&& 31)) &&& 1))), (0, .ref h0), (1, .int wd)]) hx hb dX5_parity_23 hl (k := 1) rfl (by decide) (by decide) rfl (fun ls hl => ?_)
  refine lv_goto (tgt := 9) hx hb dX5_parity_26 (by decide) ?_
  refine lv_iload_n hx hb dX5_parity_9 rfl (lv_at hl 0 rfl) ?_
  refine lv_bipush (v := 32) hx hb dX5_parity_10 (by decide) ?_
  refine lv_icmp_ge (tgt := 29) hx hb dX5_parity_12 (by decide) (fun c9 => absurd c9 (by decide)) (fun _ => ?_)
  refine lv_iload_n hx hb dX5_parity_15 rfl (lv_at hl 1 rfl) ?_
  refine lv_iload_n hx hb dX5_parity_16 rfl (lv_at hl 3 rfl) ?_
  refine lv_iload_n hx hb dX5_parity_17 rfl (lv_at hl 0 rfl) ?_
  refine lv_ishr hx hb dX5_parity_18 ?_
  refine lv_iconst (v := 1) hx hb dX5_parity_19 (by decide) ?_
  refine lv_iand hx hb dX5_parity_20 ?_
  refine lv_ixor hx hb dX5_parity_21 ?_
  refine lv_istore_n (lv' := [(2, .int (((((((((((((((((((((((((((0 : Int32) ^^^ ((wd >>> ((0 : Int32) &&& 31)) &&& 1)) ^^^ ((wd >>> ((1 : Int32) &&& 31)) &&& 1)) ^^^ ((wd >>> ((2 : Int32) &&& 31)) &&& 1)) ^^^ ((wd >>> ((3 : Int32) &&& 31)) &&& 1)) ^^^ ((wd >>> ((4 : Int32) &&& 31)) &&& 1)) ^^^ ((wd >>> ((5 : Int32) &&& 31)) &&& 1)) ^^^ ((wd >>> ((6 : Int32) &&& 31)) &&& 1)) ^^^ ((wd >>> ((7 : Int32) &&& 31)) &&& 1)) ^^^ ((wd >>> ((8 : Int32) &&& 31)) &&& 1)) ^^^ ((wd >>> ((9 : Int32) &&& 31)) &&& 1)) ^^^ ((wd >>> ((10 : Int32) &&& 31)) &&& 1)) ^^^ ((wd >>> ((11 : Int32) &&& 31)) &&& 1)) ^^^ ((wd >>> ((12 : Int32) &&& 31)) &&& 1)) ^^^ ((wd >>> ((13 : Int32) &&& 31)) &&& 1)) ^^^ ((wd >>> ((14 : Int32) &&& 31)) &&& 1)) ^^^ ((wd >>> ((15 : Int32) &&& 31)) &&& 1)) ^^^ ((wd >>> ((16 : Int32) &&& 31)) &&& 1)) ^^^ ((wd >>> ((17 : Int32) &&& 31)) &&& 1)) ^^^ ((wd >>> ((18 : Int32) &&& 31)) &&& 1)) ^^^ ((wd >>> ((19 : Int32) &&& 31)) &&& 1)) ^^^ ((wd >>> ((20 : Int32) &&& 31)) &&& 1)) ^^^ ((wd >>> ((21 : Int32) &&& 31)) &&& 1)) ^^^ ((wd >>> ((22 : Int32) &&& 31)) &&& 1)) ^^^ ((wd >>> ((23 : Int32) &&& 31)) &&& 1)) ^^^ ((wd >>> ((24 : Int32) &&& 31)) &&& 1)) ^^^ ((wd >>> ((25 : Int32) &&& 31)) &&& 1))), (3, .int 25), (0, .ref h0), (1, .int wd)]) hx hb dX5_parity_22 rfl hl (by decide) rfl (fun ls hl => ?_)
  refine lv_iinc (v := 26) (lv' := [(3, .int 26), (2, .int (((((((((((((((((((((((((((0 : Int32) ^^^ ((wd >>> ((0 : Int32) &&& 31)) &&& 1)) ^^^ ((wd >>> ((1 : Int32) &&& 31)) &&& 1)) ^^^ ((wd >>> ((2 : Int32) &&& 31)) &&& 1)) ^^^ ((wd >>> ((3 : Int32) &&& 31)) &&& 1)) ^^^ ((wd >>> ((4 : Int32) &&& 31)) &&& 1)) ^^^ ((wd >>> ((5 : Int32) &&& 31)) &&& 1)) ^^^ ((wd >>> ((6 : Int32) &&& 31)) &&& 1)) ^^^ ((wd >>> ((7 : Int32) &&& 31)) &&& 1)) ^^^ ((wd >>> ((8 : Int32) &&& 31)) &&& 1)) ^^^ ((wd >>> ((9 : Int32) &&& 31)) &&& 1)) ^^^ ((wd >>> ((10 : Int32) &&& 31)) &&& 1)) ^^^ ((wd >>> ((11 : Int32) &&& 31)) &&& 1)) ^^^ ((wd >>> ((12 : Int32) &&& 31)) &&& 1)) ^^^ ((wd >>> ((13 : Int32) &&& 31)) &&& 1)) ^^^ ((wd >>> ((14 : Int32) &&& 31)) &&& 1)) ^^^ ((wd >>> ((15 : Int32) &&& 31)) &&& 1)) ^^^ ((wd >>> ((16 : Int32) &&& 31)) &&& 1)) ^^^ ((wd >>> ((17 : Int32) &&& 31)) &&& 1)) ^^^ ((wd >>> ((18 : Int32) &&& 31)) &&& 1)) ^^^ ((wd >>> ((19 : Int32) &&& 31)) &&& 1)) ^^^ ((wd >>> ((20 : Int32) &&& 31)) &&& 1)) ^^^ ((wd >>> ((21 : Int32) &&& 31)) &&& 1)) ^^^ ((wd >>> ((22 : Int32) &&& 31)) &&& 1)) ^^^ ((wd >>> ((23 : Int32) &&& 31)) &&& 1)) ^^^ ((wd >>> ((24 : Int32) &&& 31)) &&& 1)) ^^^ ((wd >>> ((25 : Int32) &&& 31)) &&& 1))), (0, .ref h0), (1, .int wd)]) hx hb dX5_parity_23 hl (k := 1) rfl (by decide) (by decide) rfl (fun ls hl => ?_)
  refine lv_goto (tgt := 9) hx hb dX5_parity_26 (by decide) ?_
  refine lv_iload_n hx hb dX5_parity_9 rfl (lv_at hl 0 rfl) ?_
  refine lv_bipush (v := 32) hx hb dX5_parity_10 (by decide) ?_
  refine lv_icmp_ge (tgt := 29) hx hb dX5_parity_12 (by decide) (fun c9 => absurd c9 (by decide)) (fun _ => ?_)
  refine lv_iload_n hx hb dX5_parity_15 rfl (lv_at hl 1 rfl) ?_
  refine lv_iload_n hx hb dX5_parity_16 rfl (lv_at hl 3 rfl) ?_
  refine lv_iload_n hx hb dX5_parity_17 rfl (lv_at hl 0 rfl) ?_
  refine lv_ishr hx hb dX5_parity_18 ?_
  refine lv_iconst (v := 1) hx hb dX5_parity_19 (by decide) ?_
  refine lv_iand hx hb dX5_parity_20 ?_
  refine lv_ixor hx hb dX5_parity_21 ?_
  refine lv_istore_n (lv' := [(2, .int ((((((((((((((((((((((((((((0 : Int32) ^^^ ((wd >>> ((0 : Int32) &&& 31)) &&& 1)) ^^^ ((wd >>> ((1 : Int32) &&& 31)) &&& 1)) ^^^ ((wd >>> ((2 : Int32) &&& 31)) &&& 1)) ^^^ ((wd >>> ((3 : Int32) &&& 31)) &&& 1)) ^^^ ((wd >>> ((4 : Int32) &&& 31)) &&& 1)) ^^^ ((wd >>> ((5 : Int32) &&& 31)) &&& 1)) ^^^ ((wd >>> ((6 : Int32) &&& 31)) &&& 1)) ^^^ ((wd >>> ((7 : Int32) &&& 31)) &&& 1)) ^^^ ((wd >>> ((8 : Int32) &&& 31)) &&& 1)) ^^^ ((wd >>> ((9 : Int32) &&& 31)) &&& 1)) ^^^ ((wd >>> ((10 : Int32) &&& 31)) &&& 1)) ^^^ ((wd >>> ((11 : Int32) &&& 31)) &&& 1)) ^^^ ((wd >>> ((12 : Int32) &&& 31)) &&& 1)) ^^^ ((wd >>> ((13 : Int32) &&& 31)) &&& 1)) ^^^ ((wd >>> ((14 : Int32) &&& 31)) &&& 1)) ^^^ ((wd >>> ((15 : Int32) &&& 31)) &&& 1)) ^^^ ((wd >>> ((16 : Int32) &&& 31)) &&& 1)) ^^^ ((wd >>> ((17 : Int32) &&& 31)) &&& 1)) ^^^ ((wd >>> ((18 : Int32) &&& 31)) &&& 1)) ^^^ ((wd >>> ((19 : Int32) &&& 31)) &&& 1)) ^^^ ((wd >>> ((20 : Int32) &&& 31)) &&& 1)) ^^^ ((wd >>> ((21 : Int32) &&& 31)) &&& 1)) ^^^ ((wd >>> ((22 : Int32) &&& 31)) &&& 1)) ^^^ ((wd >>> ((23 : Int32) &&& 31)) &&& 1)) ^^^ ((wd >>> ((24 : Int32) &&& 31)) &&& 1)) ^^^ ((wd >>> ((25 : Int32) &&& 31)) &&& 1)) ^^^ ((wd >>> ((26 : Int32) &&& 31)) &&& 1))), (3, .int 26), (0, .ref h0), (1, .int wd)]) hx hb dX5_parity_22 rfl hl (by decide) rfl (fun ls hl => ?_)
  refine lv_iinc (v := 27) (lv' := [(3, .int 27), (2, .int ((((((((((((((((((((((((((((0 : Int32) ^^^ ((wd >>> ((0 : Int32) &&& 31)) &&& 1)) ^^^ ((wd >>> ((1 : Int32) &&& 31)) &&& 1)) ^^^ ((wd >>> ((2 : Int32) &&& 31)) &&& 1)) ^^^ ((wd >>> ((3 : Int32) &&& 31)) &&& 1)) ^^^ ((wd >>> ((4 : Int32) &&& 31)) &&& 1)) ^^^ ((wd >>> ((5 : Int32) &&& 31)) &&& 1)) ^^^ ((wd >>> ((6 : Int32) &&& 31)) &&& 1)) ^^^ ((wd >>> ((7 : Int32) &&& 31)) &&& 1)) ^^^ ((wd >>> ((8 : Int32) &&& 31)) &&& 1)) ^^^ ((wd >>> ((9 : Int32) &&& 31)) &&& 1)) ^^^ ((wd >>> ((10 : Int32) &&& 31)) &&& 1)) ^^^ ((wd >>> ((11 : Int32) &&& 31)) &&& 1)) ^^^ ((wd >>> ((12 : Int32) &&& 31)) &&& 1)) ^^^ ((wd >>> ((13 : Int32) &&& 31)) &&& 1)) ^^^ ((wd >>> ((14 : Int32) &&& 31)) &&& 1)) ^^^ ((wd >>> ((15 : Int32) &&& 31)) &&& 1)) ^^^ ((wd >>> ((16 : Int32) &&& 31)) &&& 1)) ^^^ ((wd >>> ((17 : Int32) &&& 31)) &&& 1)) ^^^ ((wd >>> ((18 : Int32) &&& 31)) &&& 1)) ^^^ ((wd >>> ((19 : Int32) &&& 31)) &&& 1)) ^^^ ((wd >>> ((20 : Int32) &&& 31)) &&& 1)) ^^^ ((wd >>> ((21 : Int32) &&& 31)) &&& 1)) ^^^ ((wd >>> ((22 : Int32) &&& 31)) &&& 1)) ^^^ ((wd >>> ((23 : Int32) &&& 31)) &&& 1)) ^^^ ((wd >>> ((24 : Int32) &&& 31)) &&& 1)) ^^^ ((wd >>> ((25 : Int32) &&& 31)) &&& 1)) ^^^ ((wd >>> ((26 : Int32) &&& 31)) &&& 1))), (0, .ref h0), (1, .int wd)]) hx hb dX5_parity_23 hl (k := 1) rfl (by decide) (by decide) rfl (fun ls hl => ?_)
  refine lv_goto (tgt := 9) hx hb dX5_parity_26 (by decide) ?_
  refine lv_iload_n hx hb dX5_parity_9 rfl (lv_at hl 0 rfl) ?_
  refine lv_bipush (v := 32) hx hb dX5_parity_10 (by decide) ?_
  refine lv_icmp_ge (tgt := 29) hx hb dX5_parity_12 (by decide) (fun c9 => absurd c9 (by decide)) (fun _ => ?_)
  refine lv_iload_n hx hb dX5_parity_15 rfl (lv_at hl 1 rfl) ?_
  refine lv_iload_n hx hb dX5_parity_16 rfl (lv_at hl 3 rfl) ?_
  refine lv_iload_n hx hb dX5_parity_17 rfl (lv_at hl 0 rfl) ?_
  refine lv_ishr hx hb dX5_parity_18 ?_
  refine lv_iconst (v := 1) hx hb dX5_parity_19 (by decide) ?_
  refine lv_iand hx hb dX5_parity_20 ?_
  refine lv_ixor hx hb dX5_parity_21 ?_
  refine lv_istore_n (lv' := [(2, .int (((((((((((((((((((((((((((((0 : Int32) ^^^ ((wd >>> ((0 : Int32) &&& 31)) &&& 1)) ^^^ ((wd >>> ((1 : Int32) &&& 31)) &&& 1)) ^^^ ((wd >>> ((2 : Int32) &&& 31)) &&& 1)) ^^^ ((wd >>> ((3 : Int32) &&& 31)) &&& 1)) ^^^ ((wd >>> ((4 : Int32) &&& 31)) &&& 1)) ^^^ ((wd >>> ((5 : Int32) &&& 31)) &&& 1)) ^^^ ((wd >>> ((6 : Int32) &&& 31)) &&& 1)) ^^^ ((wd >>> ((7 : Int32) &&& 31)) &&& 1)) ^^^ ((wd >>> ((8 : Int32) &&& 31)) &&& 1)) ^^^ ((wd >>> ((9 : Int32) &&& 31)) &&& 1)) ^^^ ((wd >>> ((10 : Int32) &&& 31)) &&& 1)) ^^^ ((wd >>> ((11 : Int32) &&& 31)) &&& 1)) ^^^ ((wd >>> ((12 : Int32) &&& 31)) &&& 1)) ^^^ ((wd >>> ((13 : Int32) &&& 31)) &&& 1)) ^^^ ((wd >>> ((14 : Int32) &&& 31)) &&& 1)) ^^^ ((wd >>> ((15 : Int32) &&& 31)) &&& 1)) ^^^ ((wd >>> ((16 : Int32) &&& 31)) &&& 1)) ^^^ ((wd >>> ((17 : Int32) &&& 31)) &&& 1)) ^^^ ((wd >>> ((18 : Int32) &&& 31)) &&& 1)) ^^^ ((wd >>> ((19 : Int32) &&& 31)) &&& 1)) ^^^ ((wd >>> ((20 : Int32) &&& 31)) &&& 1)) ^^^ ((wd >>> ((21 : Int32) &&& 31)) &&& 1)) ^^^ ((wd >>> ((22 : Int32) &&& 31)) &&& 1)) ^^^ ((wd >>> ((23 : Int32) &&& 31)) &&& 1)) ^^^ ((wd >>> ((24 : Int32) &&& 31)) &&& 1)) ^^^ ((wd >>> ((25 : Int32) &&& 31)) &&& 1)) ^^^ ((wd >>> ((26 : Int32) &&& 31)) &&& 1)) ^^^ ((wd >>> ((27 : Int32) &&& 31)) &&& 1))), (3, .int 27), (0, .ref h0), (1, .int wd)]) hx hb dX5_parity_22 rfl hl (by decide) rfl (fun ls hl => ?_)
  refine lv_iinc (v := 28) (lv' := [(3, .int 28), (2, .int (((((((((((((((((((((((((((((0 : Int32) ^^^ ((wd >>> ((0 : Int32) &&& 31)) &&& 1)) ^^^ ((wd >>> ((1 : Int32) &&& 31)) &&& 1)) ^^^ ((wd >>> ((2 : Int32) &&& 31)) &&& 1)) ^^^ ((wd >>> ((3 : Int32) &&& 31)) &&& 1)) ^^^ ((wd >>> ((4 : Int32) &&& 31)) &&& 1)) ^^^ ((wd >>> ((5 : Int32) &&& 31)) &&& 1)) ^^^ ((wd >>> ((6 : Int32) &&& 31)) &&& 1)) ^^^ ((wd >>> ((7 : Int32) &&& 31)) &&& 1)) ^^^ ((wd >>> ((8 : Int32) &&& 31)) &&& 1)) ^^^ ((wd >>> ((9 : Int32) &&& 31)) &&& 1)) ^^^ ((wd >>> ((10 : Int32) &&& 31)) &&& 1)) ^^^ ((wd >>> ((11 : Int32) &&& 31)) &&& 1)) ^^^ ((wd >>> ((12 : Int32) &&& 31)) &&& 1)) ^^^ ((wd >>> ((13 : Int32) &&& 31)) &&& 1)) ^^^ ((wd >>> ((14 : Int32) &&& 31)) &&& 1)) ^^^ ((wd >>> ((15 : Int32) &&& 31)) &&& 1)) ^^^ ((wd >>> ((16 : Int32) &&& 31)) &&& 1)) ^^^ ((wd >>> ((17 : Int32) &&& 31)) &&& 1)) ^^^ ((wd >>> ((18 : Int32) &&& 31)) &&& 1)) ^^^ ((wd >>> ((19 : Int32) &&& 31)) &&& 1)) ^^^ ((wd >>> ((20 : Int32) &&& 31)) &&& 1)) ^^^ ((wd >>> ((21 : Int32) &&& 31)) &&& 1)) ^^^ ((wd >>> ((22 : Int32) &&& 31)) &&& 1)) ^^^ ((wd >>> ((23 : Int32) &&& 31)) &&& 1)) ^^^ ((wd >>> ((24 : Int32) &&& 31)) &&& 1)) ^^^ ((wd >>> ((25 : Int32) &&& 31)) &&& 1)) ^^^ ((wd >>> ((26 : Int32) &&& 31)) &&& 1)) ^^^ ((wd >>> ((27 : Int32) &&& 31)) &&& 1))), (0, .ref h0), (1, .int wd)]) hx hb dX5_parity_23 hl (k := 1) rfl (by decide) (by decide) rfl (fun ls hl => ?_)
  refine lv_goto (tgt := 9) hx hb dX5_parity_26 (by decide) ?_
  refine lv_iload_n hx hb dX5_parity_9 rfl (lv_at hl 0 rfl) ?_
  refine lv_bipush (v := 32) hx hb dX5_parity_10 (by decide) ?_
  refine lv_icmp_ge (tgt := 29) hx hb dX5_parity_12 (by decide) (fun c9 => absurd c9 (by decide)) (fun _ => ?_)
  refine lv_iload_n hx hb dX5_parity_15 rfl (lv_at hl 1 rfl) ?_
  refine lv_iload_n hx hb dX5_parity_16 rfl (lv_at hl 3 rfl) ?_
  refine lv_iload_n hx hb dX5_parity_17 rfl (lv_at hl 0 rfl) ?_
  refine lv_ishr hx hb dX5_parity_18 ?_
  refine lv_iconst (v := 1) hx hb dX5_parity_19 (by decide) ?_
  refine lv_iand hx hb dX5_parity_20 ?_
  refine lv_ixor hx hb dX5_parity_21 ?_
  refine lv_istore_n (lv' := [(2, .int ((((((((((((((((((((((((((((((0 : Int32) ^^^ ((wd >>> ((0 : Int32) &&& 31)) &&& 1)) ^^^ ((wd >>> ((1 : Int32) &&& 31)) &&& 1)) ^^^ ((wd >>> ((2 : Int32) &&& 31)) &&& 1)) ^^^ ((wd >>> ((3 : Int32) &&& 31)) &&& 1)) ^^^ ((wd >>> ((4 : Int32) &&& 31)) &&& 1)) ^^^ ((wd >>> ((5 : Int32) &&& 31)) &&& 1)) ^^^ ((wd >>> ((6 : Int32) &&& 31)) &&& 1)) ^^^ ((wd >>> ((7 : Int32) &&& 31)) &&& 1)) ^^^ ((wd >>> ((8 : Int32) &&& 31)) &&& 1)) ^^^ ((wd >>> ((9 : Int32) &&& 31)) &&& 1)) ^^^ ((wd >>> ((10 : Int32) &&& 31)) &&& 1)) ^^^ ((wd >>> ((11 : Int32) &&& 31)) &&& 1)) ^^^ ((wd >>> ((12 : Int32) &&& 31)) &&& 1)) ^^^ ((wd >>> ((13 : Int32) &&& 31)) &&& 1)) ^^^ ((wd >>> ((14 : Int32) &&& 31)) &&& 1)) ^^^ ((wd >>> ((15 : Int32) &&& 31)) &&& 1)) ^^^ ((wd >>> ((16 : Int32) &&& 31)) &&& 1)) ^^^ ((wd >>> ((17 : Int32) &&& 31)) &&& 1)) ^^^ ((wd >>> ((18 : Int32) &&& 31)) &&& 1)) ^^^ ((wd >>> ((19 : Int32) &&& 31)) &&& 1)) ^^^ ((wd >>> ((20 : Int32) &&& 31)) &&& 1)) ^^^ ((wd >>> ((21 : Int32) &&& 31)) &&& 1)) ^^^ ((wd >>> ((22 : Int32) &&& 31)) &&& 1)) ^^^ ((wd >>> ((23 : Int32) &&& 31)) &&& 1)) ^^^ ((wd >>> ((24 : Int32) &&& 31)) &&& 1)) ^^^ ((wd >>> ((25 : Int32) &&& 31)) &&& 1)) ^^^ ((wd >>> ((26 : Int32) &&& 31)) &&& 1)) ^^^ ((wd >>> ((27 : Int32) &&& 31)) &&& 1)) ^^^ ((wd >>> ((28 : Int32) &&& 31)) &&& 1))), (3, .int 28), (0, .ref h0), (1, .int wd)]) hx hb dX5_parity_22 rfl hl (by decide) rfl (fun ls hl => ?_)
  refine lv_iinc (v := 29) (lv' := [(3, .int 29), (2, .int ((((((((((((((((((((((((((((((0 : Int32) ^^^ ((wd >>> ((0 : Int32) &&& 31)) &&& 1)) ^^^ ((wd >>> ((1 : Int32) &&& 31)) &&& 1)) ^^^ ((wd >>> ((2 : Int32) &&& 31)) &&& 1)) ^^^ ((wd >>> ((3 : Int32) &&& 31)) &&& 1)) ^^^ ((wd >>> ((4 : Int32) &&& 31)) &&& 1)) ^^^ ((wd >>> ((5 : Int32) &&& 31)) &&& 1)) ^^^ ((wd >>> ((6 : Int32) &&& 31)) &&& 1)) ^^^ ((wd >>> ((7 : Int32) &&& 31)) &&& 1)) ^^^ ((wd >>> ((8 : Int32) &&& 31)) &&& 1)) ^^^ ((wd >>> ((9 : Int32) &&& 31)) &&& 1)) ^^^ ((wd >>> ((10 : Int32) &&& 31)) &&& 1)) ^^^ ((wd >>> ((11 : Int32) &&& 31)) &&& 1)) ^^^ ((wd >>> ((12 : Int32) &&& 31)) &&& 1)) ^^^ ((wd >>> ((13 : Int32) &&& 31)) &&& 1)) ^^^ ((wd >>> ((14 : Int32) &&& 31)) &&& 1)) ^^^ ((wd >>> ((15 : Int32) &&& 31)) &&& 1)) ^^^ ((wd >>> ((16 : Int32) &&& 31)) &&& 1)) ^^^ ((wd >>> ((17 : Int32) &&& 31)) &&& 1)) ^^^ ((wd >>> ((18 : Int32) &&& 31)) &&& 1)) ^^^ ((wd >>> ((19 : Int32) &&& 31)) &&& 1)) ^^^ ((wd >>> ((20 : Int32) &&& 31)) &&& 1)) ^^^ ((wd >>> ((21 : Int32) &&& 31)) &&& 1)) ^^^ ((wd >>> ((22 : Int32) &&& 31)) &&& 1)) ^^^ ((wd >>> ((23 : Int32) &&& 31)) &&& 1)) ^^^ ((wd >>> ((24 : Int32) &&& 31)) &&& 1)) ^^^ ((wd >>> ((25 : Int32) &&& 31)) &&& 1)) ^^^ ((wd >>> ((26 : Int32) &&& 31)) &&& 1)) ^^^ ((wd >>> ((27 : Int32) &&& 31)) &&& 1)) ^^^ ((wd >>> ((28 : Int32) &&& 31)) &&& 1))), (0, .ref h0), (1, .int wd)]) hx hb dX5_parity_23 hl (k := 1) rfl (by decide) (by decide) rfl (fun ls hl => ?_)
  refine lv_goto (tgt := 9) hx hb dX5_parity_26 (by decide) ?_
  refine lv_iload_n hx hb dX5_parity_9 rfl (lv_at hl 0 rfl) ?_
  refine lv_bipush (v := 32) hx hb dX5_parity_10 (by decide) ?_
  refine lv_icmp_ge (tgt := 29) hx hb dX5_parity_12 (by decide) (fun c9 => absurd c9 (by decide)) (fun _ => ?_)
  refine lv_iload_n hx hb dX5_parity_15 rfl (lv_at hl 1 rfl) ?_
  refine lv_iload_n hx hb dX5_parity_16 rfl (lv_at hl 3 rfl) ?_
  refine lv_iload_n hx hb dX5_parity_17 rfl (lv_at hl 0 rfl) ?_
  refine lv_ishr hx hb dX5_parity_18 ?_
  refine lv_iconst (v := 1) hx hb dX5_parity_19 (by decide) ?_
  refine lv_iand hx hb dX5_parity_20 ?_
  refine lv_ixor hx hb dX5_parity_21 ?_
  refine lv_istore_n (lv' := [(2, .int (((((((((((((((((((((((((((((((0 : Int32) ^^^ ((wd >>> ((0 : Int32) &&& 31)) &&& 1)) ^^^ ((wd >>> ((1 : Int32) &&& 31)) &&& 1)) ^^^ ((wd >>> ((2 : Int32) &&& 31)) &&& 1)) ^^^ ((wd >>> ((3 : Int32) &&& 31)) &&& 1)) ^^^ ((wd >>> ((4 : Int32) &&& 31)) &&& 1)) ^^^ ((wd >>> ((5 : Int32) &&& 31)) &&& 1)) ^^^ ((wd >>> ((6 : Int32) &&& 31)) &&& 1)) ^^^ ((wd >>> ((7 : Int32) &&& 31)) &&& 1)) ^^^ ((wd >>> ((8 : Int32) &&& 31)) &&& 1)) ^^^ ((wd >>> ((9 : Int32) &&& 31)) &&& 1)) ^^^ ((wd >>> ((10 : Int32) &&& 31)) &&& 1)) ^^^ ((wd >>> ((11 : Int32) &&& 31)) &&& 1)) ^^^ ((wd >>> ((12 : Int32) &&& 31)) &&& 1)) ^^^ ((wd >>> ((13 : Int32) &&& 31)) &&& 1)) ^^^ ((wd >>> ((14 : Int32) &&& 31)) &&& 1)) ^^^ ((wd >>> ((15 : Int32) &&& 31)) &&& 1)) ^^^ ((wd >>> ((16 : Int32) &&& 31)) &&& 1)) ^^^ ((wd >>> ((17 : Int32) &&& 31)) &&& 1)) ^^^ ((wd >>> ((18 : Int32) &&& 31)) &&& 1)) ^^^ ((wd >>> ((19 : Int32) &&& 31)) &&& 1)) ^^^ ((wd >>> ((20 : Int32) &&& 31)) &&& 1)) ^^^ ((wd >>> ((21 : Int32) &&& 31)) &&& 1)) ^^^ ((wd >>> ((22 : Int32) &&& 31)) &&& 1)) ^^^ ((wd >>> ((23 : Int32) &&& 31)) &&& 1)) ^^^ ((wd >>> ((24 : Int32) &&& 31)) &&& 1)) ^^^ ((wd >>> ((25 : Int32) &&& 31)) &&& 1)) ^^^ ((wd >>> ((26 : Int32) &&& 31)) &&& 1)) ^^^ ((wd >>> ((27 : Int32) &&& 31)) &&& 1)) ^^^ ((wd >>> ((28 : Int32) &&& 31)) &&& 1)) ^^^ ((wd >>> ((29 : Int32) &&& 31)) &&& 1))), (3, .int 29), (0, .ref h0), (1, .int wd)]) hx hb dX5_parity_22 rfl hl (by decide) rfl (fun ls hl => ?_)
  refine lv_iinc (v := 30) (lv' := [(3, .int 30), (2, .int (((((((((((((((((((((((((((((((0 : Int32) ^^^ ((wd >>> ((0 : Int32) &&& 31)) &&& 1)) ^^^ ((wd >>> ((1 : Int32) &&& 31)) &&& 1)) ^^^ ((wd >>> ((2 : Int32) &&& 31)) &&& 1)) ^^^ ((wd >>> ((3 : Int32) &&& 31)) &&& 1)) ^^^ ((wd >>> ((4 : Int32) &&& 31)) &&& 1)) ^^^ ((wd >>> ((5 : Int32) &&& 31)) &&& 1)) ^^^ ((wd >>> ((6 : Int32) &&& 31)) &&& 1)) ^^^ ((wd >>> ((7 : Int32) &&& 31)) &&& 1)) ^^^ ((wd >>> ((8 : Int32) &&& 31)) &&& 1)) ^^^ ((wd >>> ((9 : Int32) &&& 31)) &&& 1)) ^^^ ((wd >>> ((10 : Int32) &&& 31)) &&& 1)) ^^^ ((wd >>> ((11 : Int32) &&& 31)) &&& 1)) ^^^ ((wd >>> ((12 : Int32) &&& 31)) &&& 1)) ^^^ ((wd >>> ((13 : Int32) &&& 31)) &&& 1)) ^^^ ((wd >>> ((14 : Int32) &&& 31)) &&& 1)) ^^^ ((wd >>> ((15 : Int32) &&& 31)) &&& 1)) ^^^ ((wd >>> ((16 : Int32) &&& 31)) &&& 1)) ^^^ ((wd >>> ((17 : Int32) &&& 31)) &&& 1)) ^^^ ((wd >>> ((18 : Int32) &&& 31)) &&& 1)) ^^^ ((wd >>> ((19 : Int32) &&& 31)) &&& 1)) ^^^ ((wd >>> ((20 : Int32) &&& 31)) &&& 1)) ^^^ ((wd >>> ((21 : Int32) &&& 31)) &&& 1)) ^^^ ((wd >>> ((22 : Int32) &&& 31)) &&& 1)) ^^^ ((wd >>> ((23 : Int32) &&& 31)) &&& 1)) ^^^ ((wd >>> ((24 : Int32) &&& 31)) &&& 1)) ^^^ ((wd >>> ((25 : Int32) &&& 31)) &&& 1)) ^^^ ((wd >>> ((26 : Int32) &&& 31)) &&& 1)) ^^^ ((wd >>> ((27 : Int32) &&& 31)) &&& 1)) ^^^ ((wd >>> ((28 : Int32) &&& 31)) &&& 1)) ^^^ ((wd >>> ((29 : Int32) &&& 31)) &&& 1))), (0, .ref h0), (1, .int wd)]) hx hb dX5_parity_23 hl (k := 1) rfl (by decide) (by decide) rfl (fun ls hl => ?_)
  refine lv_goto (tgt := 9) hx hb dX5_parity_26 (by decide) ?_
  refine lv_iload_n hx hb dX5_parity_9 rfl (lv_at hl 0 rfl) ?_
  refine lv_bipush (v := 32) hx hb dX5_parity_10 (by decide) ?_
  refine lv_icmp_ge (tgt := 29) hx hb dX5_parity_12 (by decide) (fun c9 => absurd c9 (by decide)) (fun _ => ?_)
  refine lv_iload_n hx hb dX5_parity_15 rfl (lv_at hl 1 rfl) ?_
  refine lv_iload_n hx hb dX5_parity_16 rfl (lv_at hl 3 rfl) ?_
  refine lv_iload_n hx hb dX5_parity_17 rfl (lv_at hl 0 rfl) ?_
  refine lv_ishr hx hb dX5_parity_18 ?_
  refine lv_iconst (v := 1) hx hb dX5_parity_19 (by decide) ?_
  refine lv_iand hx hb dX5_parity_20 ?_
  refine lv_ixor hx hb dX5_parity_21 ?_
  refine lv_istore_n (lv' := [(2, .int ((((((((((((((((((((((((((((((((0 : Int32) ^^^ ((wd >>> ((0 : Int32) &&& 31)) &&& 1)) ^^^ ((wd >>> ((1 : Int32) &&& 31)) &&& 1)) ^^^ ((wd >>> ((2 : Int32) &&& 31)) &&& 1)) ^^^ ((wd >>> ((3 : Int32) &&& 31)) &&& 1)) ^^^ ((wd >>> ((4 : Int32) &&& 31)) &&& 1)) ^^^ ((wd >>> ((5 : Int32) &&& 31)) &&& 1)) ^^^ ((wd >>> ((6 : Int32) &&& 31)) &&& 1)) ^^^ ((wd >>> ((7 : Int32) &&& 31)) &&& 1)) ^^^ ((wd >>> ((8 : Int32) &&& 31)) &&& 1)) ^^^ ((wd >>> ((9 : Int32) &&& 31)) &&& 1)) ^^^ ((wd >>> ((10 : Int32) &&& 31)) &&& 1)) ^^^ ((wd >>> ((11 : Int32) &&& 31)) &&& 1)) ^^^ ((wd >>> ((12 : Int32) &&& 31)) &&& 1)) ^^^ ((wd >>> ((13 : Int32) &&& 31)) &&& 1)) ^^^ ((wd >>> ((14 : Int32) &&& 31)) &&& 1)) ^^^ ((wd >>> ((15 : Int32) &&& 31)) &&& 1)) ^^^ ((wd >>> ((16 : Int32) &&& 31)) &&& 1)) ^^^ ((wd >>> ((17 : Int32) &&& 31)) &&& 1)) ^^^ ((wd >>> ((18 : Int32) &&& 31)) &&& 1)) ^^^ ((wd >>> ((19 : Int32) &&& 31)) &&& 1)) ^^^ ((wd >>> ((20 : Int32) &&& 31)) &&& 1)) ^^^ ((wd >>> ((21 : Int32) &&& 31)) &&& 1)) ^^^ ((wd >>> ((22 : Int32) &&& 31)) &&& 1)) ^^^ ((wd >>> ((23 : Int32) &&& 31)) &&& 1)) ^^^ ((wd >>> ((24 : Int32) &&& 31)) &&& 1)) ^^^ ((wd >>> ((25 : Int32) &&& 31)) &&& 1)) ^^^ ((wd >>> ((26 : Int32) &&& 31)) &&& 1)) ^^^ ((wd >>> ((27 : Int32) &&& 31)) &&& 1)) ^^^ ((wd >>> ((28 : Int32) &&& 31)) &&& 1)) ^^^ ((wd >>> ((29 : Int32) &&& 31)) &&& 1)) ^^^ ((wd >>> ((30 : Int32) &&& 31)) &&& 1))), (3, .int 30), (0, .ref h0), (1, .int wd)]) hx hb dX5_parity_22 rfl hl (by decide) rfl (fun ls hl => ?_)
  refine lv_iinc (v := 31) (lv' := [(3, .int 31), (2, .int ((((((((((((((((((((((((((((((((0 : Int32) ^^^ ((wd >>> ((0 : Int32) &&& 31)) &&& 1)) ^^^ ((wd >>> ((1 : Int32) &&& 31)) &&& 1)) ^^^ ((wd >>> ((2 : Int32) &&& 31)) &&& 1)) ^^^ ((wd >>> ((3 : Int32) &&& 31)) &&& 1)) ^^^ ((wd >>> ((4 : Int32) &&& 31)) &&& 1)) ^^^ ((wd >>> ((5 : Int32) &&& 31)) &&& 1)) ^^^ ((wd >>> ((6 : Int32) &&& 31)) &&& 1)) ^^^ ((wd >>> ((7 : Int32) &&& 31)) &&& 1)) ^^^ ((wd >>> ((8 : Int32) &&& 31)) &&& 1)) ^^^ ((wd >>> ((9 : Int32) &&& 31)) &&& 1)) ^^^ ((wd >>> ((10 : Int32) &&& 31)) &&& 1)) ^^^ ((wd >>> ((11 : Int32) &&& 31)) &&& 1)) ^^^ ((wd >>> ((12 : Int32) &&& 31)) &&& 1)) ^^^ ((wd >>> ((13 : Int32) &&& 31)) &&& 1)) ^^^ ((wd >>> ((14 : Int32) &&& 31)) &&& 1)) ^^^ ((wd >>> ((15 : Int32) &&& 31)) &&& 1)) ^^^ ((wd >>> ((16 : Int32) &&& 31)) &&& 1)) ^^^ ((wd >>> ((17 : Int32) &&& 31)) &&& 1)) ^^^ ((wd >>> ((18 : Int32) &&& 31)) &&& 1)) ^^^ ((wd >>> ((19 : Int32) &&& 31)) &&& 1)) ^^^ ((wd >>> ((20 : Int32) &&& 31)) &&& 1)) ^^^ ((wd >>> ((21 : Int32) &&& 31)) &&& 1)) ^^^ ((wd >>> ((22 : Int32) &&& 31)) &&& 1)) ^^^ ((wd >>> ((23 : Int32) &&& 31)) &&& 1)) ^^^ ((wd >>> ((24 : Int32) &&& 31)) &&& 1)) ^^^ ((wd >>> ((25 : Int32) &&& 31)) &&& 1)) ^^^ ((wd >>> ((26 : Int32) &&& 31)) &&& 1)) ^^^ ((wd >>> ((27 : Int32) &&& 31)) &&& 1)) ^^^ ((wd >>> ((28 : Int32) &&& 31)) &&& 1)) ^^^ ((wd >>> ((29 : Int32) &&& 31)) &&& 1)) ^^^ ((wd >>> ((30 : Int32) &&& 31)) &&& 1))), (0, .ref h0), (1, .int wd)]) hx hb dX5_parity_23 hl (k := 1) rfl (by decide) (by decide) rfl (fun ls hl => ?_)
  refine lv_goto (tgt := 9) hx hb dX5_parity_26 (by decide) ?_
  refine lv_iload_n hx hb dX5_parity_9 rfl (lv_at hl 0 rfl) ?_
  refine lv_bipush (v := 32) hx hb dX5_parity_10 (by decide) ?_
  refine lv_icmp_ge (tgt := 29) hx hb dX5_parity_12 (by decide) (fun c9 => absurd c9 (by decide)) (fun _ => ?_)
  refine lv_iload_n hx hb dX5_parity_15 rfl (lv_at hl 1 rfl) ?_
  refine lv_iload_n hx hb dX5_parity_16 rfl (lv_at hl 3 rfl) ?_
  refine lv_iload_n hx hb dX5_parity_17 rfl (lv_at hl 0 rfl) ?_
  refine lv_ishr hx hb dX5_parity_18 ?_
  refine lv_iconst (v := 1) hx hb dX5_parity_19 (by decide) ?_
  refine lv_iand hx hb dX5_parity_20 ?_
  refine lv_ixor hx hb dX5_parity_21 ?_
  refine lv_istore_n (lv' := [(2, .int (((((((((((((((((((((((((((((((((0 : Int32) ^^^ ((wd >>> ((0 : Int32) &&& 31)) &&& 1)) ^^^ ((wd >>> ((1 : Int32) &&& 31)) &&& 1)) ^^^ ((wd >>> ((2 : Int32) &&& 31)) &&& 1)) ^^^ ((wd >>> ((3 : Int32) &&& 31)) &&& 1)) ^^^ ((wd >>> ((4 : Int32) &&& 31)) &&& 1)) ^^^ ((wd >>> ((5 : Int32) &&& 31)) &&& 1)) ^^^ ((wd >>> ((6 : Int32) &&& 31)) &&& 1)) ^^^ ((wd >>> ((7 : Int32) &&& 31)) &&& 1)) ^^^ ((wd >>> ((8 : Int32) &&& 31)) &&& 1)) ^^^ ((wd >>> ((9 : Int32) &&& 31)) &&& 1)) ^^^ ((wd >>> ((10 : Int32) &&& 31)) &&& 1)) ^^^ ((wd >>> ((11 : Int32) &&& 31)) &&& 1)) ^^^ ((wd >>> ((12 : Int32) &&& 31)) &&& 1)) ^^^ ((wd >>> ((13 : Int32) &&& 31)) &&& 1)) ^^^ ((wd >>> ((14 : Int32) &&& 31)) &&& 1)) ^^^ ((wd >>> ((15 : Int32) &&& 31)) &&& 1)) ^^^ ((wd >>> ((16 : Int32) &&& 31)) &&& 1)) ^^^ ((wd >>> ((17 : Int32) &&& 31)) &&& 1)) ^^^ ((wd >>> ((18 : Int32) &&& 31)) &&& 1)) ^^^ ((wd >>> ((19 : Int32) &&& 31)) &&& 1)) ^^^ ((wd >>> ((20 : Int32) &&& 31)) &&& 1)) ^^^ ((wd >>> ((21 : Int32) &&& 31)) &&& 1)) ^^^ ((wd >>> ((22 : Int32) &&& 31)) &&& 1)) ^^^ ((wd >>> ((23 : Int32) &&& 31)) &&& 1)) ^^^ ((wd >>> ((24 : Int32) &&& 31)) &&& 1)) ^^^ ((wd >>> ((25 : Int32) &&& 31)) &&& 1)) ^^^ ((wd >>> ((26 : Int32) &&& 31)) &&& 1)) ^^^ ((wd >>> ((27 : Int32) &&& 31)) &&& 1)) ^^^ ((wd >>> ((28 : Int32) &&& 31)) &&& 1)) ^^^ ((wd >>> ((29 : Int32) &&& 31)) &&& 1)) ^^^ ((wd >>> ((30 : Int32) &&& 31)) &&& 1)) ^^^ ((wd >>> ((31 : Int32) &&& 31)) &&& 1))), (3, .int 31), (0, .ref h0), (1, .int wd)]) hx hb dX5_parity_22 rfl hl (by decide) rfl (fun ls hl => ?_)
  refine lv_iinc (v := 32) (lv' := [(3, .int 32), (2, .int (((((((((((((((((((((((((((((((((0 : Int32) ^^^ ((wd >>> ((0 : Int32) &&& 31)) &&& 1)) ^^^ ((wd >>> ((1 : Int32) &&& 31)) &&& 1)) ^^^ ((wd >>> ((2 : Int32) &&& 31)) &&& 1)) ^^^ ((wd >>> ((3 : Int32) &&& 31)) &&& 1)) ^^^ ((wd >>> ((4 : Int32) &&& 31)) &&& 1)) ^^^ ((wd >>> ((5 : Int32) &&& 31)) &&& 1)) ^^^ ((wd >>> ((6 : Int32) &&& 31)) &&& 1)) ^^^ ((wd >>> ((7 : Int32) &&& 31)) &&& 1)) ^^^ ((wd >>> ((8 : Int32) &&& 31)) &&& 1)) ^^^ ((wd >>> ((9 : Int32) &&& 31)) &&& 1)) ^^^ ((wd >>> ((10 : Int32) &&& 31)) &&& 1)) ^^^ ((wd >>> ((11 : Int32) &&& 31)) &&& 1)) ^^^ ((wd >>> ((12 : Int32) &&& 31)) &&& 1)) ^^^ ((wd >>> ((13 : Int32) &&& 31)) &&& 1)) ^^^ ((wd >>> ((14 : Int32) &&& 31)) &&& 1)) ^^^ ((wd >>> ((15 : Int32) &&& 31)) &&& 1)) ^^^ ((wd >>> ((16 : Int32) &&& 31)) &&& 1)) ^^^ ((wd >>> ((17 : Int32) &&& 31)) &&& 1)) ^^^ ((wd >>> ((18 : Int32) &&& 31)) &&& 1)) ^^^ ((wd >>> ((19 : Int32) &&& 31)) &&& 1)) ^^^ ((wd >>> ((20 : Int32) &&& 31)) &&& 1)) ^^^ ((wd >>> ((21 : Int32) &&& 31)) &&& 1)) ^^^ ((wd >>> ((22 : Int32) &&& 31)) &&& 1)) ^^^ ((wd >>> ((23 : Int32) &&& 31)) &&& 1)) ^^^ ((wd >>> ((24 : Int32) &&& 31)) &&& 1)) ^^^ ((wd >>> ((25 : Int32) &&& 31)) &&& 1)) ^^^ ((wd >>> ((26 : Int32) &&& 31)) &&& 1)) ^^^ ((wd >>> ((27 : Int32) &&& 31)) &&& 1)) ^^^ ((wd >>> ((28 : Int32) &&& 31)) &&& 1)) ^^^ ((wd >>> ((29 : Int32) &&& 31)) &&& 1)) ^^^ ((wd >>> ((30 : Int32) &&& 31)) &&& 1)) ^^^ ((wd >>> ((31 : Int32) &&& 31)) &&& 1))), (0, .ref h0), (1, .int wd)]) hx hb dX5_parity_23 hl (k := 1) rfl (by decide) (by decide) rfl (fun ls hl => ?_)
  refine lv_goto (tgt := 9) hx hb dX5_parity_26 (by decide) ?_
  refine lv_iload_n hx hb dX5_parity_9 rfl (lv_at hl 0 rfl) ?_
  refine lv_bipush (v := 32) hx hb dX5_parity_10 (by decide) ?_
  refine lv_icmp_ge (tgt := 29) hx hb dX5_parity_12 (by decide) (fun _ => ?_) (fun c9 => absurd c9 (by decide))
  refine lv_iload_n hx hb dX5_parity_29 rfl (lv_at hl 1 rfl) ?_
  have hP9 : va_P (dC, dI) vwCl [(h0, .inr (6, [.int 0, .long tl, .int ed, .long eg, .int aw, .long tk, .long un, .ref b1, .int sm, .ref b2, .int frs, .ref b3, .ref b4, .ref b5, .int bts, .ref b6, .int msn, .ref b7, .int flt, .int bh, .int mkd, .int sta, .int lvl, .long snc, .long tld, .int fst, .int snd, .int stp]))] H := by exact hP.sub [0] rfl
  have hD9 : va_D A [(h0, .inr (6, [.int 0, .long tl, .int ed, .long eg, .int aw, .long tk, .long un, .ref b1, .int sm, .ref b2, .int frs, .ref b3, .ref b4, .ref b5, .int bts, .ref b6, .int msn, .ref b7, .int flt, .int bh, .int mkd, .int sta, .int lvl, .long snc, .long tld, .int fst, .int snd, .int stp]))] := by exact hD.sub [0] (by decide) rfl
  have e_35 : ((((((((((((((((((((((((((((((((0 : Int32) ^^^ ((wd >>> ((0 : Int32) &&& 31)) &&& 1)) ^^^ ((wd >>> ((1 : Int32) &&& 31)) &&& 1)) ^^^ ((wd >>> ((2 : Int32) &&& 31)) &&& 1)) ^^^ ((wd >>> ((3 : Int32) &&& 31)) &&& 1)) ^^^ ((wd >>> ((4 : Int32) &&& 31)) &&& 1)) ^^^ ((wd >>> ((5 : Int32) &&& 31)) &&& 1)) ^^^ ((wd >>> ((6 : Int32) &&& 31)) &&& 1)) ^^^ ((wd >>> ((7 : Int32) &&& 31)) &&& 1)) ^^^ ((wd >>> ((8 : Int32) &&& 31)) &&& 1)) ^^^ ((wd >>> ((9 : Int32) &&& 31)) &&& 1)) ^^^ ((wd >>> ((10 : Int32) &&& 31)) &&& 1)) ^^^ ((wd >>> ((11 : Int32) &&& 31)) &&& 1)) ^^^ ((wd >>> ((12 : Int32) &&& 31)) &&& 1)) ^^^ ((wd >>> ((13 : Int32) &&& 31)) &&& 1)) ^^^ ((wd >>> ((14 : Int32) &&& 31)) &&& 1)) ^^^ ((wd >>> ((15 : Int32) &&& 31)) &&& 1)) ^^^ ((wd >>> ((16 : Int32) &&& 31)) &&& 1)) ^^^ ((wd >>> ((17 : Int32) &&& 31)) &&& 1)) ^^^ ((wd >>> ((18 : Int32) &&& 31)) &&& 1)) ^^^ ((wd >>> ((19 : Int32) &&& 31)) &&& 1)) ^^^ ((wd >>> ((20 : Int32) &&& 31)) &&& 1)) ^^^ ((wd >>> ((21 : Int32) &&& 31)) &&& 1)) ^^^ ((wd >>> ((22 : Int32) &&& 31)) &&& 1)) ^^^ ((wd >>> ((23 : Int32) &&& 31)) &&& 1)) ^^^ ((wd >>> ((24 : Int32) &&& 31)) &&& 1)) ^^^ ((wd >>> ((25 : Int32) &&& 31)) &&& 1)) ^^^ ((wd >>> ((26 : Int32) &&& 31)) &&& 1)) ^^^ ((wd >>> ((27 : Int32) &&& 31)) &&& 1)) ^^^ ((wd >>> ((28 : Int32) &&& 31)) &&& 1)) ^^^ ((wd >>> ((29 : Int32) &&& 31)) &&& 1)) ^^^ ((wd >>> ((30 : Int32) &&& 31)) &&& 1)) ^^^ ((wd >>> ((31 : Int32) &&& 31)) &&& 1) = X5_parity_r wd := by rw [X5_parity_r]
  exact W.iret (v := ((((((((((((((((((((((((((((((((0 : Int32) ^^^ ((wd >>> ((0 : Int32) &&& 31)) &&& 1)) ^^^ ((wd >>> ((1 : Int32) &&& 31)) &&& 1)) ^^^ ((wd >>> ((2 : Int32) &&& 31)) &&& 1)) ^^^ ((wd >>> ((3 : Int32) &&& 31)) &&& 1)) ^^^ ((wd >>> ((4 : Int32) &&& 31)) &&& 1)) ^^^ ((wd >>> ((5 : Int32) &&& 31)) &&& 1)) ^^^ ((wd >>> ((6 : Int32) &&& 31)) &&& 1)) ^^^ ((wd >>> ((7 : Int32) &&& 31)) &&& 1)) ^^^ ((wd >>> ((8 : Int32) &&& 31)) &&& 1)) ^^^ ((wd >>> ((9 : Int32) &&& 31)) &&& 1)) ^^^ ((wd >>> ((10 : Int32) &&& 31)) &&& 1)) ^^^ ((wd >>> ((11 : Int32) &&& 31)) &&& 1)) ^^^ ((wd >>> ((12 : Int32) &&& 31)) &&& 1)) ^^^ ((wd >>> ((13 : Int32) &&& 31)) &&& 1)) ^^^ ((wd >>> ((14 : Int32) &&& 31)) &&& 1)) ^^^ ((wd >>> ((15 : Int32) &&& 31)) &&& 1)) ^^^ ((wd >>> ((16 : Int32) &&& 31)) &&& 1)) ^^^ ((wd >>> ((17 : Int32) &&& 31)) &&& 1)) ^^^ ((wd >>> ((18 : Int32) &&& 31)) &&& 1)) ^^^ ((wd >>> ((19 : Int32) &&& 31)) &&& 1)) ^^^ ((wd >>> ((20 : Int32) &&& 31)) &&& 1)) ^^^ ((wd >>> ((21 : Int32) &&& 31)) &&& 1)) ^^^ ((wd >>> ((22 : Int32) &&& 31)) &&& 1)) ^^^ ((wd >>> ((23 : Int32) &&& 31)) &&& 1)) ^^^ ((wd >>> ((24 : Int32) &&& 31)) &&& 1)) ^^^ ((wd >>> ((25 : Int32) &&& 31)) &&& 1)) ^^^ ((wd >>> ((26 : Int32) &&& 31)) &&& 1)) ^^^ ((wd >>> ((27 : Int32) &&& 31)) &&& 1)) ^^^ ((wd >>> ((28 : Int32) &&& 31)) &&& 1)) ^^^ ((wd >>> ((29 : Int32) &&& 31)) &&& 1)) ^^^ ((wd >>> ((30 : Int32) &&& 31)) &&& 1)) ^^^ ((wd >>> ((31 : Int32) &&& 31)) &&& 1)) hx hb hr (fun t ht hW => ⟨⟨_, (), rfl, e_35, po.ret ht hW hP9 hK hD9⟩, hS.F ht⟩) hS.2.2 dX5_parity_30
