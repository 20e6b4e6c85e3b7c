theorem vin7 {x N M : Int32} {n : Nat} (hN : M.toInt + 1 = n) (h0 : ¬ x < 0) (h1 : x ≤ M) : vp_in x n := by
  rw [vp_in_iff]
  rw [Int32.lt_iff_toInt_lt] at h0
  rw [Int32.le_iff_toInt_le] at h1
  have e0 : (0 : Int32).toInt = 0 := rfl
  omega
theorem vin3 {x y N : Int32} {n : Nat} (hN : N.toInt = n) (h0 : ¬ x < 0) (h1 : x < y) (h2 : ¬ N < y) : vp_in x n := by
  rw [vp_in_iff]
  rw [Int32.lt_iff_toInt_lt] at h0 h1 h2
  have e0 : (0 : Int32).toInt = 0 := rfl
  omega
/-- the loop of the twin's edge: the nibble's value -/
def ed_lp (n9 tk : Int64) : Nat → Nat → Nat
  | 0, k => k
  | n + 1, k => if 16 ≤ nI k then k else (if 56000 < n9 then k else (if 56 * n9 + tk / 2 < (nI k + 13).toInt64 * tk then k else ed_lp n9 tk n (k + 1)))
theorem nI_k16 {k : Nat} (hk : k ≤ 16) (h : ¬ 16 ≤ nI k) : k < 16 := by
  rcases Nat.lt_or_ge k 16 with q | q
  · exact q
  · exact absurd (show nI 16 ≤ nI k from nI_le q (by omega)) h
def X5_thrown_r (cd : Int32) : Int32 := cd
set_option maxHeartbeats 4000000 in
set_option maxRecDepth 100000 in
theorem k_X5_thrown (l : Launch) (dC : Nat → ClassId) (dI : Nat → Nat → Nat) (sz : Nat) (h0 : Nat) (cd : Int32) (tl : Int64) (ed : Int32) (eg : Int64) (aw : Int32) (tk : Int64) (un : Int64) (b1 : Nat) (sm : Int32) (b2 : Nat) (frs : Int32) (b3 : Nat) (b4 : Nat) (b5 : Nat) (bts : Int32) (b6 : Nat) (msn : Int32) (b7 : Nat) (flt : Int32) (bh : Int32) (mkd : Int32) (sta : Int32) (lvl : Int32) (snc : Int64) (tld : Int64) (fst : Int32) (snd : Int32) (stp : Int32)  : Met l yX5_thrown wsX5_thrown ({ frames := 0, cells := 0, slots := 0, locals := 0 }) (va_Pc [.ref h0] (pr (dC, dI) [] [(h0, .inr (6, [.int cd, .long tl, .int ed, .long eg, .int aw, .long tk, .long un, .ref b1, .int sm, .ref b2, .int frs, .ref b3, .ref b4, .ref b5, .int bts, .ref b6, .int msn, .ref b7, .int flt, .int bh, .int mkd, .int sta, .int lvl, .long snc, .long tld, .int fst, .int snd, .int stp]))] sz)) (va_Qi (fun (r : Int32) (_ : Unit) => r = X5_thrown_r cd) (fun _ t => po (dC, dI) [] (va_A [(h0, .inr (6, [.int cd, .long tl, .int ed, .long eg, .int aw, .long tk, .long un, .ref b1, .int sm, .ref b2, .int frs, .ref b3, .ref b4, .ref b5, .int bts, .ref b6, .int msn, .ref b7, .int flt, .int bh, .int mkd, .int sta, .int lvl, .long snc, .long tld, .int fst, .int snd, .int stp]))] sz) [(h0, .inr (6, [.int cd, .long tl, .int ed, .long eg, .int aw, .long tk, .long un, .ref b1, .int sm, .ref b2, .int frs, .ref b3, .ref b4, .ref b5, .int bts, .ref b6, .int msn, .ref b7, .int flt, .int bh, .int mkd, .int sta, .int lvl, .long snc, .long tld, .int fst, .int snd, .int stp]))] t) (va_A [(h0, .inr (6, [.int cd, .long tl, .int ed, .long eg, .int aw, .long tk, .long un, .ref b1, .int sm, .ref b2, .int frs, .ref b3, .ref b4, .ref b5, .int bts, .ref b6, .int msn, .ref b7, .int flt, .int bh, .int mkd, .int sta, .int lvl, .long snc, .long tld, .int fst, .int snd, .int stp]))] sz)) 0 0 (va_A [(h0, .inr (6, [.int cd, .long tl, .int ed, .long eg, .int aw, .long tk, .long un, .ref b1, .int sm, .ref b2, .int frs, .ref b3, .ref b4, .ref b5, .int bts, .ref b6, .int msn, .ref b7, .int flt, .int bh, .int mkd, .int sta, .int lvl, .long snc, .long tld, .int fst, .int snd, .int stp]))] sz) := by
  refine Met.ofW (cc := cX5_thrown) (maxL := 1) (ret := (some .int)) (by decide) rfl ?_
  intro p e s m args below meth c s₁ B hml hv
  obtain ⟨rfl, hsz, hP, hK, hD0⟩ := hv
  have hx := B.exec
  have hb := B.bytes
  have hr := B.returns
  have hts := atoms_spec (ws := wsX5_thrown) B.pre
  have hown : s.vm.findClass RX5 = some m.cls := findClass_of_methodNamed B.named
  have hlocks := B.notSynchronized
  subst hsz
  have hD := hD0.self (sz := s.heap.size)
  generalize hAe : va_A [(h0, .inr (6, [.int cd, .long tl, .int ed, .long eg, .int aw, .long tk, .long un, .ref b1, .int sm, .ref b2, .int frs, .ref b3, .ref b4, .ref b5, .int bts, .ref b6, .int msn, .ref b7, .int flt, .int bh, .int mkd, .int sta, .int lvl, .long snc, .long tld, .int fst, .int snd, .int stp]))] s.heap.size = A at hD ⊢
  have hA : ∀ q : Nat, s.heap.size ≤ q → A q := fun q h => by rw [← hAe]; exact Or.inr h
  have hS : va_S A s.heap s.heap [] := va_S.rf
  have hP : va_P (dC, dI) vwCl [(h0, .inr (6, [.int cd, .long tl, .int ed, .long eg, .int aw, .long tk, .long un, .ref b1, .int sm, .ref b2, .int frs, .ref b3, .ref b4, .ref b5, .int bts, .ref b6, .int msn, .ref b7, .int flt, .int bh, .int mkd, .int sta, .int lvl, .long snc, .long tld, .int fst, .int snd, .int stp]))] s.heap := hP
  have iX5 : ∀ w ∈ wsX50, w ∈ wsX5_thrown := by decide +kernel
  have hl := lv_entry ([.ref h0]) (n := 1) (Nat.le_of_ble_eq_true rfl)
  rw [lg_entry_eq]
  generalize (lg_sl ([.ref h0]) ++ List.replicate (1 - (lg_sl ([.ref h0])).length) Slot.unset).toArray = ls at hl ⊢
  have hl : lv_has ls 1 [(0, .ref h0)] := hl
  refine lv_aload_n hx hb dX5_thrown_0 rfl (lv_at hl 0 rfl) ?_
  refine va_get (D := (dC, dI)) (ci := 6) (v := .int cd) (C := RX5) (T := TX5) (N := 28) hx hb hts iX5 hown hK hP 0 rfl rfl 0 (by decide) (hts (.fieldLink RX5 42 "PulseRowsModel" "code" "I") (List.mem_of_getElem? (i := 1) rfl)) (fun _ h9 => h9) rfl dX5_thrown_1 ?_
  have hP9 : va_P (dC, dI) vwCl [(h0, .inr (6, [.int cd, .long tl, .int ed, .long eg, .int aw, .long tk, .long un, .ref b1, .int sm, .ref b2, .int frs, .ref b3, .ref b4, .ref b5, .int bts, .ref b6, .int msn, .ref b7, .int flt, .int bh, .int mkd, .int sta, .int lvl, .long snc, .long tld, .int fst, .int snd, .int stp]))] s.heap := by exact hP.sub [0] rfl
  have hD9 : va_D A [(h0, .inr (6, [.int cd, .long tl, .int ed, .long eg, .int aw, .long tk, .long un, .ref b1, .int sm, .ref b2, .int frs, .ref b3, .ref b4, .ref b5, .int bts, .ref b6, .int msn, .ref b7, .int flt, .int bh, .int mkd, .int sta, .int lvl, .long snc, .long tld, .int fst, .int snd, .int stp]))] := by exact hD.sub [0] (by decide) rfl
  have e_1 : cd = X5_thrown_r cd := by rw [X5_thrown_r]
  exact W.iret (v := cd) hx hb hr (fun t ht hW => ⟨⟨_, (), rfl, e_1, po.ret ht hW hP9 hK hD9⟩, hS.F ht⟩) hS.2.2 dX5_thrown_4
def X5_turned_r (cx : Int32) : Int32 := if (cx &&& 1) ≤ 0 then (if (cx &&& 2) ≤ 0 then (if (cx &&& 4) ≤ 0 then (if (cx &&& 8) ≤ 0 then 0 else 1) else (if (cx &&& 8) ≤ 0 then 14 else 15)) else (if (cx &&& 4) ≤ 0 then (if (cx &&& 8) ≤ 0 then 7 else 6) else (if (cx &&& 8) ≤ 0 then 9 else 8))) else (if (cx &&& 2) ≤ 0 then (if (cx &&& 4) ≤ 0 then (if (cx &&& 8) ≤ 0 then 13 else 12) else (if (cx &&& 8) ≤ 0 then 3 else 2)) else (if (cx &&& 4) ≤ 0 then (if (cx &&& 8) ≤ 0 then 10 else 11) else (if (cx &&& 8) ≤ 0 then 4 else 5)))
set_option maxHeartbeats 4000000 in
set_option maxRecDepth 100000 in
theorem k_X5_turned (l : Launch) (dC : Nat → ClassId) (dI : Nat → Nat → Nat) (sz : Nat) (cx : Int32)  : Met l yX5_turned wsX5_turned ({ frames := 0, cells := 0, slots := 0, locals := 0 }) (va_Pc [.int cx] (pr (dC, dI) [] [] sz)) (va_Qi (fun (r : Int32) (_ : Unit) => r = X5_turned_r cx) (fun _ t => po (dC, dI) [] (va_A [] sz) [] t) (va_A [] sz)) 0 0 (va_A [] sz) := by
  refine Met.ofW (cc := cX5_turned) (maxL := 2) (ret := (some .int)) (by decide) rfl ?_
  intro p e s m args below meth c s₁ B hml hv
  obtain ⟨rfl, hsz, hP, hK, hD0⟩ := hv
  have hx := B.exec
  have hb := B.bytes
  have hr := B.returns
  have hts := atoms_spec (ws := wsX5_turned) B.pre
  have hown : s.vm.findClass RX5 = some m.cls := findClass_of_methodNamed B.named
  have hlocks := B.notSynchronized
  subst hsz
  have hD := hD0.self (sz := s.heap.size)
  generalize hAe : va_A [] s.heap.size = A at hD ⊢
  have hA : ∀ q : Nat, s.heap.size ≤ q → A q := fun q h => by rw [← hAe]; exact Or.inr h
  have hS : va_S A s.heap s.heap [] := va_S.rf
  have hP : va_P (dC, dI) vwCl [] s.heap := hP
  have hl := lv_entry ([.int cx]) (n := 2) (Nat.le_of_ble_eq_true rfl)
  rw [lg_entry_eq]
  generalize (lg_sl ([.int cx]) ++ List.replicate (2 - (lg_sl ([.int cx])).length) Slot.unset).toArray = ls at hl ⊢
  have hl : lv_has ls 2 [(0, .int cx)] := hl
  refine lv_iconst (v := 0) hx hb dX5_turned_0 (by decide) ?_
  refine lv_istore_n (lv' := [(1, .int 0), (0, .int cx)]) hx hb dX5_turned_1 rfl hl (by decide) rfl (fun ls hl => ?_)
  refine lv_iload_n hx hb dX5_turned_2 rfl (lv_at hl 1 rfl) ?_
  refine lv_iconst (v := 1) hx hb dX5_turned_3 (by decide) ?_
  refine lv_iand hx hb dX5_turned_4 ?_
  refine lv_if_le (tgt := 13) hx hb dX5_turned_5 (by decide) (fun c_1 => ?_) (fun c_1 => ?_)
  · refine lv_iload_n hx hb dX5_turned_13 rfl (lv_at hl 1 rfl) ?_
    refine lv_iconst (v := 2) hx hb dX5_turned_14 (by decide) ?_
    refine lv_iand hx hb dX5_turned_15 ?_
    refine lv_if_le (tgt := 24) hx hb dX5_turned_16 (by decide) (fun c_2 => ?_) (fun c_2 => ?_)
    · refine lv_iload_n hx hb dX5_turned_24 rfl (lv_at hl 1 rfl) ?_
      refine lv_iconst (v := 4) hx hb dX5_turned_25 (by decide) ?_
      refine lv_iand hx hb dX5_turned_26 ?_
      refine lv_if_le (tgt := 35) hx hb dX5_turned_27 (by decide) (fun c_3 => ?_) (fun c_3 => ?_)
      · refine lv_iload_n hx hb dX5_turned_35 rfl (lv_at hl 1 rfl) ?_
        refine lv_bipush (v := 8) hx hb dX5_turned_36 (by decide) ?_
        refine lv_iand hx hb dX5_turned_38 ?_
        refine lv_if_le (tgt := 46) hx hb dX5_turned_39 (by decide) (fun c_4 => ?_) (fun c_4 => ?_)
        · refine lv_iload_n hx hb dX5_turned_46 rfl (lv_at hl 0 rfl) ?_
          have hP9 : va_P (dC, dI) vwCl [] s.heap := by exact hP.sub [] rfl
          have hD9 : va_D A [] := by exact hD.sub [] (by decide) rfl
          have e_5 : (0 : Int32) = X5_turned_r cx := by rw [X5_turned_r, if_pos c_1, if_pos c_2, if_pos c_3, if_pos c_4]
          exact W.iret (v := 0) hx hb hr (fun t ht hW => ⟨⟨_, (), rfl, e_5, po.ret ht hW hP9 hK hD9⟩, hS.F ht⟩) hS.2.2 dX5_turned_47
        · refine lv_iload_n hx hb dX5_turned_42 rfl (lv_at hl 0 rfl) ?_
          refine lv_iconst (v := 1) hx hb dX5_turned_43 (by decide) ?_
          refine lv_ixor hx hb dX5_turned_44 ?_
          refine lv_topi (fun y_6 ey_6 => ?_)
          obtain rfl : y_6 = 1 := ey_6.trans (by decide)
          refine lv_istore_n (lv' := [(1, .int 1), (0, .int cx)]) hx hb dX5_turned_45 rfl hl (by decide) rfl (fun ls hl => ?_)
          refine lv_iload_n hx hb dX5_turned_46 rfl (lv_at hl 0 rfl) ?_
          have hP9 : va_P (dC, dI) vwCl [] s.heap := by exact hP.sub [] rfl
          have hD9 : va_D A [] := by exact hD.sub [] (by decide) rfl
          have e_7 : (1 : Int32) = X5_turned_r cx := by rw [X5_turned_r, if_pos c_1, if_pos c_2, if_pos c_3, if_neg c_4]
          exact W.iret (v := 1) hx hb hr (fun t ht hW => ⟨⟨_, (), rfl, e_7, po.ret ht hW hP9 hK hD9⟩, hS.F ht⟩) hS.2.2 dX5_turned_47
      · refine lv_iload_n hx hb dX5_turned_30 rfl (lv_at hl 0 rfl) ?_
        refine lv_bipush (v := 14) hx hb dX5_turned_31 (by decide) ?_
        refine lv_ixor hx hb dX5_turned_33 ?_
        refine lv_topi (fun y_8 ey_8 => ?_)
        obtain rfl : y_8 = 14 := ey_8.trans (by decide)
        refine lv_istore_n (lv' := [(1, .int 14), (0, .int cx)]) hx hb dX5_turned_34 rfl hl (by decide) rfl (fun ls hl => ?_)
        refine lv_iload_n hx hb dX5_turned_35 rfl (lv_at hl 1 rfl) ?_
        refine lv_bipush (v := 8) hx hb dX5_turned_36 (by decide) ?_
        refine lv_iand hx hb dX5_turned_38 ?_
        refine lv_if_le (tgt := 46) hx hb dX5_turned_39 (by decide) (fun c_9 => ?_) (fun c_9 => ?_)
        · refine lv_iload_n hx hb dX5_turned_46 rfl (lv_at hl 0 rfl) ?_
          have hP9 : va_P (dC, dI) vwCl [] s.heap := by exact hP.sub [] rfl
          have hD9 : va_D A [] := by exact hD.sub [] (by decide) rfl
          have e_10 : (14 : Int32) = X5_turned_r cx := by rw [X5_turned_r, if_pos c_1, if_pos c_2, if_neg c_3, if_pos c_9]
          exact W.iret (v := 14) hx hb hr (fun t ht hW => ⟨⟨_, (), rfl, e_10, po.ret ht hW hP9 hK hD9⟩, hS.F ht⟩) hS.2.2 dX5_turned_47
        · refine lv_iload_n hx hb dX5_turned_42 rfl (lv_at hl 0 rfl) ?_
          refine lv_iconst (v := 1) hx hb dX5_turned_43 (by decide) ?_
          refine lv_ixor hx hb dX5_turned_44 ?_
          refine lv_topi (fun y_11 ey_11 => ?_)
          obtain rfl : y_11 = 15 := ey_11.trans (by decide)
          refine lv_istore_n (lv' := [(1, .int 15), (0, .int cx)]) hx hb dX5_turned_45 rfl hl (by decide) rfl (fun ls hl => ?_)
          refine lv_iload_n hx hb dX5_turned_46 rfl (lv_at hl 0 rfl) ?_
          have hP9 : va_P (dC, dI) vwCl [] s.heap := by exact hP.sub [] rfl
          have hD9 : va_D A [] := by exact hD.sub [] (by decide) rfl
          have e_12 : (15 : Int32) = X5_turned_r cx := by rw [X5_turned_r, if_pos c_1, if_pos c_2, if_neg c_3, if_neg c_9]
          exact W.iret (v := 15) hx hb hr (fun t ht hW => ⟨⟨_, (), rfl, e_12, po.ret ht hW hP9 hK hD9⟩, hS.F ht⟩) hS.2.2 dX5_turned_47
    · refine lv_iload_n hx hb dX5_turned_19 rfl (lv_at hl 0 rfl) ?_
      refine lv_bipush (v := 7) hx hb dX5_turned_20 (by decide) ?_
      refine lv_ixor hx hb dX5_turned_22 ?_
      refine lv_topi (fun y_13 ey_13 => ?_)
      obtain rfl : y_13 = 7 := ey_13.trans (by decide)
      refine lv_istore_n (lv' := [(1, .int 7), (0, .int cx)]) hx hb dX5_turned_23 rfl hl (by decide) rfl (fun ls hl => ?_)
      refine lv_iload_n hx hb dX5_turned_24 rfl (lv_at hl 1 rfl) ?_
      refine lv_iconst (v := 4) hx hb dX5_turned_25 (by decide) ?_
      refine lv_iand hx hb dX5_turned_26 ?_
      refine lv_if_le (tgt := 35) hx hb dX5_turned_27 (by decide) (fun c_14 => ?_) (fun c_14 => ?_)
      · refine lv_iload_n hx hb dX5_turned_35 rfl (lv_at hl 1 rfl) ?_
        refine lv_bipush (v := 8) hx hb dX5_turned_36 (by decide) ?_
        refine lv_iand hx hb dX5_turned_38 ?_
        refine lv_if_le (tgt := 46) hx hb dX5_turned_39 (by decide) (fun c_15 => ?_) (fun c_15 => ?_)
        · refine lv_iload_n hx hb dX5_turned_46 rfl (lv_at hl 0 rfl) ?_
          have hP9 : va_P (dC, dI) vwCl [] s.heap := by exact hP.sub [] rfl
          have hD9 : va_D A [] := by exact hD.sub [] (by decide) rfl
          have e_16 : (7 : Int32) = X5_turned_r cx := by rw [X5_turned_r, if_pos c_1, if_neg c_2, if_pos c_14, if_pos c_15]
          exact W.iret (v := 7) hx hb hr (fun t ht hW => ⟨⟨_, (), rfl, e_16, po.ret ht hW hP9 hK hD9⟩, hS.F ht⟩) hS.2.2 dX5_turned_47
        · refine lv_iload_n hx hb dX5_turned_42 rfl (lv_at hl 0 rfl) ?_
          refine lv_iconst (v := 1) hx hb dX5_turned_43 (by decide) ?_
          refine lv_ixor hx hb dX5_turned_44 ?_
          refine lv_topi (fun y_17 ey_17 => ?_)
          obtain rfl : y_17 = 6 := ey_17.trans (by decide)
          refine lv_istore_n (lv' := [(1, .int 6), (0, .int cx)]) hx hb dX5_turned_45 rfl hl (by decide) rfl (fun ls hl => ?_)
          refine lv_iload_n hx hb dX5_turned_46 rfl (lv_at hl 0 rfl) ?_
          have hP9 : va_P (dC, dI) vwCl [] s.heap := by exact hP.sub [] rfl
          have hD9 : va_D A [] := by exact hD.sub [] (by decide) rfl
          have e_18 : (6 : Int32) = X5_turned_r cx := by rw [X5_turned_r, if_pos c_1, if_neg c_2, if_pos c_14, if_neg c_15]
          exact W.iret (v := 6) hx hb hr (fun t ht hW => ⟨⟨_, (), rfl, e_18, po.ret ht hW hP9 hK hD9⟩, hS.F ht⟩) hS.2.2 dX5_turned_47
      · refine lv_iload_n hx hb dX5_turned_30 rfl (lv_at hl 0 rfl) ?_
        refine lv_bipush (v := 14) hx hb dX5_turned_31 (by decide) ?_
        refine lv_ixor hx hb dX5_turned_33 ?_
        refine lv_topi (fun y_19 ey_19 => ?_)
        obtain rfl : y_19 = 9 := ey_19.trans (by decide)
        refine lv_istore_n (lv' := [(1, .int 9), (0, .int cx)]) hx hb dX5_turned_34 rfl hl (by decide) rfl (fun ls hl => ?_)
        refine lv_iload_n hx hb dX5_turned_35 rfl (lv_at hl 1 rfl) ?_
        refine lv_bipush (v := 8) hx hb dX5_turned_36 (by decide) ?_
        refine lv_iand hx hb dX5_turned_38 ?_
        refine lv_if_le (tgt := 46) hx hb dX5_turned_39 (by decide) (fun c_20 => ?_) (fun c_20 => ?_)
        · refine lv_iload_n hx hb dX5_turned_46 rfl (lv_at hl 0 rfl) ?_
          have hP9 : va_P (dC, dI) vwCl [] s.heap := by exact hP.sub [] rfl
          have hD9 : va_D A [] := by exact hD.sub [] (by decide) rfl
          have e_21 : (9 : Int32) = X5_turned_r cx := by rw [X5_turned_r, if_pos c_1, if_neg c_2, if_neg c_14, if_pos c_20]
          exact W.iret (v := 9) hx hb hr (fun t ht hW => ⟨⟨_, (), rfl, e_21, po.ret ht hW hP9 hK hD9⟩, hS.F ht⟩) hS.2.2 dX5_turned_47
        · refine lv_iload_n hx hb dX5_turned_42 rfl (lv_at hl 0 rfl) ?_
          refine lv_iconst (v := 1) hx hb dX5_turned_43 (by decide) ?_
          refine lv_ixor hx hb dX5_turned_44 ?_
          refine lv_topi (fun y_22 ey_22 => ?_)
          obtain rfl : y_22 = 8 := ey_22.trans (by decide)
          refine lv_istore_n (lv' := [(1, .int 8), (0, .int cx)]) hx hb dX5_turned_45 rfl hl (by decide) rfl (fun ls hl => ?_)
          refine lv_iload_n hx hb dX5_turned_46 rfl (lv_at hl 0 rfl) ?_
          have hP9 : va_P (dC, dI) vwCl [] s.heap := by exact hP.sub [] rfl
          have hD9 : va_D A [] := by exact hD.sub [] (by decide) rfl
          have e_23 : (8 : Int32) = X5_turned_r cx := by rw [X5_turned_r, if_pos c_1, if_neg c_2, if_neg c_14, if_neg c_20]
          exact W.iret (v := 8) hx hb hr (fun t ht hW => ⟨⟨_, (), rfl, e_23, po.ret ht hW hP9 hK hD9⟩, hS.F ht⟩) hS.2.2 dX5_turned_47
  · refine lv_iload_n hx hb dX5_turned_8 rfl (lv_at hl 0 rfl) ?_
    refine lv_bipush (v := 13) hx hb dX5_turned_9 (by decide) ?_
    refine lv_ixor hx hb dX5_turned_11 ?_
    refine lv_topi (fun y_24 ey_24 => ?_)
    obtain rfl : y_24 = 13 := ey_24.trans (by decide)
    refine lv_istore_n (lv' := [(1, .int 13), (0, .int cx)]) hx hb dX5_turned_12 rfl hl (by decide) rfl (fun ls hl => ?_)
    refine lv_iload_n hx hb dX5_turned_13 rfl (lv_at hl 1 rfl) ?_
    refine lv_iconst (v := 2) hx hb dX5_turned_14 (by decide) ?_
    refine lv_iand hx hb dX5_turned_15 ?_
    refine lv_if_le (tgt := 24) hx hb dX5_turned_16 (by decide) (fun c_25 => ?_) (fun c_25 => ?_)
    · refine lv_iload_n hx hb dX5_turned_24 rfl (lv_at hl 1 rfl) ?_
      refine lv_iconst (v := 4) hx hb dX5_turned_25 (by decide) ?_
      refine lv_iand hx hb dX5_turned_26 ?_
      refine lv_if_le (tgt := 35) hx hb dX5_turned_27 (by decide) (fun c_26 => ?_) (fun c_26 => ?_)
      · refine lv_iload_n hx hb dX5_turned_35 rfl (lv_at hl 1 rfl) ?_
        refine lv_bipush (v := 8) hx hb dX5_turned_36 (by decide) ?_
        refine lv_iand hx hb dX5_turned_38 ?_
        refine lv_if_le (tgt := 46) hx hb dX5_turned_39 (by decide) (fun c_27 => ?_) (fun c_27 => ?_)
        · refine lv_iload_n hx hb dX5_turned_46 rfl (lv_at hl 0 rfl) ?_
          have hP9 : va_P (dC, dI) vwCl [] s.heap := by exact hP.sub [] rfl
          have hD9 : va_D A [] := by exact hD.sub [] (by decide) rfl
          have e_28 : (13 : Int32) = X5_turned_r cx := by rw [X5_turned_r, if_neg c_1, if_pos c_25, if_pos c_26, if_pos c_27]
          exact W.iret (v := 13) hx hb hr (fun t ht hW => ⟨⟨_, (), rfl, e_28, po.ret ht hW hP9 hK hD9⟩, hS.F ht⟩) hS.2.2 dX5_turned_47
        · refine lv_iload_n hx hb dX5_turned_42 rfl (lv_at hl 0 rfl) ?_
          refine lv_iconst (v := 1) hx hb dX5_turned_43 (by decide) ?_
          refine lv_ixor hx hb dX5_turned_44 ?_
          refine lv_topi (fun y_29 ey_29 => ?_)
          obtain rfl : y_29 = 12 := ey_29.trans (by decide)
          refine lv_istore_n (lv' := [(1, .int 12), (0, .int cx)]) hx hb dX5_turned_45 rfl hl (by decide) rfl (fun ls hl => ?_)
          refine lv_iload_n hx hb dX5_turned_46 rfl (lv_at hl 0 rfl) ?_
          have hP9 : va_P (dC, dI) vwCl [] s.heap := by exact hP.sub [] rfl
          have hD9 : va_D A [] := by exact hD.sub [] (by decide) rfl
          have e_30 : (12 : Int32) = X5_turned_r cx := by rw [X5_turned_r, if_neg c_1, if_pos c_25, if_pos c_26, if_neg c_27]
          exact W.iret (v := 12) hx hb hr (fun t ht hW => ⟨⟨_, (), rfl, e_30, po.ret ht hW hP9 hK hD9⟩, hS.F ht⟩) hS.2.2 dX5_turned_47
      · refine lv_iload_n hx hb dX5_turned_30 rfl (lv_at hl 0 rfl) ?_
        refine lv_bipush (v := 14) hx hb dX5_turned_31 (by decide) ?_
        refine lv_ixor hx hb dX5_turned_33 ?_
        refine lv_topi (fun y_31 ey_31 => ?_)
        obtain rfl : y_31 = 3 := ey_31.trans (by decide)
        refine lv_istore_n (lv' := [(1, .int 3), (0, .int cx)]) hx hb dX5_turned_34 rfl hl (by decide) rfl (fun ls hl => ?_)
        refine lv_iload_n hx hb dX5_turned_35 rfl (lv_at hl 1 rfl) ?_
        refine lv_bipush (v := 8) hx hb dX5_turned_36 (by decide) ?_
        refine lv_iand hx hb dX5_turned_38 ?_
        refine lv_if_le (tgt := 46) hx hb dX5_turned_39 (by decide) (fun c_32 => ?_) (fun c_32 => ?_)
        · refine lv_iload_n hx hb dX5_turned_46 rfl (lv_at hl 0 rfl) ?_
          have hP9 : va_P (dC, dI) vwCl [] s.heap := by exact hP.sub [] rfl
          have hD9 : va_D A [] := by exact hD.sub [] (by decide) rfl
          have e_33 : (3 : Int32) = X5_turned_r cx := by rw [X5_turned_r, if_neg c_1, if_pos c_25, if_neg c_26, if_pos c_32]
          exact W.iret (v := 3) hx hb hr (fun t ht hW => ⟨⟨_, (), rfl, e_33, po.ret ht hW hP9 hK hD9⟩, hS.F ht⟩) hS.2.2 dX5_turned_47
        · refine lv_iload_n hx hb dX5_turned_42 rfl (lv_at hl 0 rfl) ?_
          refine lv_iconst (v := 1) hx hb dX5_turned_43 (by decide) ?_
          refine lv_ixor hx hb dX5_turned_44 ?_
          refine lv_topi (fun y_34 ey_34 => ?_)
          obtain rfl : y_34 = 2 := ey_34.trans (by decide)
          refine lv_istore_n (lv' := [(1, .int 2), (0, .int cx)]) hx hb dX5_turned_45 rfl hl (by decide) rfl (fun ls hl => ?_)
          refine lv_iload_n hx hb dX5_turned_46 rfl (lv_at hl 0 rfl) ?_
          have hP9 : va_P (dC, dI) vwCl [] s.heap := by exact hP.sub [] rfl
          have hD9 : va_D A [] := by exact hD.sub [] (by decide) rfl
          have e_35 : (2 : Int32) = X5_turned_r cx := by rw [X5_turned_r, if_neg c_1, if_pos c_25, if_neg c_26, if_neg c_32]
          exact W.iret (v := 2) hx hb hr (fun t ht hW => ⟨⟨_, (), rfl, e_35, po.ret ht hW hP9 hK hD9⟩, hS.F ht⟩) hS.2.2 dX5_turned_47
    · refine lv_iload_n hx hb dX5_turned_19 rfl (lv_at hl 0 rfl) ?_
      refine lv_bipush (v := 7) hx hb dX5_turned_20 (by decide) ?_
      refine lv_ixor hx hb dX5_turned_22 ?_
      refine lv_topi (fun y_36 ey_36 => ?_)
      obtain rfl : y_36 = 10 := ey_36.trans (by decide)
      refine lv_istore_n (lv' := [(1, .int 10), (0, .int cx)]) hx hb dX5_turned_23 rfl hl (by decide) rfl (fun ls hl => ?_)
      refine lv_iload_n hx hb dX5_turned_24 rfl (lv_at hl 1 rfl) ?_
      refine lv_iconst (v := 4) hx hb dX5_turned_25 (by decide) ?_
      refine lv_iand hx hb dX5_turned_26 ?_
      refine lv_if_le (tgt := 35) hx hb dX5_turned_27 (by decide) (fun c_37 => ?_) (fun c_37 => ?_)
      · refine lv_iload_n hx hb dX5_turned_35 rfl (lv_at hl 1 rfl) ?_
        refine lv_bipush (v := 8) hx hb dX5_turned_36 (by decide) ?_
        refine lv_iand hx hb dX5_turned_38 ?_
        refine lv_if_le (tgt := 46) hx hb dX5_turned_39 (by decide) (fun c_38 => ?_) (fun c_38 => ?_)
        · refine lv_iload_n hx hb dX5_turned_46 rfl (lv_at hl 0 rfl) ?_
          have hP9 : va_P (dC, dI) vwCl [] s.heap := by exact hP.sub [] rfl
          have hD9 : va_D A [] := by exact hD.sub [] (by decide) rfl
          have e_39 : (10 : Int32) = X5_turned_r cx := by rw [X5_turned_r, if_neg c_1, if_neg c_25, if_pos c_37, if_pos c_38]
          exact W.iret (v := 10) hx hb hr (fun t ht hW => ⟨⟨_, (), rfl, e_39, po.ret ht hW hP9 hK hD9⟩, hS.F ht⟩) hS.2.2 dX5_turned_47
        · refine lv_iload_n hx hb dX5_turned_42 rfl (lv_at hl 0 rfl) ?_
          refine lv_iconst (v := 1) hx hb dX5_turned_43 (by decide) ?_
          refine lv_ixor hx hb dX5_turned_44 ?_
          refine lv_topi (fun y_40 ey_40 => ?_)
          obtain rfl : y_40 = 11 := ey_40.trans (by decide)
          refine lv_istore_n (lv' := [(1, .int 11), (0, .int cx)]) hx hb dX5_turned_45 rfl hl (by decide) rfl (fun ls hl => ?_)
          refine lv_iload_n hx hb dX5_turned_46 rfl (lv_at hl 0 rfl) ?_
          have hP9 : va_P (dC, dI) vwCl [] s.heap := by exact hP.sub [] rfl
          have hD9 : va_D A [] := by exact hD.sub [] (by decide) rfl
          have e_41 : (11 : Int32) = X5_turned_r cx := by rw [X5_turned_r, if_neg c_1, if_neg c_25, if_pos c_37, if_neg c_38]
          exact W.iret (v := 11) hx hb hr (fun t ht hW => ⟨⟨_, (), rfl, e_41, po.ret ht hW hP9 hK hD9⟩, hS.F ht⟩) hS.2.2 dX5_turned_47
      · refine lv_iload_n hx hb dX5_turned_30 rfl (lv_at hl 0 rfl) ?_
        refine lv_bipush (v := 14) hx hb dX5_turned_31 (by decide) ?_
        refine lv_ixor hx hb dX5_turned_33 ?_
        refine lv_topi (fun y_42 ey_42 => ?_)
        obtain rfl : y_42 = 4 := ey_42.trans (by decide)
        refine lv_istore_n (lv' := [(1, .int 4), (0, .int cx)]) hx hb dX5_turned_34 rfl hl (by decide) rfl (fun ls hl => ?_)
        refine lv_iload_n hx hb dX5_turned_35 rfl (lv_at hl 1 rfl) ?_
        refine lv_bipush (v := 8) hx hb dX5_turned_36 (by decide) ?_
        refine lv_iand hx hb dX5_turned_38 ?_
        refine lv_if_le (tgt := 46) hx hb dX5_turned_39 (by decide) (fun c_43 => ?_) (fun c_43 => ?_)
        · refine lv_iload_n hx hb dX5_turned_46 rfl (lv_at hl 0 rfl) ?_
          have hP9 : va_P (dC, dI) vwCl [] s.heap := by exact hP.sub [] rfl
          have hD9 : va_D A [] := by exact hD.sub [] (by decide) rfl
          have e_44 : (4 : Int32) = X5_turned_r cx := by rw [X5_turned_r, if_neg c_1, if_neg c_25, if_neg c_37, if_pos c_43]
          exact W.iret (v := 4) hx hb hr (fun t ht hW => ⟨⟨_, (), rfl, e_44, po.ret ht hW hP9 hK hD9⟩, hS.F ht⟩) hS.2.2 dX5_turned_47
        · refine lv_iload_n hx hb dX5_turned_42 rfl (lv_at hl 0 rfl) ?_
          refine lv_iconst (v := 1) hx hb dX5_turned_43 (by decide) ?_
          refine lv_ixor hx hb dX5_turned_44 ?_
          refine lv_topi (fun y_45 ey_45 => ?_)
          obtain rfl : y_45 = 5 := ey_45.trans (by decide)
          refine lv_istore_n (lv' := [(1, .int 5), (0, .int cx)]) hx hb dX5_turned_45 rfl hl (by decide) rfl (fun ls hl => ?_)
          refine lv_iload_n hx hb dX5_turned_46 rfl (lv_at hl 0 rfl) ?_
          have hP9 : va_P (dC, dI) vwCl [] s.heap := by exact hP.sub [] rfl
          have hD9 : va_D A [] := by exact hD.sub [] (by decide) rfl
          have e_46 : (5 : Int32) = X5_turned_r cx := by rw [X5_turned_r, if_neg c_1, if_neg c_25, if_neg c_37, if_neg c_43]
          exact W.iret (v := 5) hx hb hr (fun t ht hW => ⟨⟨_, (), rfl, e_46, po.ret ht hW hP9 hK hD9⟩, hS.F ht⟩) hS.2.2 dX5_turned_47
def X5_fits_r (tl : Int64) (tk : Int64) (len : Int64) : Int32 := if len < 56 then 0 else (if len ≤ 56000 then (if tk ≤ len then (if tk = 0 then 1 else (if (tk * tl) < ((len - tk) * 100) then 0 else 1)) else (if tk = 0 then 1 else (if (tk * tl) < ((tk - len) * 100) then 0 else 1))) else 0)
theorem X5_fits_r_z (tl : Int64) (tk : Int64) (len : Int64) : z01 (X5_fits_r tl tk len) := by unfold X5_fits_r; repeat (first | split | with_reducible assumption | with_reducible exact z01_0 | with_reducible exact z01_1 | with_reducible exact X0_tell_r_z _ _ _ _ _ (by assumption) | with_reducible exact X1_hasMark_r_z _ (by assumption) | with_reducible exact X3_moveTo_trackA_z _ (by assumption) | with_reducible exact X3_moveTo_trackB_z _ (by assumption) | with_reducible exact X3_moveTo_r_z _ _ _ _ (by assumption) (by assumption) | with_reducible exact X4_isOutsideTime_r_z _ | with_reducible exact X2_finishRow_r_z _ | with_reducible exact X2_take_r_z _ _ _ | with_reducible exact X4_isRight_r_z _ | with_reducible exact X4_isTaken_r_z _ _ _ | with_reducible exact X4_hasFrame_r_z _ _ | with_reducible exact X4_marked_r_z _ (by assumption))
set_option maxHeartbeats 4000000 in
set_option maxRecDepth 100000 in
theorem k_X5_fits (l : Launch) (dC : Nat → ClassId) (dI : Nat → Nat → Nat) (sz : Nat) (h0 : Nat) (cd : Int32) (tl : Int64) (ed : Int32) (eg : Int64) (aw : Int32) (tk : Int64) (un : Int64) (b1 : Nat) (sm : Int32) (b2 : Nat) (frs : Int32) (b3 : Nat) (b4 : Nat) (b5 : Nat) (bts : Int32) (b6 : Nat) (msn : Int32) (b7 : Nat) (flt : Int32) (bh : Int32) (mkd : Int32) (sta : Int32) (lvl : Int32) (snc : Int64) (tld : Int64) (fst : Int32) (snd : Int32) (stp : Int32) (len : Int64)  : Met l yX5_fits wsX5_fits ({ frames := 0, cells := 0, slots := 0, locals := 0 }) (va_Pc [.ref h0, .long len] (pr (dC, dI) [] [(h0, .inr (6, [.int cd, .long tl, .int ed, .long eg, .int aw, .long tk, .long un, .ref b1, .int sm, .ref b2, .int frs, .ref b3, .ref b4, .ref b5, .int bts, .ref b6, .int msn, .ref b7, .int flt, .int bh, .int mkd, .int sta, .int lvl, .long snc, .long tld, .int fst, .int snd, .int stp]))] sz)) (va_Qi (fun (r : Int32) (_ : Unit) => r = X5_fits_r tl tk len) (fun _ t => po (dC, dI) [] (va_A [(h0, .inr (6, [.int cd, .long tl, .int ed, .long eg, .int aw, .long tk, .long un, .ref b1, .int sm, .ref b2, .int frs, .ref b3, .ref b4, .ref b5, .int bts, .ref b6, .int msn, .ref b7, .int flt, .int bh, .int mkd, .int sta, .int lvl, .long snc, .long tld, .int fst, .int snd, .int stp]))] sz) [(h0, .inr (6, [.int cd, .long tl, .int ed, .long eg, .int aw, .long tk, .long un, .ref b1, .int sm, .ref b2, .int frs, .ref b3, .ref b4, .ref b5, .int bts, .ref b6, .int msn, .ref b7, .int flt, .int bh, .int mkd, .int sta, .int lvl, .long snc, .long tld, .int fst, .int snd, .int stp]))] t) (va_A [(h0, .inr (6, [.int cd, .long tl, .int ed, .long eg, .int aw, .long tk, .long un, .ref b1, .int sm, .ref b2, .int frs, .ref b3, .ref b4, .ref b5, .int bts, .ref b6, .int msn, .ref b7, .int flt, .int bh, .int mkd, .int sta, .int lvl, .long snc, .long tld, .int fst, .int snd, .int stp]))] sz)) 0 0 (va_A [(h0, .inr (6, [.int cd, .long tl, .int ed, .long eg, .int aw, .long tk, .long un, .ref b1, .int sm, .ref b2, .int frs, .ref b3, .ref b4, .ref b5, .int bts, .ref b6, .int msn, .ref b7, .int flt, .int bh, .int mkd, .int sta, .int lvl, .long snc, .long tld, .int fst, .int snd, .int stp]))] sz) := by
  refine Met.ofW (cc := cX5_fits) (maxL := 5) (ret := (some .boolean)) (by decide) rfl ?_
  intro p e s m args below meth c s₁ B hml hv
  obtain ⟨rfl, hsz, hP, hK, hD0⟩ := hv
  have hx := B.exec
  have hb := B.bytes
  have hr := B.returns
  have hts := atoms_spec (ws := wsX5_fits) B.pre
  have hown : s.vm.findClass RX5 = some m.cls := findClass_of_methodNamed B.named
  have hlocks := B.notSynchronized
  subst hsz
  have hD := hD0.self (sz := s.heap.size)
  generalize hAe : va_A [(h0, .inr (6, [.int cd, .long tl, .int ed, .long eg, .int aw, .long tk, .long un, .ref b1, .int sm, .ref b2, .int frs, .ref b3, .ref b4, .ref b5, .int bts, .ref b6, .int msn, .ref b7, .int flt, .int bh, .int mkd, .int sta, .int lvl, .long snc, .long tld, .int fst, .int snd, .int stp]))] s.heap.size = A at hD ⊢
  have hA : ∀ q : Nat, s.heap.size ≤ q → A q := fun q h => by rw [← hAe]; exact Or.inr h
  have hS : va_S A s.heap s.heap [] := va_S.rf
  have hP : va_P (dC, dI) vwCl [(h0, .inr (6, [.int cd, .long tl, .int ed, .long eg, .int aw, .long tk, .long un, .ref b1, .int sm, .ref b2, .int frs, .ref b3, .ref b4, .ref b5, .int bts, .ref b6, .int msn, .ref b7, .int flt, .int bh, .int mkd, .int sta, .int lvl, .long snc, .long tld, .int fst, .int snd, .int stp]))] s.heap := hP
  have iX5 : ∀ w ∈ wsX50, w ∈ wsX5_fits := by decide +kernel
  have hl := lv_entry ([.ref h0, .long len]) (n := 5) (Nat.le_of_ble_eq_true rfl)
  rw [lg_entry_eq]
  generalize (lg_sl ([.ref h0, .long len]) ++ List.replicate (5 - (lg_sl ([.ref h0, .long len])).length) Slot.unset).toArray = ls at hl ⊢
  have hl : lv_has ls 5 [(0, .ref h0), (1, .long len)] := hl
  refine lv_lload_n hx hb dX5_fits_0 rfl (lv_at hl 1 rfl) ?_
  refine lv_ldc2 hx hb hown (hts (.constantLong RX5 45 (56)) (List.mem_of_getElem? (i := 1) rfl)) dX5_fits_1 ?_
  refine W.lcmp hx hb dX5_fits_4 ?_
  refine lv_if_lt (tgt := 16) hx hb dX5_fits_5 (by decide) (fun c_1 => ?_) (fun c_1 => ?_)
  · rw [lg_cmp_lt] at c_1
    refine lv_iconst (v := 0) hx hb dX5_fits_16 (by decide) ?_
    have hP9 : va_P (dC, dI) vwCl [(h0, .inr (6, [.int cd, .long tl, .int ed, .long eg, .int aw, .long tk, .long un, .ref b1, .int sm, .ref b2, .int frs, .ref b3, .ref b4, .ref b5, .int bts, .ref b6, .int msn, .ref b7, .int flt, .int bh, .int mkd, .int sta, .int lvl, .long snc, .long tld, .int fst, .int snd, .int stp]))] s.heap := by exact hP.sub [0] rfl
    have hD9 : va_D A [(h0, .inr (6, [.int cd, .long tl, .int ed, .long eg, .int aw, .long tk, .long un, .ref b1, .int sm, .ref b2, .int frs, .ref b3, .ref b4, .ref b5, .int bts, .ref b6, .int msn, .ref b7, .int flt, .int bh, .int mkd, .int sta, .int lvl, .long snc, .long tld, .int fst, .int snd, .int stp]))] := by exact hD.sub [0] (by decide) rfl
    have e_2 : (0 : Int32) = X5_fits_r tl tk len := by rw [X5_fits_r, if_pos c_1]
    exact W.zret (v := 0) hx hb hr rfl (fun t ht hW => ⟨⟨_, (), rfl, e_2, po.ret ht hW hP9 hK hD9⟩, hS.F ht⟩) hS.2.2 dX5_fits_17
  · rw [lg_cmp_lt] at c_1
    refine lv_lload_n hx hb dX5_fits_8 rfl (lv_at hl 1 rfl) ?_
    refine lv_ldc2 hx hb hown (hts (.constantLong RX5 47 (56000)) (List.mem_of_getElem? (i := 2) rfl)) dX5_fits_9 ?_
    refine W.lcmp hx hb dX5_fits_12 ?_
    refine lv_if_le (tgt := 18) hx hb dX5_fits_13 (by decide) (fun c_3 => ?_) (fun c_3 => ?_)
    · rw [lg_cmp_le] at c_3
      refine lv_lload_n hx hb dX5_fits_18 rfl (lv_at hl 1 rfl) ?_
      refine lv_aload_n hx hb dX5_fits_19 rfl (lv_at hl 0 rfl) ?_
      refine va_get (D := (dC, dI)) (ci := 6) (v := .long tk) (C := RX5) (T := TX5) (N := 28) hx hb hts iX5 hown hK hP 0 rfl rfl 5 (by decide) (hts (.fieldLink RX5 49 "PulseRowsModel" "taken" "J") (List.mem_of_getElem? (i := 3) rfl)) (fun _ h9 => h9) rfl dX5_fits_20 ?_
      refine W.lcmp hx hb dX5_fits_23 ?_
      refine lv_if_ge (tgt := 36) hx hb dX5_fits_24 (by decide) (fun c_4 => ?_) (fun c_4 => ?_)
      · rw [lg_cmp_ge] at c_4
        refine lv_lload_n hx hb dX5_fits_36 rfl (lv_at hl 1 rfl) ?_
        refine lv_aload_n hx hb dX5_fits_37 rfl (lv_at hl 0 rfl) ?_
        refine va_get (D := (dC, dI)) (ci := 6) (v := .long tk) (C := RX5) (T := TX5) (N := 28) hx hb hts iX5 hown hK hP 0 rfl rfl 5 (by decide) (hts (.fieldLink RX5 49 "PulseRowsModel" "taken" "J") (List.mem_of_getElem? (i := 3) rfl)) (fun _ h9 => h9) rfl dX5_fits_38 ?_
        refine lv_lsub hx hb dX5_fits_41 ?_
        refine lv_lstore_n (lv' := [(3, .long (len - tk)), (0, .ref h0), (1, .long len)]) hx hb dX5_fits_42 rfl hl (by decide) rfl (fun ls hl => ?_)
        refine lv_aload_n hx hb dX5_fits_43 rfl (lv_at hl 1 rfl) ?_
        refine va_get (D := (dC, dI)) (ci := 6) (v := .long tk) (C := RX5) (T := TX5) (N := 28) hx hb hts iX5 hown hK hP 0 rfl rfl 5 (by decide) (hts (.fieldLink RX5 49 "PulseRowsModel" "taken" "J") (List.mem_of_getElem? (i := 3) rfl)) (fun _ h9 => h9) rfl dX5_fits_44 ?_
        refine lv_lconst (v := 0) hx hb dX5_fits_47 (by decide) ?_
        refine W.lcmp hx hb dX5_fits_48 ?_
        refine lv_if_eq (tgt := 70) hx hb dX5_fits_49 (by decide) (fun c_5 => ?_) (fun c_5 => ?_)
        · rw [lg_cmp_eq] at c_5
          refine lv_iconst (v := 1) hx hb dX5_fits_70 (by decide) ?_
          refine lv_goto (tgt := 75) hx hb dX5_fits_71 (by decide) ?_
          have hP9 : va_P (dC, dI) vwCl [(h0, .inr (6, [.int cd, .long tl, .int ed, .long eg, .int aw, .long tk, .long un, .ref b1, .int sm, .ref b2, .int frs, .ref b3, .ref b4, .ref b5, .int bts, .ref b6, .int msn, .ref b7, .int flt, .int bh, .int mkd, .int sta, .int lvl, .long snc, .long tld, .int fst, .int snd, .int stp]))] s.heap := by exact hP.sub [0] rfl
          have hD9 : va_D A [(h0, .inr (6, [.int cd, .long tl, .int ed, .long eg, .int aw, .long tk, .long un, .ref b1, .int sm, .ref b2, .int frs, .ref b3, .ref b4, .ref b5, .int bts, .ref b6, .int msn, .ref b7, .int flt, .int bh, .int mkd, .int sta, .int lvl, .long snc, .long tld, .int fst, .int snd, .int stp]))] := by exact hD.sub [0] (by decide) rfl
          have e_6 : (1 : Int32) = X5_fits_r tl tk len := by rw [X5_fits_r, if_neg c_1, if_pos c_3, if_pos c_4, if_pos c_5]
          exact W.zret (v := 1) hx hb hr rfl (fun t ht hW => ⟨⟨_, (), rfl, e_6, po.ret ht hW hP9 hK hD9⟩, hS.F ht⟩) hS.2.2 dX5_fits_75
        · rw [lg_cmp_eq] at c_5
          refine lv_lload_n hx hb dX5_fits_52 rfl (lv_at hl 0 rfl) ?_
          refine lv_ldc2 hx hb hown (hts (.constantLong RX5 52 (100)) (List.mem_of_getElem? (i := 4) rfl)) dX5_fits_53 ?_
          refine lv_lmul hx hb dX5_fits_56 ?_
          refine lv_aload_n hx hb dX5_fits_57 rfl (lv_at hl 1 rfl) ?_
          refine va_get (D := (dC, dI)) (ci := 6) (v := .long tk) (C := RX5) (T := TX5) (N := 28) hx hb hts iX5 hown hK hP 0 rfl rfl 5 (by decide) (hts (.fieldLink RX5 49 "PulseRowsModel" "taken" "J") (List.mem_of_getElem? (i := 3) rfl)) (fun _ h9 => h9) rfl dX5_fits_58 ?_
          refine lv_aload_n hx hb dX5_fits_61 rfl (lv_at hl 1 rfl) ?_
          refine va_get (D := (dC, dI)) (ci := 6) (v := .long tl) (C := RX5) (T := TX5) (N := 28) hx hb hts iX5 hown hK hP 0 rfl rfl 1 (by decide) (hts (.fieldLink RX5 38 "PulseRowsModel" "tolerance" "J") (List.mem_of_getElem? (i := 5) rfl)) (fun _ h9 => h9) rfl dX5_fits_62 ?_
          refine lv_lmul hx hb dX5_fits_65 ?_
          refine W.lcmp hx hb dX5_fits_66 ?_
          refine lv_if_gt (tgt := 74) hx hb dX5_fits_67 (by decide) (fun c_7 => ?_) (fun c_7 => ?_)
          · rw [lg_cmp_gt] at c_7
            refine lv_iconst (v := 0) hx hb dX5_fits_74 (by decide) ?_
            have hP9 : va_P (dC, dI) vwCl [(h0, .inr (6, [.int cd, .long tl, .int ed, .long eg, .int aw, .long tk, .long un, .ref b1, .int sm, .ref b2, .int frs, .ref b3, .ref b4, .ref b5, .int bts, .ref b6, .int msn, .ref b7, .int flt, .int bh, .int mkd, .int sta, .int lvl, .long snc, .long tld, .int fst, .int snd, .int stp]))] s.heap := by exact hP.sub [0] rfl
            have hD9 : va_D A [(h0, .inr (6, [.int cd, .long tl, .int ed, .long eg, .int aw, .long tk, .long un, .ref b1, .int sm, .ref b2, .int frs, .ref b3, .ref b4, .ref b5, .int bts, .ref b6, .int msn, .ref b7, .int flt, .int bh, .int mkd, .int sta, .int lvl, .long snc, .long tld, .int fst, .int snd, .int stp]))] := by exact hD.sub [0] (by decide) rfl
            have e_8 : (0 : Int32) = X5_fits_r tl tk len := by rw [X5_fits_r, if_neg c_1, if_pos c_3, if_pos c_4, if_neg c_5, if_pos c_7]
            exact W.zret (v := 0) hx hb hr rfl (fun t ht hW => ⟨⟨_, (), rfl, e_8, po.ret ht hW hP9 hK hD9⟩, hS.F ht⟩) hS.2.2 dX5_fits_75
          · rw [lg_cmp_gt] at c_7
            refine lv_iconst (v := 1) hx hb dX5_fits_70 (by decide) ?_
            refine lv_goto (tgt := 75) hx hb dX5_fits_71 (by decide) ?_
            have hP9 : va_P (dC, dI) vwCl [(h0, .inr (6, [.int cd, .long tl, .int ed, .long eg, .int aw, .long tk, .long un, .ref b1, .int sm, .ref b2, .int frs, .ref b3, .ref b4, .ref b5, .int bts, .ref b6, .int msn, .ref b7, .int flt, .int bh, .int mkd, .int sta, .int lvl, .long snc, .long tld, .int fst, .int snd, .int stp]))] s.heap := by exact hP.sub [0] rfl
            have hD9 : va_D A [(h0, .inr (6, [.int cd, .long tl, .int ed, .long eg, .int aw, .long tk, .long un, .ref b1, .int sm, .ref b2, .int frs, .ref b3, .ref b4, .ref b5, .int bts, .ref b6, .int msn, .ref b7, .int flt, .int bh, .int mkd, .int sta, .int lvl, .long snc, .long tld, .int fst, .int snd, .int stp]))] := by exact hD.sub [0] (by decide) rfl
            have e_9 : (1 : Int32) = X5_fits_r tl tk len := by rw [X5_fits_r, if_neg c_1, if_pos c_3, if_pos c_4, if_neg c_5, if_neg c_7]
            exact W.zret (v := 1) hx hb hr rfl (fun t ht hW => ⟨⟨_, (), rfl, e_9, po.ret ht hW hP9 hK hD9⟩, hS.F ht⟩) hS.2.2 dX5_fits_75
      · rw [lg_cmp_ge] at c_4
        refine lv_aload_n hx hb dX5_fits_27 rfl (lv_at hl 0 rfl) ?_
        refine va_get (D := (dC, dI)) (ci := 6) (v := .long tk) (C := RX5) (T := TX5) (N := 28) hx hb hts iX5 hown hK hP 0 rfl rfl 5 (by decide) (hts (.fieldLink RX5 49 "PulseRowsModel" "taken" "J") (List.mem_of_getElem? (i := 3) rfl)) (fun _ h9 => h9) rfl dX5_fits_28 ?_
        refine lv_lload_n hx hb dX5_fits_31 rfl (lv_at hl 1 rfl) ?_
        refine lv_lsub hx hb dX5_fits_32 ?_
        refine lv_goto (tgt := 42) hx hb dX5_fits_33 (by decide) ?_
        refine lv_lstore_n (lv' := [(3, .long (tk - len)), (0, .ref h0), (1, .long len)]) hx hb dX5_fits_42 rfl hl (by decide) rfl (fun ls hl => ?_)
        refine lv_aload_n hx hb dX5_fits_43 rfl (lv_at hl 1 rfl) ?_
        refine va_get (D := (dC, dI)) (ci := 6) (v := .long tk) (C := RX5) (T := TX5) (N := 28) hx hb hts iX5 hown hK hP 0 rfl rfl 5 (by decide) (hts (.fieldLink RX5 49 "PulseRowsModel" "taken" "J") (List.mem_of_getElem? (i := 3) rfl)) (fun _ h9 => h9) rfl dX5_fits_44 ?_
        refine lv_lconst (v := 0) hx hb dX5_fits_47 (by decide) ?_
        refine W.lcmp hx hb dX5_fits_48 ?_
        refine lv_if_eq (tgt := 70) hx hb dX5_fits_49 (by decide) (fun c_10 => ?_) (fun c_10 => ?_)
        · rw [lg_cmp_eq] at c_10
          refine lv_iconst (v := 1) hx hb dX5_fits_70 (by decide) ?_
          refine lv_goto (tgt := 75) hx hb dX5_fits_71 (by decide) ?_
          have hP9 : va_P (dC, dI) vwCl [(h0, .inr (6, [.int cd, .long tl, .int ed, .long eg, .int aw, .long tk, .long un, .ref b1, .int sm, .ref b2, .int frs, .ref b3, .ref b4, .ref b5, .int bts, .ref b6, .int msn, .ref b7, .int flt, .int bh, .int mkd, .int sta, .int lvl, .long snc, .long tld, .int fst, .int snd, .int stp]))] s.heap := by exact hP.sub [0] rfl
          have hD9 : va_D A [(h0, .inr (6, [.int cd, .long tl, .int ed, .long eg, .int aw, .long tk, .long un, .ref b1, .int sm, .ref b2, .int frs, .ref b3, .ref b4, .ref b5, .int bts, .ref b6, .int msn, .ref b7, .int flt, .int bh, .int mkd, .int sta, .int lvl, .long snc, .long tld, .int fst, .int snd, .int stp]))] := by exact hD.sub [0] (by decide) rfl
          have e_11 : (1 : Int32) = X5_fits_r tl tk len := by rw [X5_fits_r, if_neg c_1, if_pos c_3, if_neg c_4, if_pos c_10]
          exact W.zret (v := 1) hx hb hr rfl (fun t ht hW => ⟨⟨_, (), rfl, e_11, po.ret ht hW hP9 hK hD9⟩, hS.F ht⟩) hS.2.2 dX5_fits_75
        · rw [lg_cmp_eq] at c_10
          refine lv_lload_n hx hb dX5_fits_52 rfl (lv_at hl 0 rfl) ?_
          refine lv_ldc2 hx hb hown (hts (.constantLong RX5 52 (100)) (List.mem_of_getElem? (i := 4) rfl)) dX5_fits_53 ?_
          refine lv_lmul hx hb dX5_fits_56 ?_
          refine lv_aload_n hx hb dX5_fits_57 rfl (lv_at hl 1 rfl) ?_
          refine va_get (D := (dC, dI)) (ci := 6) (v := .long tk) (C := RX5) (T := TX5) (N := 28) hx hb hts iX5 hown hK hP 0 rfl rfl 5 (by decide) (hts (.fieldLink RX5 49 "PulseRowsModel" "taken" "J") (List.mem_of_getElem? (i := 3) rfl)) (fun _ h9 => h9) rfl dX5_fits_58 ?_
          refine lv_aload_n hx hb dX5_fits_61 rfl (lv_at hl 1 rfl) ?_
          refine va_get (D := (dC, dI)) (ci := 6) (v := .long tl) (C := RX5) (T := TX5) (N := 28) hx hb hts iX5 hown hK hP 0 rfl rfl 1 (by decide) (hts (.fieldLink RX5 38 "PulseRowsModel" "tolerance" "J") (List.mem_of_getElem? (i := 5) rfl)) (fun _ h9 => h9) rfl dX5_fits_62 ?_
          refine lv_lmul hx hb dX5_fits_65 ?_
          refine W.lcmp hx hb dX5_fits_66 ?_
          refine lv_if_gt (tgt := 74) hx hb dX5_fits_67 (by decide) (fun c_12 => ?_) (fun c_12 => ?_)
          · rw [lg_cmp_gt] at c_12
            refine lv_iconst (v := 0) hx hb dX5_fits_74 (by decide) ?_
            have hP9 : va_P (dC, dI) vwCl [(h0, .inr (6, [.int cd, .long tl, .int ed, .long eg, .int aw, .long tk, .long un, .ref b1, .int sm, .ref b2, .int frs, .ref b3, .ref b4, .ref b5, .int bts, .ref b6, .int msn, .ref b7, .int flt, .int bh, .int mkd, .int sta, .int lvl, .long snc, .long tld, .int fst, .int snd, .int stp]))] s.heap := by exact hP.sub [0] rfl
            have hD9 : va_D A [(h0, .inr (6, [.int cd, .long tl, .int ed, .long eg, .int aw, .long tk, .long un, .ref b1, .int sm, .ref b2, .int frs, .ref b3, .ref b4, .ref b5, .int bts, .ref b6, .int msn, .ref b7, .int flt, .int bh, .int mkd, .int sta, .int lvl, .long snc, .long tld, .int fst, .int snd, .int stp]))] := by exact hD.sub [0] (by decide) rfl
            have e_13 : (0 : Int32) = X5_fits_r tl tk len := by rw [X5_fits_r, if_neg c_1, if_pos c_3, if_neg c_4, if_neg c_10, if_pos c_12]
            exact W.zret (v := 0) hx hb hr rfl (fun t ht hW => ⟨⟨_, (), rfl, e_13, po.ret ht hW hP9 hK hD9⟩, hS.F ht⟩) hS.2.2 dX5_fits_75
          · rw [lg_cmp_gt] at c_12
            refine lv_iconst (v := 1) hx hb dX5_fits_70 (by decide) ?_
            refine lv_goto (tgt := 75) hx hb dX5_fits_71 (by decide) ?_
            have hP9 : va_P (dC, dI) vwCl [(h0, .inr (6, [.int cd, .long tl, .int ed, .long eg, .int aw, .long tk, .long un, .ref b1, .int sm, .ref b2, .int frs, .ref b3, .ref b4, .ref b5, .int bts, .ref b6, .int msn, .ref b7, .int flt, .int bh, .int mkd, .int sta, .int lvl, .long snc, .long tld, .int fst, .int snd, .int stp]))] s.heap := by exact hP.sub [0] rfl
            have hD9 : va_D A [(h0, .inr (6, [.int cd, .long tl, .int ed, .long eg, .int aw, .long tk, .long un, .ref b1, .int sm, .ref b2, .int frs, .ref b3, .ref b4, .ref b5, .int bts, .ref b6, .int msn, .ref b7, .int flt, .int bh, .int mkd, .int sta, .int lvl, .long snc, .long tld, .int fst, .int snd, .int stp]))] := by exact hD.sub [0] (by decide) rfl
            have e_14 : (1 : Int32) = X5_fits_r tl tk len := by rw [X5_fits_r, if_neg c_1, if_pos c_3, if_neg c_4, if_neg c_10, if_neg c_12]
            exact W.zret (v := 1) hx hb hr rfl (fun t ht hW => ⟨⟨_, (), rfl, e_14, po.ret ht hW hP9 hK hD9⟩, hS.F ht⟩) hS.2.2 dX5_fits_75
    · rw [lg_cmp_le] at c_3
      refine lv_iconst (v := 0) hx hb dX5_fits_16 (by decide) ?_
      have hP9 : va_P (dC, dI) vwCl [(h0, .inr (6, [.int cd, .long tl, .int ed, .long eg, .int aw, .long tk, .long un, .ref b1, .int sm, .ref b2, .int frs, .ref b3, .ref b4, .ref b5, .int bts, .ref b6, .int msn, .ref b7, .int flt, .int bh, .int mkd, .int sta, .int lvl, .long snc, .long tld, .int fst, .int snd, .int stp]))] s.heap := by exact hP.sub [0] rfl
      have hD9 : va_D A [(h0, .inr (6, [.int cd, .long tl, .int ed, .long eg, .int aw, .long tk, .long un, .ref b1, .int sm, .ref b2, .int frs, .ref b3, .ref b4, .ref b5, .int bts, .ref b6, .int msn, .ref b7, .int flt, .int bh, .int mkd, .int sta, .int lvl, .long snc, .long tld, .int fst, .int snd, .int stp]))] := by exact hD.sub [0] (by decide) rfl
      have e_15 : (0 : Int32) = X5_fits_r tl tk len := by rw [X5_fits_r, if_neg c_1, if_neg c_3]
      exact W.zret (v := 0) hx hb hr rfl (fun t ht hW => ⟨⟨_, (), rfl, e_15, po.ret ht hW hP9 hK hD9⟩, hS.F ht⟩) hS.2.2 dX5_fits_17
def X5_fault_faults (flt : Int32) : Int32 := flt + 1
def X5_fault_behind (bh : Int32) : Int32 := bh + 1
def X5_fault_marked (bh : Int32) (mkd : Int32) : Int32 := if mkd = 0 then (if (bh + 1) = 3 then 1 else 0) else 1
theorem X5_fault_marked_z (bh : Int32) (mkd : Int32) : z01 (X5_fault_marked bh mkd) := by unfold X5_fault_marked; repeat (first | split | with_reducible assumption | with_reducible exact z01_0 | with_reducible exact z01_1 | with_reducible exact X0_tell_r_z _ _ _ _ _ (by assumption) | with_reducible exact X1_hasMark_r_z _ (by assumption) | with_reducible exact X3_moveTo_trackA_z _ (by assumption) | with_reducible exact X3_moveTo_trackB_z _ (by assumption) | with_reducible exact X3_moveTo_r_z _ _ _ _ (by assumption) (by assumption) | with_reducible exact X4_isOutsideTime_r_z _ | with_reducible exact X2_finishRow_r_z _ | with_reducible exact X2_take_r_z _ _ _ | with_reducible exact X4_isRight_r_z _ | with_reducible exact X4_isTaken_r_z _ _ _ | with_reducible exact X4_hasFrame_r_z _ _ | with_reducible exact X4_marked_r_z _ (by assumption) | with_reducible exact X5_fits_r_z _ _ _)
set_option maxHeartbeats 4000000 in
set_option maxRecDepth 100000 in
theorem k_X5_fault (l : Launch) (dC : Nat → ClassId) (dI : Nat → Nat → Nat) (sz : Nat) (h0 : Nat) (cd : Int32) (tl : Int64) (ed : Int32) (eg : Int64) (aw : Int32) (tk : Int64) (un : Int64) (b1 : Nat) (sm : Int32) (b2 : Nat) (frs : Int32) (b3 : Nat) (b4 : Nat) (b5 : Nat) (bts : Int32) (b6 : Nat) (msn : Int32) (b7 : Nat) (flt : Int32) (bh : Int32) (mkd : Int32) (sta : Int32) (lvl : Int32) (snc : Int64) (tld : Int64) (fst : Int32) (snd : Int32) (stp : Int32)  : Met l yX5_fault wsX5_fault ({ frames := 0, cells := 0, slots := 0, locals := 0 }) (va_Pc [.ref h0] (pr (dC, dI) [] [(h0, .inr (6, [.int cd, .long tl, .int ed, .long eg, .int aw, .long tk, .long un, .ref b1, .int sm, .ref b2, .int frs, .ref b3, .ref b4, .ref b5, .int bts, .ref b6, .int msn, .ref b7, .int flt, .int bh, .int mkd, .int sta, .int lvl, .long snc, .long tld, .int fst, .int snd, .int stp]))] sz)) (va_Qv (fun _ : Unit => True) (fun _ t => po (dC, dI) [] (va_A [(h0, .inr (6, [.int cd, .long tl, .int ed, .long eg, .int aw, .long tk, .long un, .ref b1, .int sm, .ref b2, .int frs, .ref b3, .ref b4, .ref b5, .int bts, .ref b6, .int msn, .ref b7, .int flt, .int bh, .int mkd, .int sta, .int lvl, .long snc, .long tld, .int fst, .int snd, .int stp]))] sz) [(h0, .inr (6, [.int cd, .long tl, .int ed, .long eg, .int aw, .long tk, .long un, .ref b1, .int sm, .ref b2, .int frs, .ref b3, .ref b4, .ref b5, .int bts, .ref b6, .int msn, .ref b7, .int (X5_fault_faults flt), .int (X5_fault_behind bh), .int (X5_fault_marked bh mkd), .int sta, .int lvl, .long snc, .long tld, .int fst, .int snd, .int stp]))] t) (va_A [(h0, .inr (6, [.int cd, .long tl, .int ed, .long eg, .int aw, .long tk, .long un, .ref b1, .int sm, .ref b2, .int frs, .ref b3, .ref b4, .ref b5, .int bts, .ref b6, .int msn, .ref b7, .int flt, .int bh, .int mkd, .int sta, .int lvl, .long snc, .long tld, .int fst, .int snd, .int stp]))] sz)) 0 0 (va_A [(h0, .inr (6, [.int cd, .long tl, .int ed, .long eg, .int aw, .long tk, .long un, .ref b1, .int sm, .ref b2, .int frs, .ref b3, .ref b4, .ref b5, .int bts, .ref b6, .int msn, .ref b7, .int flt, .int bh, .int mkd, .int sta, .int lvl, .long snc, .long tld, .int fst, .int snd, .int stp]))] sz) := by
  refine Met.ofW (cc := cX5_fault) (maxL := 1) (ret := none) (by decide) rfl ?_
  intro p e s m args below meth c s₁ B hml hv
  obtain ⟨rfl, hsz, hP, hK, hD0⟩ := hv
  have hx := B.exec
  have hb := B.bytes
  have hr := B.returns
  have hts := atoms_spec (ws := wsX5_fault) B.pre
  have hown : s.vm.findClass RX5 = some m.cls := findClass_of_methodNamed B.named
  have hlocks := B.notSynchronized
  subst hsz
  have hD := hD0.self (sz := s.heap.size)
  generalize hAe : va_A [(h0, .inr (6, [.int cd, .long tl, .int ed, .long eg, .int aw, .long tk, .long un, .ref b1, .int sm, .ref b2, .int frs, .ref b3, .ref b4, .ref b5, .int bts, .ref b6, .int msn, .ref b7, .int flt, .int bh, .int mkd, .int sta, .int lvl, .long snc, .long tld, .int fst, .int snd, .int stp]))] s.heap.size = A at hD ⊢
  have hA : ∀ q : Nat, s.heap.size ≤ q → A q := fun q h => by rw [← hAe]; exact Or.inr h
  have hS : va_S A s.heap s.heap [] := va_S.rf
  have hP : va_P (dC, dI) vwCl [(h0, .inr (6, [.int cd, .long tl, .int ed, .long eg, .int aw, .long tk, .long un, .ref b1, .int sm, .ref b2, .int frs, .ref b3, .ref b4, .ref b5, .int bts, .ref b6, .int msn, .ref b7, .int flt, .int bh, .int mkd, .int sta, .int lvl, .long snc, .long tld, .int fst, .int snd, .int stp]))] s.heap := hP
  have iX5 : ∀ w ∈ wsX50, w ∈ wsX5_fault := by decide +kernel
  have hl := lv_entry ([.ref h0]) (n := 1) (Nat.le_of_ble_eq_true rfl)
  rw [lg_entry_eq]
  generalize (lg_sl ([.ref h0]) ++ List.replicate (1 - (lg_sl ([.ref h0])).length) Slot.unset).toArray = ls at hl ⊢
  have hl : lv_has ls 1 [(0, .ref h0)] := hl
  refine lv_aload_n hx hb dX5_fault_0 rfl (lv_at hl 0 rfl) ?_
  refine lv_dup hx hb dX5_fault_1 rfl ?_
  refine va_get (D := (dC, dI)) (ci := 6) (v := .int flt) (C := RX5) (T := TX5) (N := 28) hx hb hts iX5 hown hK hP 0 rfl rfl 18 (by decide) (hts (.fieldLink RX5 54 "PulseRowsModel" "faults" "I") (List.mem_of_getElem? (i := 1) rfl)) (fun _ h9 => h9) rfl dX5_fault_2 ?_
  refine lv_iconst (v := 1) hx hb dX5_fault_5 (by decide) ?_
  refine lv_iadd hx hb dX5_fault_6 ?_
  refine va_put (D := (dC, dI)) (ci := 6) (v := .int (flt + 1)) (ty := .int) (C := RX5) (T := TX5) (N := 28) hx hb hts iX5 tyX5 tyX5_ok nmX5 hown hK hP hD hS 0 rfl rfl 18 (by decide) (hts (.fieldLink RX5 54 "PulseRowsModel" "faults" "I") (List.mem_of_getElem? (i := 1) rfl)) (fun _ h9 => h9) rfl (by decide +kernel) rfl rfl (Nat.le_of_ble_eq_true rfl) dX5_fault_7 (fun H locs hP hD hS => ?_)
  have hP : va_P (dC, dI) vwCl [(h0, .inr (6, [.int cd, .long tl, .int ed, .long eg, .int aw, .long tk, .long un, .ref b1, .int sm, .ref b2, .int frs, .ref b3, .ref b4, .ref b5, .int bts, .ref b6, .int msn, .ref b7, .int (flt + 1), .int bh, .int mkd, .int sta, .int lvl, .long snc, .long tld, .int fst, .int snd, .int stp]))] H := hP
  have hD : va_D A [(h0, .inr (6, [.int cd, .long tl, .int ed, .long eg, .int aw, .long tk, .long un, .ref b1, .int sm, .ref b2, .int frs, .ref b3, .ref b4, .ref b5, .int bts, .ref b6, .int msn, .ref b7, .int (flt + 1), .int bh, .int mkd, .int sta, .int lvl, .long snc, .long tld, .int fst, .int snd, .int stp]))] := hD
  refine lv_aload_n hx hb dX5_fault_10 rfl (lv_at hl 0 rfl) ?_
  refine lv_dup hx hb dX5_fault_11 rfl ?_
  refine va_get (D := (dC, dI)) (ci := 6) (v := .int bh) (C := RX5) (T := TX5) (N := 28) hx hb hts iX5 hown hK hP 0 rfl rfl 19 (by decide) (hts (.fieldLink RX5 57 "PulseRowsModel" "behind" "I") (List.mem_of_getElem? (i := 2) rfl)) (fun _ h9 => h9) rfl dX5_fault_12 ?_
  refine lv_iconst (v := 1) hx hb dX5_fault_15 (by decide) ?_
  refine lv_iadd hx hb dX5_fault_16 ?_
  refine va_put (D := (dC, dI)) (ci := 6) (v := .int (bh + 1)) (ty := .int) (C := RX5) (T := TX5) (N := 28) hx hb hts iX5 tyX5 tyX5_ok nmX5 hown hK hP hD hS 0 rfl rfl 19 (by decide) (hts (.fieldLink RX5 57 "PulseRowsModel" "behind" "I") (List.mem_of_getElem? (i := 2) rfl)) (fun _ h9 => h9) rfl (by decide +kernel) rfl rfl (Nat.le_of_ble_eq_true rfl) dX5_fault_17 (fun H locs hP hD hS => ?_)
  have hP : va_P (dC, dI) vwCl [(h0, .inr (6, [.int cd, .long tl, .int ed, .long eg, .int aw, .long tk, .long un, .ref b1, .int sm, .ref b2, .int frs, .ref b3, .ref b4, .ref b5, .int bts, .ref b6, .int msn, .ref b7, .int (flt + 1), .int (bh + 1), .int mkd, .int sta, .int lvl, .long snc, .long tld, .int fst, .int snd, .int stp]))] H := hP
  have hD : va_D A [(h0, .inr (6, [.int cd, .long tl, .int ed, .long eg, .int aw, .long tk, .long un, .ref b1, .int sm, .ref b2, .int frs, .ref b3, .ref b4, .ref b5, .int bts, .ref b6, .int msn, .ref b7, .int (flt + 1), .int (bh + 1), .int mkd, .int sta, .int lvl, .long snc, .long tld, .int fst, .int snd, .int stp]))] := hD
  refine lv_aload_n hx hb dX5_fault_20 rfl (lv_at hl 0 rfl) ?_
  refine lv_aload_n hx hb dX5_fault_21 rfl (lv_at hl 0 rfl) ?_
  refine va_get (D := (dC, dI)) (ci := 6) (v := .int mkd) (C := RX5) (T := TX5) (N := 28) hx hb hts iX5 hown hK hP 0 rfl rfl 20 (by decide) (hts (.fieldLink RX5 60 "PulseRowsModel" "marked" "Z") (List.mem_of_getElem? (i := 3) rfl)) (fun _ h9 => h9) rfl dX5_fault_22 ?_
  refine lv_if_ne (tgt := 36) hx hb dX5_fault_25 (by decide) (fun c_1 => ?_) (fun c_1 => ?_)
  · refine lv_iconst (v := 1) hx hb dX5_fault_36 (by decide) ?_
    refine lv_goto (tgt := 41) hx hb dX5_fault_37 (by decide) ?_
    refine va_put (D := (dC, dI)) (ci := 6) (v := .int 1) (ty := .boolean) (C := RX5) (T := TX5) (N := 28) hx hb hts iX5 tyX5 tyX5_ok nmX5 hown hK hP hD hS 0 rfl rfl 20 (by decide) (hts (.fieldLink RX5 60 "PulseRowsModel" "marked" "Z") (List.mem_of_getElem? (i := 3) rfl)) (fun _ h9 => h9) rfl (by decide +kernel) rfl rfl (Nat.le_of_ble_eq_true rfl) dX5_fault_41 (fun H locs hP hD hS => ?_)
    have hP : va_P (dC, dI) vwCl [(h0, .inr (6, [.int cd, .long tl, .int ed, .long eg, .int aw, .long tk, .long un, .ref b1, .int sm, .ref b2, .int frs, .ref b3, .ref b4, .ref b5, .int bts, .ref b6, .int msn, .ref b7, .int (flt + 1), .int (bh + 1), .int 1, .int sta, .int lvl, .long snc, .long tld, .int fst, .int snd, .int stp]))] H := hP
    have hD : va_D A [(h0, .inr (6, [.int cd, .long tl, .int ed, .long eg, .int aw, .long tk, .long un, .ref b1, .int sm, .ref b2, .int frs, .ref b3, .ref b4, .ref b5, .int bts, .ref b6, .int msn, .ref b7, .int (flt + 1), .int (bh + 1), .int 1, .int sta, .int lvl, .long snc, .long tld, .int fst, .int snd, .int stp]))] := hD
    have e_2 : flt + 1 = X5_fault_faults flt := by rw [X5_fault_faults]
    have e_3 : bh + 1 = X5_fault_behind bh := by rw [X5_fault_behind]
    have e_4 : (1 : Int32) = X5_fault_marked bh mkd := by rw [X5_fault_marked, if_neg c_1]
    have hP9 : va_P (dC, dI) vwCl [(h0, .inr (6, [.int cd, .long tl, .int ed, .long eg, .int aw, .long tk, .long un, .ref b1, .int sm, .ref b2, .int frs, .ref b3, .ref b4, .ref b5, .int bts, .ref b6, .int msn, .ref b7, .int (X5_fault_faults flt), .int (X5_fault_behind bh), .int (X5_fault_marked bh mkd), .int sta, .int lvl, .long snc, .long tld, .int fst, .int snd, .int stp]))] H := by rw [← e_2, ← e_3, ← e_4]; exact hP.sub [0] rfl
    have hD9 : va_D A [(h0, .inr (6, [.int cd, .long tl, .int ed, .long eg, .int aw, .long tk, .long un, .ref b1, .int sm, .ref b2, .int frs, .ref b3, .ref b4, .ref b5, .int bts, .ref b6, .int msn, .ref b7, .int (X5_fault_faults flt), .int (X5_fault_behind bh), .int (X5_fault_marked bh mkd), .int sta, .int lvl, .long snc, .long tld, .int fst, .int snd, .int stp]))] := by rw [← e_2, ← e_3, ← e_4]; exact hD.sub [0] (by decide) rfl
    exact W.vret hx hb hr (fun t ht hW => ⟨⟨(), rfl, trivial, po.ret ht hW hP9 hK hD9⟩, hS.F ht⟩) hS.2.2 dX5_fault_44
  · refine lv_aload_n hx hb dX5_fault_28 rfl (lv_at hl 0 rfl) ?_
    refine va_get (D := (dC, dI)) (ci := 6) (v := .int (bh + 1)) (C := RX5) (T := TX5) (N := 28) hx hb hts iX5 hown hK hP 0 rfl rfl 19 (by decide) (hts (.fieldLink RX5 57 "PulseRowsModel" "behind" "I") (List.mem_of_getElem? (i := 2) rfl)) (fun _ h9 => h9) rfl dX5_fault_29 ?_
    refine lv_iconst (v := 3) hx hb dX5_fault_32 (by decide) ?_
    refine lv_icmp_ne (tgt := 40) hx hb dX5_fault_33 (by decide) (fun c_5 => ?_) (fun c_5 => ?_)
    · refine lv_iconst (v := 0) hx hb dX5_fault_40 (by decide) ?_
      refine va_put (D := (dC, dI)) (ci := 6) (v := .int 0) (ty := .boolean) (C := RX5) (T := TX5) (N := 28) hx hb hts iX5 tyX5 tyX5_ok nmX5 hown hK hP hD hS 0 rfl rfl 20 (by decide) (hts (.fieldLink RX5 60 "PulseRowsModel" "marked" "Z") (List.mem_of_getElem? (i := 3) rfl)) (fun _ h9 => h9) rfl (by decide +kernel) rfl rfl (Nat.le_of_ble_eq_true rfl) dX5_fault_41 (fun H locs hP hD hS => ?_)
      have hP : va_P (dC, dI) vwCl [(h0, .inr (6, [.int cd, .long tl, .int ed, .long eg, .int aw, .long tk, .long un, .ref b1, .int sm, .ref b2, .int frs, .ref b3, .ref b4, .ref b5, .int bts, .ref b6, .int msn, .ref b7, .int (flt + 1), .int (bh + 1), .int 0, .int sta, .int lvl, .long snc, .long tld, .int fst, .int snd, .int stp]))] H := hP
      have hD : va_D A [(h0, .inr (6, [.int cd, .long tl, .int ed, .long eg, .int aw, .long tk, .long un, .ref b1, .int sm, .ref b2, .int frs, .ref b3, .ref b4, .ref b5, .int bts, .ref b6, .int msn, .ref b7, .int (flt + 1), .int (bh + 1), .int 0, .int sta, .int lvl, .long snc, .long tld, .int fst, .int snd, .int stp]))] := hD
      have e_6 : flt + 1 = X5_fault_faults flt := by rw [X5_fault_faults]
      have e_7 : bh + 1 = X5_fault_behind bh := by rw [X5_fault_behind]
      have e_8 : (0 : Int32) = X5_fault_marked bh mkd := by rw [X5_fault_marked, if_pos c_1, if_neg c_5]
      have hP9 : va_P (dC, dI) vwCl [(h0, .inr (6, [.int cd, .long tl, .int ed, .long eg, .int aw, .long tk, .long un, .ref b1, .int sm, .ref b2, .int frs, .ref b3, .ref b4, .ref b5, .int bts, .ref b6, .int msn, .ref b7, .int (X5_fault_faults flt), .int (X5_fault_behind bh), .int (X5_fault_marked bh mkd), .int sta, .int lvl, .long snc, .long tld, .int fst, .int snd, .int stp]))] H := by rw [← e_6, ← e_7, ← e_8]; exact hP.sub [0] rfl
      have hD9 : va_D A [(h0, .inr (6, [.int cd, .long tl, .int ed, .long eg, .int aw, .long tk, .long un, .ref b1, .int sm, .ref b2, .int frs, .ref b3, .ref b4, .ref b5, .int bts, .ref b6, .int msn, .ref b7, .int (X5_fault_faults flt), .int (X5_fault_behind bh), .int (X5_fault_marked bh mkd), .int sta, .int lvl, .long snc, .long tld, .int fst, .int snd, .int stp]))] := by rw [← e_6, ← e_7, ← e_8]; exact hD.sub [0] (by decide) rfl
      exact W.vret hx hb hr (fun t ht hW => ⟨⟨(), rfl, trivial, po.ret ht hW hP9 hK hD9⟩, hS.F ht⟩) hS.2.2 dX5_fault_44
    · refine lv_iconst (v := 1) hx hb dX5_fault_36 (by decide) ?_
      refine lv_goto (tgt := 41) hx hb dX5_fault_37 (by decide) ?_
      refine va_put (D := (dC, dI)) (ci := 6) (v := .int 1) (ty := .boolean) (C := RX5) (T := TX5) (N := 28) hx hb hts iX5 tyX5 tyX5_ok nmX5 hown hK hP hD hS 0 rfl rfl 20 (by decide) (hts (.fieldLink RX5 60 "PulseRowsModel" "marked" "Z") (List.mem_of_getElem? (i := 3) rfl)) (fun _ h9 => h9) rfl (by decide +kernel) rfl rfl (Nat.le_of_ble_eq_true rfl) dX5_fault_41 (fun H locs hP hD hS => ?_)
      have hP : va_P (dC, dI) vwCl [(h0, .inr (6, [.int cd, .long tl, .int ed, .long eg, .int aw, .long tk, .long un, .ref b1, .int sm, .ref b2, .int frs, .ref b3, .ref b4, .ref b5, .int bts, .ref b6, .int msn, .ref b7, .int (flt + 1), .int (bh + 1), .int 1, .int sta, .int lvl, .long snc, .long tld, .int fst, .int snd, .int stp]))] H := hP
      have hD : va_D A [(h0, .inr (6, [.int cd, .long tl, .int ed, .long eg, .int aw, .long tk, .long un, .ref b1, .int sm, .ref b2, .int frs, .ref b3, .ref b4, .ref b5, .int bts, .ref b6, .int msn, .ref b7, .int (flt + 1), .int (bh + 1), .int 1, .int sta, .int lvl, .long snc, .long tld, .int fst, .int snd, .int stp]))] := hD
      have e_9 : flt + 1 = X5_fault_faults flt := by rw [X5_fault_faults]
      have e_10 : bh + 1 = X5_fault_behind bh := by rw [X5_fault_behind]
      have e_11 : (1 : Int32) = X5_fault_marked bh mkd := by rw [X5_fault_marked, if_pos c_1, if_pos c_5]
      have hP9 : va_P (dC, dI) vwCl [(h0, .inr (6, [.int cd, .long tl, .int ed, .long eg, .int aw, .long tk, .long un, .ref b1, .int sm, .ref b2, .int frs, .ref b3, .ref b4, .ref b5, .int bts, .ref b6, .int msn, .ref b7, .int (X5_fault_faults flt), .int (X5_fault_behind bh), .int (X5_fault_marked bh mkd), .int sta, .int lvl, .long snc, .long tld, .int fst, .int snd, .int stp]))] H := by rw [← e_9, ← e_10, ← e_11]; exact hP.sub [0] rfl
      have hD9 : va_D A [(h0, .inr (6, [.int cd, .long tl, .int ed, .long eg, .int aw, .long tk, .long un, .ref b1, .int sm, .ref b2, .int frs, .ref b3, .ref b4, .ref b5, .int bts, .ref b6, .int msn, .ref b7, .int (X5_fault_faults flt), .int (X5_fault_behind bh), .int (X5_fault_marked bh mkd), .int sta, .int lvl, .long snc, .long tld, .int fst, .int snd, .int stp]))] := by rw [← e_9, ← e_10, ← e_11]; exact hD.sub [0] (by decide) rfl
      exact W.vret hx hb hr (fun t ht hW => ⟨⟨(), rfl, trivial, po.ret ht hW hP9 hK hD9⟩, hS.F ht⟩) hS.2.2 dX5_fault_44
def X5_nibble_code (sm : Int32) (ix : Int32) : Int32 := if sm = 0 then 1 else (if ix < 0 then 1 else (if ix ≤ 7 then 0 else 1))
def X5_nibble_r (sm : Int32) (laf : Nat → Int32) (ix : Int32) : Int32 := if sm = 0 then 0 else (if ix < 0 then 0 else (if ix ≤ 7 then (laf (ix.toNatClampNeg)) else 0))
set_option maxHeartbeats 4000000 in
set_option maxRecDepth 100000 in
theorem k_X5_nibble (l : Launch) (dC : Nat → ClassId) (dI : Nat → Nat → Nat) (sz : Nat) (h0 : Nat) (cd : Int32) (tl : Int64) (ed : Int32) (eg : Int64) (aw : Int32) (tk : Int64) (un : Int64) (b1 : Nat) (sm : Int32) (b2 : Nat) (frs : Int32) (b3 : Nat) (b4 : Nat) (b5 : Nat) (bts : Int32) (b6 : Nat) (msn : Int32) (b7 : Nat) (flt : Int32) (bh : Int32) (mkd : Int32) (sta : Int32) (lvl : Int32) (snc : Int64) (tld : Int64) (fst : Int32) (snd : Int32) (stp : Int32) (cB2 : ClassId) (laf : Nat → Int32) (ix : Int32)  : Met l yX5_nibble wsX5_nibble ({ frames := 0, cells := 0, slots := 0, locals := 0 }) (va_Pc [.ref h0, .int ix] (pr (dC, dI) [(cB2, .int)] [(h0, .inr (6, [.int cd, .long tl, .int ed, .long eg, .int aw, .long tk, .long un, .ref b1, .int sm, .ref b2, .int frs, .ref b3, .ref b4, .ref b5, .int bts, .ref b6, .int msn, .ref b7, .int flt, .int bh, .int mkd, .int sta, .int lvl, .long snc, .long tld, .int fst, .int snd, .int stp])), (b2, .inl (cB2, 8, .inl laf))] sz)) (va_Qi (fun (r : Int32) (_ : Unit) => r = X5_nibble_r sm laf ix) (fun _ t => po (dC, dI) [(cB2, .int)] (va_A [(h0, .inr (6, [.int cd, .long tl, .int ed, .long eg, .int aw, .long tk, .long un, .ref b1, .int sm, .ref b2, .int frs, .ref b3, .ref b4, .ref b5, .int bts, .ref b6, .int msn, .ref b7, .int flt, .int bh, .int mkd, .int sta, .int lvl, .long snc, .long tld, .int fst, .int snd, .int stp])), (b2, .inl (cB2, 8, .inl laf))] sz) [(h0, .inr (6, [.int (X5_nibble_code sm ix), .long tl, .int ed, .long eg, .int aw, .long tk, .long un, .ref b1, .int sm, .ref b2, .int frs, .ref b3, .ref b4, .ref b5, .int bts, .ref b6, .int msn, .ref b7, .int flt, .int bh, .int mkd, .int sta, .int lvl, .long snc, .long tld, .int fst, .int snd, .int stp])), (b2, .inl (cB2, 8, .inl laf))] t) (va_A [(h0, .inr (6, [.int cd, .long tl, .int ed, .long eg, .int aw, .long tk, .long un, .ref b1, .int sm, .ref b2, .int frs, .ref b3, .ref b4, .ref b5, .int bts, .ref b6, .int msn, .ref b7, .int flt, .int bh, .int mkd, .int sta, .int lvl, .long snc, .long tld, .int fst, .int snd, .int stp])), (b2, .inl (cB2, 8, .inl laf))] sz)) 0 0 (va_A [(h0, .inr (6, [.int cd, .long tl, .int ed, .long eg, .int aw, .long tk, .long un, .ref b1, .int sm, .ref b2, .int frs, .ref b3, .ref b4, .ref b5, .int bts, .ref b6, .int msn, .ref b7, .int flt, .int bh, .int mkd, .int sta, .int lvl, .long snc, .long tld, .int fst, .int snd, .int stp])), (b2, .inl (cB2, 8, .inl laf))] sz) := by
  refine Met.ofW (cc := cX5_nibble) (maxL := 2) (ret := (some .int)) (by decide) rfl ?_
  intro p e s m args below meth c s₁ B hml hv
  obtain ⟨rfl, hsz, hP, hK, hD0⟩ := hv
  have hx := B.exec
  have hb := B.bytes
  have hr := B.returns
  have hts := atoms_spec (ws := wsX5_nibble) B.pre
  have hown : s.vm.findClass RX5 = some m.cls := findClass_of_methodNamed B.named
  have hlocks := B.notSynchronized
  subst hsz
  have hD := hD0.self (sz := s.heap.size)
  generalize hAe : va_A [(h0, .inr (6, [.int cd, .long tl, .int ed, .long eg, .int aw, .long tk, .long un, .ref b1, .int sm, .ref b2, .int frs, .ref b3, .ref b4, .ref b5, .int bts, .ref b6, .int msn, .ref b7, .int flt, .int bh, .int mkd, .int sta, .int lvl, .long snc, .long tld, .int fst, .int snd, .int stp])), (b2, .inl (cB2, 8, .inl laf))] s.heap.size = A at hD ⊢
  have hA : ∀ q : Nat, s.heap.size ≤ q → A q := fun q h => by rw [← hAe]; exact Or.inr h
  have hS : va_S A s.heap s.heap [] := va_S.rf
  have hP : va_P (dC, dI) vwCl [(h0, .inr (6, [.int cd, .long tl, .int ed, .long eg, .int aw, .long tk, .long un, .ref b1, .int sm, .ref b2, .int frs, .ref b3, .ref b4, .ref b5, .int bts, .ref b6, .int msn, .ref b7, .int flt, .int bh, .int mkd, .int sta, .int lvl, .long snc, .long tld, .int fst, .int snd, .int stp])), (b2, .inl (cB2, 8, .inl laf))] s.heap := hP
  have iX5 : ∀ w ∈ wsX50, w ∈ wsX5_nibble := by decide +kernel
  have hl := lv_entry ([.ref h0, .int ix]) (n := 2) (Nat.le_of_ble_eq_true rfl)
  rw [lg_entry_eq]
  generalize (lg_sl ([.ref h0, .int ix]) ++ List.replicate (2 - (lg_sl ([.ref h0, .int ix])).length) Slot.unset).toArray = ls at hl ⊢
  have hl : lv_has ls 2 [(0, .ref h0), (1, .int ix)] := hl
  refine lv_aload_n hx hb dX5_nibble_0 rfl (lv_at hl 0 rfl) ?_
  refine lv_aload_n hx hb dX5_nibble_1 rfl (lv_at hl 0 rfl) ?_
  refine va_get (D := (dC, dI)) (ci := 6) (v := .int sm) (C := RX5) (T := TX5) (N := 28) hx hb hts iX5 hown hK hP 0 rfl rfl 8 (by decide) (hts (.fieldLink RX5 77 "PulseRowsModel" "some" "Z") (List.mem_of_getElem? (i := 1) rfl)) (fun _ h9 => h9) rfl dX5_nibble_2 ?_
  refine lv_if_eq (tgt := 18) hx hb dX5_nibble_5 (by decide) (fun c_1 => ?_) (fun c_1 => ?_)
  · refine lv_iconst (v := 1) hx hb dX5_nibble_18 (by decide) ?_
    refine lv_goto (tgt := 23) hx hb dX5_nibble_19 (by decide) ?_
    refine va_put (D := (dC, dI)) (ci := 6) (v := .int 1) (ty := .int) (C := RX5) (T := TX5) (N := 28) hx hb hts iX5 tyX5 tyX5_ok nmX5 hown hK hP hD hS 0 rfl rfl 0 (by decide) (hts (.fieldLink RX5 42 "PulseRowsModel" "code" "I") (List.mem_of_getElem? (i := 2) rfl)) (fun _ h9 => h9) rfl (by decide +kernel) rfl rfl (Nat.le_of_ble_eq_true rfl) dX5_nibble_23 (fun H locs hP hD hS => ?_)
    have hP : va_P (dC, dI) vwCl [(h0, .inr (6, [.int 1, .long tl, .int ed, .long eg, .int aw, .long tk, .long un, .ref b1, .int sm, .ref b2, .int frs, .ref b3, .ref b4, .ref b5, .int bts, .ref b6, .int msn, .ref b7, .int flt, .int bh, .int mkd, .int sta, .int lvl, .long snc, .long tld, .int fst, .int snd, .int stp])), (b2, .inl (cB2, 8, .inl laf))] H := hP
    have hD : va_D A [(h0, .inr (6, [.int 1, .long tl, .int ed, .long eg, .int aw, .long tk, .long un, .ref b1, .int sm, .ref b2, .int frs, .ref b3, .ref b4, .ref b5, .int bts, .ref b6, .int msn, .ref b7, .int flt, .int bh, .int mkd, .int sta, .int lvl, .long snc, .long tld, .int fst, .int snd, .int stp])), (b2, .inl (cB2, 8, .inl laf))] := hD
    refine lv_aload_n hx hb dX5_nibble_26 rfl (lv_at hl 0 rfl) ?_
    refine va_get (D := (dC, dI)) (ci := 6) (v := .int 1) (C := RX5) (T := TX5) (N := 28) hx hb hts iX5 hown hK hP 0 rfl rfl 0 (by decide) (hts (.fieldLink RX5 42 "PulseRowsModel" "code" "I") (List.mem_of_getElem? (i := 2) rfl)) (fun _ h9 => h9) rfl dX5_nibble_27 ?_
    refine lv_if_le (tgt := 37) hx hb dX5_nibble_30 (by decide) (fun c9 => absurd c9 (by decide)) (fun _ => ?_)
    refine lv_iconst (v := 0) hx hb dX5_nibble_33 (by decide) ?_
    refine lv_goto (tgt := 43) hx hb dX5_nibble_34 (by decide) ?_
    have e_3 : (1 : Int32) = X5_nibble_code sm ix := by rw [X5_nibble_code, if_pos c_1]
    have hP9 : va_P (dC, dI) vwCl [(h0, .inr (6, [.int (X5_nibble_code sm ix), .long tl, .int ed, .long eg, .int aw, .long tk, .long un, .ref b1, .int sm, .ref b2, .int frs, .ref b3, .ref b4, .ref b5, .int bts, .ref b6, .int msn, .ref b7, .int flt, .int bh, .int mkd, .int sta, .int lvl, .long snc, .long tld, .int fst, .int snd, .int stp])), (b2, .inl (cB2, 8, .inl laf))] H := by rw [← e_3]; exact hP.sub [0, 1] rfl
    have hD9 : va_D A [(h0, .inr (6, [.int (X5_nibble_code sm ix), .long tl, .int ed, .long eg, .int aw, .long tk, .long un, .ref b1, .int sm, .ref b2, .int frs, .ref b3, .ref b4, .ref b5, .int bts, .ref b6, .int msn, .ref b7, .int flt, .int bh, .int mkd, .int sta, .int lvl, .long snc, .long tld, .int fst, .int snd, .int stp])), (b2, .inl (cB2, 8, .inl laf))] := by rw [← e_3]; exact hD.sub [0, 1] (by decide) rfl
    have e_4 : (0 : Int32) = X5_nibble_r sm laf ix := by rw [X5_nibble_r, if_pos c_1]
    exact W.iret (v := 0) hx hb hr (fun t ht hW => ⟨⟨_, (), rfl, e_4, po.ret ht hW hP9 hK hD9⟩, hS.F ht⟩) hS.2.2 dX5_nibble_43
  · refine lv_iload_n hx hb dX5_nibble_8 rfl (lv_at hl 1 rfl) ?_
    refine lv_if_lt (tgt := 18) hx hb dX5_nibble_9 (by decide) (fun c_5 => ?_) (fun c_5 => ?_)
    · refine lv_iconst (v := 1) hx hb dX5_nibble_18 (by decide) ?_
      refine lv_goto (tgt := 23) hx hb dX5_nibble_19 (by decide) ?_
      refine va_put (D := (dC, dI)) (ci := 6) (v := .int 1) (ty := .int) (C := RX5) (T := TX5) (N := 28) hx hb hts iX5 tyX5 tyX5_ok nmX5 hown hK hP hD hS 0 rfl rfl 0 (by decide) (hts (.fieldLink RX5 42 "PulseRowsModel" "code" "I") (List.mem_of_getElem? (i := 2) rfl)) (fun _ h9 => h9) rfl (by decide +kernel) rfl rfl (Nat.le_of_ble_eq_true rfl) dX5_nibble_23 (fun H locs hP hD hS => ?_)
      have hP : va_P (dC, dI) vwCl [(h0, .inr (6, [.int 1, .long tl, .int ed, .long eg, .int aw, .long tk, .long un, .ref b1, .int sm, .ref b2, .int frs, .ref b3, .ref b4, .ref b5, .int bts, .ref b6, .int msn, .ref b7, .int flt, .int bh, .int mkd, .int sta, .int lvl, .long snc, .long tld, .int fst, .int snd, .int stp])), (b2, .inl (cB2, 8, .inl laf))] H := hP
      have hD : va_D A [(h0, .inr (6, [.int 1, .long tl, .int ed, .long eg, .int aw, .long tk, .long un, .ref b1, .int sm, .ref b2, .int frs, .ref b3, .ref b4, .ref b5, .int bts, .ref b6, .int msn, .ref b7, .int flt, .int bh, .int mkd, .int sta, .int lvl, .long snc, .long tld, .int fst, .int snd, .int stp])), (b2, .inl (cB2, 8, .inl laf))] := hD
      refine lv_aload_n hx hb dX5_nibble_26 rfl (lv_at hl 0 rfl) ?_
      refine va_get (D := (dC, dI)) (ci := 6) (v := .int 1) (C := RX5) (T := TX5) (N := 28) hx hb hts iX5 hown hK hP 0 rfl rfl 0 (by decide) (hts (.fieldLink RX5 42 "PulseRowsModel" "code" "I") (List.mem_of_getElem? (i := 2) rfl)) (fun _ h9 => h9) rfl dX5_nibble_27 ?_
      refine lv_if_le (tgt := 37) hx hb dX5_nibble_30 (by decide) (fun c9 => absurd c9 (by decide)) (fun _ => ?_)
      refine lv_iconst (v := 0) hx hb dX5_nibble_33 (by decide) ?_
      refine lv_goto (tgt := 43) hx hb dX5_nibble_34 (by decide) ?_
      have e_7 : (1 : Int32) = X5_nibble_code sm ix := by rw [X5_nibble_code, if_neg c_1, if_pos c_5]
      have hP9 : va_P (dC, dI) vwCl [(h0, .inr (6, [.int (X5_nibble_code sm ix), .long tl, .int ed, .long eg, .int aw, .long tk, .long un, .ref b1, .int sm, .ref b2, .int frs, .ref b3, .ref b4, .ref b5, .int bts, .ref b6, .int msn, .ref b7, .int flt, .int bh, .int mkd, .int sta, .int lvl, .long snc, .long tld, .int fst, .int snd, .int stp])), (b2, .inl (cB2, 8, .inl laf))] H := by rw [← e_7]; exact hP.sub [0, 1] rfl
      have hD9 : va_D A [(h0, .inr (6, [.int (X5_nibble_code sm ix), .long tl, .int ed, .long eg, .int aw, .long tk, .long un, .ref b1, .int sm, .ref b2, .int frs, .ref b3, .ref b4, .ref b5, .int bts, .ref b6, .int msn, .ref b7, .int flt, .int bh, .int mkd, .int sta, .int lvl, .long snc, .long tld, .int fst, .int snd, .int stp])), (b2, .inl (cB2, 8, .inl laf))] := by rw [← e_7]; exact hD.sub [0, 1] (by decide) rfl
      have e_8 : (0 : Int32) = X5_nibble_r sm laf ix := by rw [X5_nibble_r, if_neg c_1, if_pos c_5]
      exact W.iret (v := 0) hx hb hr (fun t ht hW => ⟨⟨_, (), rfl, e_8, po.ret ht hW hP9 hK hD9⟩, hS.F ht⟩) hS.2.2 dX5_nibble_43
    · refine lv_iload_n hx hb dX5_nibble_12 rfl (lv_at hl 1 rfl) ?_
      refine lv_bipush (v := 7) hx hb dX5_nibble_13 (by decide) ?_
      refine lv_icmp_le (tgt := 22) hx hb dX5_nibble_15 (by decide) (fun c_9 => ?_) (fun c_9 => ?_)
      · refine lv_iconst (v := 0) hx hb dX5_nibble_22 (by decide) ?_
        refine va_put (D := (dC, dI)) (ci := 6) (v := .int 0) (ty := .int) (C := RX5) (T := TX5) (N := 28) hx hb hts iX5 tyX5 tyX5_ok nmX5 hown hK hP hD hS 0 rfl rfl 0 (by decide) (hts (.fieldLink RX5 42 "PulseRowsModel" "code" "I") (List.mem_of_getElem? (i := 2) rfl)) (fun _ h9 => h9) rfl (by decide +kernel) rfl rfl (Nat.le_of_ble_eq_true rfl) dX5_nibble_23 (fun H locs hP hD hS => ?_)
        have hP : va_P (dC, dI) vwCl [(h0, .inr (6, [.int 0, .long tl, .int ed, .long eg, .int aw, .long tk, .long un, .ref b1, .int sm, .ref b2, .int frs, .ref b3, .ref b4, .ref b5, .int bts, .ref b6, .int msn, .ref b7, .int flt, .int bh, .int mkd, .int sta, .int lvl, .long snc, .long tld, .int fst, .int snd, .int stp])), (b2, .inl (cB2, 8, .inl laf))] H := hP
        have hD : va_D A [(h0, .inr (6, [.int 0, .long tl, .int ed, .long eg, .int aw, .long tk, .long un, .ref b1, .int sm, .ref b2, .int frs, .ref b3, .ref b4, .ref b5, .int bts, .ref b6, .int msn, .ref b7, .int flt, .int bh, .int mkd, .int sta, .int lvl, .long snc, .long tld, .int fst, .int snd, .int stp])), (b2, .inl (cB2, 8, .inl laf))] := hD
        refine lv_aload_n hx hb dX5_nibble_26 rfl (lv_at hl 0 rfl) ?_
        refine va_get (D := (dC, dI)) (ci := 6) (v := .int 0) (C := RX5) (T := TX5) (N := 28) hx hb hts iX5 hown hK hP 0 rfl rfl 0 (by decide) (hts (.fieldLink RX5 42 "PulseRowsModel" "code" "I") (List.mem_of_getElem? (i := 2) rfl)) (fun _ h9 => h9) rfl dX5_nibble_27 ?_
        refine lv_if_le (tgt := 37) hx hb dX5_nibble_30 (by decide) (fun _ => ?_) (fun c9 => absurd c9 (by decide))
        refine lv_aload_n hx hb dX5_nibble_37 rfl (lv_at hl 0 rfl) ?_
        refine va_get (D := (dC, dI)) (ci := 6) (v := .ref b2) (C := RX5) (T := TX5) (N := 28) hx hb hts iX5 hown hK hP 0 rfl rfl 9 (by decide) (hts (.fieldLink RX5 17 "PulseRowsModel" "last" "[I") (List.mem_of_getElem? (i := 3) rfl)) (fun _ h9 => h9) rfl dX5_nibble_38 ?_
        refine lv_iload_n hx hb dX5_nibble_41 rfl (lv_at hl 1 rfl) ?_
        refine va_iald hx hb hK hP 1 0 rfl rfl (vin7 (N := 8) (M := 7) rfl c_5 c_9) dX5_nibble_42 ?_
        have e_11 : (0 : Int32) = X5_nibble_code sm ix := by rw [X5_nibble_code, if_neg c_1, if_neg c_5, if_pos c_9]
        have hP9 : va_P (dC, dI) vwCl [(h0, .inr (6, [.int (X5_nibble_code sm ix), .long tl, .int ed, .long eg, .int aw, .long tk, .long un, .ref b1, .int sm, .ref b2, .int frs, .ref b3, .ref b4, .ref b5, .int bts, .ref b6, .int msn, .ref b7, .int flt, .int bh, .int mkd, .int sta, .int lvl, .long snc, .long tld, .int fst, .int snd, .int stp])), (b2, .inl (cB2, 8, .inl laf))] H := by rw [← e_11]; exact hP.sub [0, 1] rfl
        have hD9 : va_D A [(h0, .inr (6, [.int (X5_nibble_code sm ix), .long tl, .int ed, .long eg, .int aw, .long tk, .long un, .ref b1, .int sm, .ref b2, .int frs, .ref b3, .ref b4, .ref b5, .int bts, .ref b6, .int msn, .ref b7, .int flt, .int bh, .int mkd, .int sta, .int lvl, .long snc, .long tld, .int fst, .int snd, .int stp])), (b2, .inl (cB2, 8, .inl laf))] := by rw [← e_11]; exact hD.sub [0, 1] (by decide) rfl
        have e_12 : laf (ix.toNatClampNeg) = X5_nibble_r sm laf ix := by rw [X5_nibble_r, if_neg c_1, if_neg c_5, if_pos c_9]
        exact W.iret (v := laf (ix.toNatClampNeg)) hx hb hr (fun t ht hW => ⟨⟨_, (), rfl, e_12, po.ret ht hW hP9 hK hD9⟩, hS.F ht⟩) hS.2.2 dX5_nibble_43
      · refine lv_iconst (v := 1) hx hb dX5_nibble_18 (by decide) ?_
        refine lv_goto (tgt := 23) hx hb dX5_nibble_19 (by decide) ?_
        refine va_put (D := (dC, dI)) (ci := 6) (v := .int 1) (ty := .int) (C := RX5) (T := TX5) (N := 28) hx hb hts iX5 tyX5 tyX5_ok nmX5 hown hK hP hD hS 0 rfl rfl 0 (by decide) (hts (.fieldLink RX5 42 "PulseRowsModel" "code" "I") (List.mem_of_getElem? (i := 2) rfl)) (fun _ h9 => h9) rfl (by decide +kernel) rfl rfl (Nat.le_of_ble_eq_true rfl) dX5_nibble_23 (fun H locs hP hD hS => ?_)
        have hP : va_P (dC, dI) vwCl [(h0, .inr (6, [.int 1, .long tl, .int ed, .long eg, .int aw, .long tk, .long un, .ref b1, .int sm, .ref b2, .int frs, .ref b3, .ref b4, .ref b5, .int bts, .ref b6, .int msn, .ref b7, .int flt, .int bh, .int mkd, .int sta, .int lvl, .long snc, .long tld, .int fst, .int snd, .int stp])), (b2, .inl (cB2, 8, .inl laf))] H := hP
        have hD : va_D A [(h0, .inr (6, [.int 1, .long tl, .int ed, .long eg, .int aw, .long tk, .long un, .ref b1, .int sm, .ref b2, .int frs, .ref b3, .ref b4, .ref b5, .int bts, .ref b6, .int msn, .ref b7, .int flt, .int bh, .int mkd, .int sta, .int lvl, .long snc, .long tld, .int fst, .int snd, .int stp])), (b2, .inl (cB2, 8, .inl laf))] := hD
        refine lv_aload_n hx hb dX5_nibble_26 rfl (lv_at hl 0 rfl) ?_
        refine va_get (D := (dC, dI)) (ci := 6) (v := .int 1) (C := RX5) (T := TX5) (N := 28) hx hb hts iX5 hown hK hP 0 rfl rfl 0 (by decide) (hts (.fieldLink RX5 42 "PulseRowsModel" "code" "I") (List.mem_of_getElem? (i := 2) rfl)) (fun _ h9 => h9) rfl dX5_nibble_27 ?_
        refine lv_if_le (tgt := 37) hx hb dX5_nibble_30 (by decide) (fun c9 => absurd c9 (by decide)) (fun _ => ?_)
        refine lv_iconst (v := 0) hx hb dX5_nibble_33 (by decide) ?_
        refine lv_goto (tgt := 43) hx hb dX5_nibble_34 (by decide) ?_
        have e_14 : (1 : Int32) = X5_nibble_code sm ix := by rw [X5_nibble_code, if_neg c_1, if_neg c_5, if_neg c_9]
        have hP9 : va_P (dC, dI) vwCl [(h0, .inr (6, [.int (X5_nibble_code sm ix), .long tl, .int ed, .long eg, .int aw, .long tk, .long un, .ref b1, .int sm, .ref b2, .int frs, .ref b3, .ref b4, .ref b5, .int bts, .ref b6, .int msn, .ref b7, .int flt, .int bh, .int mkd, .int sta, .int lvl, .long snc, .long tld, .int fst, .int snd, .int stp])), (b2, .inl (cB2, 8, .inl laf))] H := by rw [← e_14]; exact hP.sub [0, 1] rfl
        have hD9 : va_D A [(h0, .inr (6, [.int (X5_nibble_code sm ix), .long tl, .int ed, .long eg, .int aw, .long tk, .long un, .ref b1, .int sm, .ref b2, .int frs, .ref b3, .ref b4, .ref b5, .int bts, .ref b6, .int msn, .ref b7, .int flt, .int bh, .int mkd, .int sta, .int lvl, .long snc, .long tld, .int fst, .int snd, .int stp])), (b2, .inl (cB2, 8, .inl laf))] := by rw [← e_14]; exact hD.sub [0, 1] (by decide) rfl
        have e_15 : (0 : Int32) = X5_nibble_r sm laf ix := by rw [X5_nibble_r, if_neg c_1, if_neg c_5, if_neg c_9]
        exact W.iret (v := 0) hx hb hr (fun t ht hW => ⟨⟨_, (), rfl, e_15, po.ret ht hW hP9 hK hD9⟩, hS.F ht⟩) hS.2.2 dX5_nibble_43
def X5_slow_r (msn : Int32) (mef : Nat → Int32) (ix : Int32) : Int32 := if ix = (-1) then msn else (if ix < 0 then (-1) else (if ix < msn then (mef (ix.toNatClampNeg)) else (-1)))
set_option maxHeartbeats 4000000 in
set_option maxRecDepth 100000 in
theorem k_X5_slow (l : Launch) (dC : Nat → ClassId) (dI : Nat → Nat → Nat) (sz : Nat) (h0 : Nat) (cd : Int32) (tl : Int64) (ed : Int32) (eg : Int64) (aw : Int32) (tk : Int64) (un : Int64) (b1 : Nat) (sm : Int32) (b2 : Nat) (frs : Int32) (b3 : Nat) (b4 : Nat) (b5 : Nat) (bts : Int32) (b6 : Nat) (msn : Int32) (b7 : Nat) (flt : Int32) (bh : Int32) (mkd : Int32) (sta : Int32) (lvl : Int32) (snc : Int64) (tld : Int64) (fst : Int32) (snd : Int32) (stp : Int32) (cB7 : ClassId) (mef : Nat → Int32) (ix : Int32) (hm2 : ¬ 520 < msn) : Met l yX5_slow wsX5_slow ({ frames := 0, cells := 0, slots := 0, locals := 0 }) (va_Pc [.ref h0, .int ix] (pr (dC, dI) [(cB7, .int)] [(h0, .inr (6, [.int cd, .long tl, .int ed, .long eg, .int aw, .long tk, .long un, .ref b1, .int sm, .ref b2, .int frs, .ref b3, .ref b4, .ref b5, .int bts, .ref b6, .int msn, .ref b7, .int flt, .int bh, .int mkd, .int sta, .int lvl, .long snc, .long tld, .int fst, .int snd, .int stp])), (b7, .inl (cB7, 520, .inl mef))] sz)) (va_Qi (fun (r : Int32) (_ : Unit) => r = X5_slow_r msn mef ix) (fun _ t => po (dC, dI) [(cB7, .int)] (va_A [(h0, .inr (6, [.int cd, .long tl, .int ed, .long eg, .int aw, .long tk, .long un, .ref b1, .int sm, .ref b2, .int frs, .ref b3, .ref b4, .ref b5, .int bts, .ref b6, .int msn, .ref b7, .int flt, .int bh, .int mkd, .int sta, .int lvl, .long snc, .long tld, .int fst, .int snd, .int stp])), (b7, .inl (cB7, 520, .inl mef))] sz) [(h0, .inr (6, [.int 0, .long tl, .int ed, .long eg, .int aw, .long tk, .long un, .ref b1, .int sm, .ref b2, .int frs, .ref b3, .ref b4, .ref b5, .int bts, .ref b6, .int msn, .ref b7, .int flt, .int bh, .int mkd, .int sta, .int lvl, .long snc, .long tld, .int fst, .int snd, .int stp])), (b7, .inl (cB7, 520, .inl mef))] t) (va_A [(h0, .inr (6, [.int cd, .long tl, .int ed, .long eg, .int aw, .long tk, .long un, .ref b1, .int sm, .ref b2, .int frs, .ref b3, .ref b4, .ref b5, .int bts, .ref b6, .int msn, .ref b7, .int flt, .int bh, .int mkd, .int sta, .int lvl, .long snc, .long tld, .int fst, .int snd, .int stp])), (b7, .inl (cB7, 520, .inl mef))] sz)) 0 0 (va_A [(h0, .inr (6, [.int cd, .long tl, .int ed, .long eg, .int aw, .long tk, .long un, .ref b1, .int sm, .ref b2, .int frs, .ref b3, .ref b4, .ref b5, .int bts, .ref b6, .int msn, .ref b7, .int flt, .int bh, .int mkd, .int sta, .int lvl, .long snc, .long tld, .int fst, .int snd, .int stp])), (b7, .inl (cB7, 520, .inl mef))] sz) := by
  refine Met.ofW (cc := cX5_slow) (maxL := 2) (ret := (some .int)) (by decide) rfl ?_
  intro p e s m args below meth c s₁ B hml hv
  obtain ⟨rfl, hsz, hP, hK, hD0⟩ := hv
  have hx := B.exec
  have hb := B.bytes
  have hr := B.returns
  have hts := atoms_spec (ws := wsX5_slow) B.pre
  have hown : s.vm.findClass RX5 = some m.cls := findClass_of_methodNamed B.named
  have hlocks := B.notSynchronized
  subst hsz
  have hD := hD0.self (sz := s.heap.size)
  generalize hAe : va_A [(h0, .inr (6, [.int cd, .long tl, .int ed, .long eg, .int aw, .long tk, .long un, .ref b1, .int sm, .ref b2, .int frs, .ref b3, .ref b4, .ref b5, .int bts, .ref b6, .int msn, .ref b7, .int flt, .int bh, .int mkd, .int sta, .int lvl, .long snc, .long tld, .int fst, .int snd, .int stp])), (b7, .inl (cB7, 520, .inl mef))] s.heap.size = A at hD ⊢
  have hA : ∀ q : Nat, s.heap.size ≤ q → A q := fun q h => by rw [← hAe]; exact Or.inr h
  have hS : va_S A s.heap s.heap [] := va_S.rf
  have hP : va_P (dC, dI) vwCl [(h0, .inr (6, [.int cd, .long tl, .int ed, .long eg, .int aw, .long tk, .long un, .ref b1, .int sm, .ref b2, .int frs, .ref b3, .ref b4, .ref b5, .int bts, .ref b6, .int msn, .ref b7, .int flt, .int bh, .int mkd, .int sta, .int lvl, .long snc, .long tld, .int fst, .int snd, .int stp])), (b7, .inl (cB7, 520, .inl mef))] s.heap := hP
  have iX5 : ∀ w ∈ wsX50, w ∈ wsX5_slow := by decide +kernel
  have hl := lv_entry ([.ref h0, .int ix]) (n := 2) (Nat.le_of_ble_eq_true rfl)
  rw [lg_entry_eq]
  generalize (lg_sl ([.ref h0, .int ix]) ++ List.replicate (2 - (lg_sl ([.ref h0, .int ix])).length) Slot.unset).toArray = ls at hl ⊢
  have hl : lv_has ls 2 [(0, .ref h0), (1, .int ix)] := hl
  refine lv_aload_n hx hb dX5_slow_0 rfl (lv_at hl 0 rfl) ?_
  refine lv_iconst (v := 0) hx hb dX5_slow_1 (by decide) ?_
  refine va_put (D := (dC, dI)) (ci := 6) (v := .int 0) (ty := .int) (C := RX5) (T := TX5) (N := 28) hx hb hts iX5 tyX5 tyX5_ok nmX5 hown hK hP hD hS 0 rfl rfl 0 (by decide) (hts (.fieldLink RX5 42 "PulseRowsModel" "code" "I") (List.mem_of_getElem? (i := 1) rfl)) (fun _ h9 => h9) rfl (by decide +kernel) rfl rfl (Nat.le_of_ble_eq_true rfl) dX5_slow_2 (fun H locs hP hD hS => ?_)
  have hP : va_P (dC, dI) vwCl [(h0, .inr (6, [.int 0, .long tl, .int ed, .long eg, .int aw, .long tk, .long un, .ref b1, .int sm, .ref b2, .int frs, .ref b3, .ref b4, .ref b5, .int bts, .ref b6, .int msn, .ref b7, .int flt, .int bh, .int mkd, .int sta, .int lvl, .long snc, .long tld, .int fst, .int snd, .int stp])), (b7, .inl (cB7, 520, .inl mef))] H := hP
  have hD : va_D A [(h0, .inr (6, [.int 0, .long tl, .int ed, .long eg, .int aw, .long tk, .long un, .ref b1, .int sm, .ref b2, .int frs, .ref b3, .ref b4, .ref b5, .int bts, .ref b6, .int msn, .ref b7, .int flt, .int bh, .int mkd, .int sta, .int lvl, .long snc, .long tld, .int fst, .int snd, .int stp])), (b7, .inl (cB7, 520, .inl mef))] := hD
  refine lv_iload_n hx hb dX5_slow_5 rfl (lv_at hl 1 rfl) ?_
  refine lv_iconst (v := (-1)) hx hb dX5_slow_6 (by decide) ?_
  refine lv_icmp_ne (tgt := 15) hx hb dX5_slow_7 (by decide) (fun c_1 => ?_) (fun c_1 => ?_)
  · refine lv_iload_n hx hb dX5_slow_15 rfl (lv_at hl 1 rfl) ?_
    refine lv_if_lt (tgt := 27) hx hb dX5_slow_16 (by decide) (fun c_2 => ?_) (fun c_2 => ?_)
    · refine lv_iconst (v := (-1)) hx hb dX5_slow_27 (by decide) ?_
      refine lv_goto (tgt := 37) hx hb dX5_slow_28 (by decide) ?_
      have hP9 : va_P (dC, dI) vwCl [(h0, .inr (6, [.int 0, .long tl, .int ed, .long eg, .int aw, .long tk, .long un, .ref b1, .int sm, .ref b2, .int frs, .ref b3, .ref b4, .ref b5, .int bts, .ref b6, .int msn, .ref b7, .int flt, .int bh, .int mkd, .int sta, .int lvl, .long snc, .long tld, .int fst, .int snd, .int stp])), (b7, .inl (cB7, 520, .inl mef))] H := by exact hP.sub [0, 1] rfl
      have hD9 : va_D A [(h0, .inr (6, [.int 0, .long tl, .int ed, .long eg, .int aw, .long tk, .long un, .ref b1, .int sm, .ref b2, .int frs, .ref b3, .ref b4, .ref b5, .int bts, .ref b6, .int msn, .ref b7, .int flt, .int bh, .int mkd, .int sta, .int lvl, .long snc, .long tld, .int fst, .int snd, .int stp])), (b7, .inl (cB7, 520, .inl mef))] := by exact hD.sub [0, 1] (by decide) rfl
      have e_4 : ((-1) : Int32) = X5_slow_r msn mef ix := by rw [X5_slow_r, if_neg c_1, if_pos c_2]
      exact W.iret (v := (-1)) hx hb hr (fun t ht hW => ⟨⟨_, (), rfl, e_4, po.ret ht hW hP9 hK hD9⟩, hS.F ht⟩) hS.2.2 dX5_slow_37
    · refine lv_iload_n hx hb dX5_slow_19 rfl (lv_at hl 1 rfl) ?_
      refine lv_aload_n hx hb dX5_slow_20 rfl (lv_at hl 0 rfl) ?_
      refine va_get (D := (dC, dI)) (ci := 6) (v := .int msn) (C := RX5) (T := TX5) (N := 28) hx hb hts iX5 hown hK hP 0 rfl rfl 16 (by decide) (hts (.fieldLink RX5 74 "PulseRowsModel" "messages" "I") (List.mem_of_getElem? (i := 2) rfl)) (fun _ h9 => h9) rfl dX5_slow_21 ?_
      refine lv_icmp_lt (tgt := 31) hx hb dX5_slow_24 (by decide) (fun c_5 => ?_) (fun c_5 => ?_)
      · refine lv_aload_n hx hb dX5_slow_31 rfl (lv_at hl 0 rfl) ?_
        refine va_get (D := (dC, dI)) (ci := 6) (v := .ref b7) (C := RX5) (T := TX5) (N := 28) hx hb hts iX5 hown hK hP 0 rfl rfl 17 (by decide) (hts (.fieldLink RX5 33 "PulseRowsModel" "message" "[I") (List.mem_of_getElem? (i := 3) rfl)) (fun _ h9 => h9) rfl dX5_slow_32 ?_
        refine lv_iload_n hx hb dX5_slow_35 rfl (lv_at hl 1 rfl) ?_
        refine va_iald hx hb hK hP 1 0 rfl rfl (vin3 (N := 520) rfl c_2 c_5 hm2) dX5_slow_36 ?_
        have hP9 : va_P (dC, dI) vwCl [(h0, .inr (6, [.int 0, .long tl, .int ed, .long eg, .int aw, .long tk, .long un, .ref b1, .int sm, .ref b2, .int frs, .ref b3, .ref b4, .ref b5, .int bts, .ref b6, .int msn, .ref b7, .int flt, .int bh, .int mkd, .int sta, .int lvl, .long snc, .long tld, .int fst, .int snd, .int stp])), (b7, .inl (cB7, 520, .inl mef))] H := by exact hP.sub [0, 1] rfl
        have hD9 : va_D A [(h0, .inr (6, [.int 0, .long tl, .int ed, .long eg, .int aw, .long tk, .long un, .ref b1, .int sm, .ref b2, .int frs, .ref b3, .ref b4, .ref b5, .int bts, .ref b6, .int msn, .ref b7, .int flt, .int bh, .int mkd, .int sta, .int lvl, .long snc, .long tld, .int fst, .int snd, .int stp])), (b7, .inl (cB7, 520, .inl mef))] := by exact hD.sub [0, 1] (by decide) rfl
        have e_7 : mef (ix.toNatClampNeg) = X5_slow_r msn mef ix := by rw [X5_slow_r, if_neg c_1, if_neg c_2, if_pos c_5]
        exact W.iret (v := mef (ix.toNatClampNeg)) hx hb hr (fun t ht hW => ⟨⟨_, (), rfl, e_7, po.ret ht hW hP9 hK hD9⟩, hS.F ht⟩) hS.2.2 dX5_slow_37
      · refine lv_iconst (v := (-1)) hx hb dX5_slow_27 (by decide) ?_
        refine lv_goto (tgt := 37) hx hb dX5_slow_28 (by decide) ?_
        have hP9 : va_P (dC, dI) vwCl [(h0, .inr (6, [.int 0, .long tl, .int ed, .long eg, .int aw, .long tk, .long un, .ref b1, .int sm, .ref b2, .int frs, .ref b3, .ref b4, .ref b5, .int bts, .ref b6, .int msn, .ref b7, .int flt, .int bh, .int mkd, .int sta, .int lvl, .long snc, .long tld, .int fst, .int snd, .int stp])), (b7, .inl (cB7, 520, .inl mef))] H := by exact hP.sub [0, 1] rfl
        have hD9 : va_D A [(h0, .inr (6, [.int 0, .long tl, .int ed, .long eg, .int aw, .long tk, .long un, .ref b1, .int sm, .ref b2, .int frs, .ref b3, .ref b4, .ref b5, .int bts, .ref b6, .int msn, .ref b7, .int flt, .int bh, .int mkd, .int sta, .int lvl, .long snc, .long tld, .int fst, .int snd, .int stp])), (b7, .inl (cB7, 520, .inl mef))] := by exact hD.sub [0, 1] (by decide) rfl
        have e_9 : ((-1) : Int32) = X5_slow_r msn mef ix := by rw [X5_slow_r, if_neg c_1, if_neg c_2, if_neg c_5]
        exact W.iret (v := (-1)) hx hb hr (fun t ht hW => ⟨⟨_, (), rfl, e_9, po.ret ht hW hP9 hK hD9⟩, hS.F ht⟩) hS.2.2 dX5_slow_37
  · refine lv_aload_n hx hb dX5_slow_10 rfl (lv_at hl 0 rfl) ?_
    refine va_get (D := (dC, dI)) (ci := 6) (v := .int msn) (C := RX5) (T := TX5) (N := 28) hx hb hts iX5 hown hK hP 0 rfl rfl 16 (by decide) (hts (.fieldLink RX5 74 "PulseRowsModel" "messages" "I") (List.mem_of_getElem? (i := 2) rfl)) (fun _ h9 => h9) rfl dX5_slow_11 ?_
    have hP9 : va_P (dC, dI) vwCl [(h0, .inr (6, [.int 0, .long tl, .int ed, .long eg, .int aw, .long tk, .long un, .ref b1, .int sm, .ref b2, .int frs, .ref b3, .ref b4, .ref b5, .int bts, .ref b6, .int msn, .ref b7, .int flt, .int bh, .int mkd, .int sta, .int lvl, .long snc, .long tld, .int fst, .int snd, .int stp])), (b7, .inl (cB7, 520, .inl mef))] H := by exact hP.sub [0, 1] rfl
    have hD9 : va_D A [(h0, .inr (6, [.int 0, .long tl, .int ed, .long eg, .int aw, .long tk, .long un, .ref b1, .int sm, .ref b2, .int frs, .ref b3, .ref b4, .ref b5, .int bts, .ref b6, .int msn, .ref b7, .int flt, .int bh, .int mkd, .int sta, .int lvl, .long snc, .long tld, .int fst, .int snd, .int stp])), (b7, .inl (cB7, 520, .inl mef))] := by exact hD.sub [0, 1] (by decide) rfl
    have e_11 : msn = X5_slow_r msn mef ix := by rw [X5_slow_r, if_pos c_1]
    exact W.iret (v := msn) hx hb hr (fun t ht hW => ⟨⟨_, (), rfl, e_11, po.ret ht hW hP9 hK hD9⟩, hS.F ht⟩) hS.2.2 dX5_slow_14
def X5_row_r (frs : Int32) (stf : Nat → Int32) (daf : Nat → Int32) (rif : Nat → Int32) (ix : Int32) (wt : Int32) : Int32 := if ix = (-1) then (if wt = 0 then frs else (if ix < 0 then (-1) else (if ix < frs then (if wt < 0 then (-2) else (if wt ≤ 2 then (if wt = 1 then (daf (ix.toNatClampNeg)) else (if (rif (ix.toNatClampNeg)) = 0 then 0 else 1)) else (-2))) else (-1)))) else (if ix < 0 then (-1) else (if ix < frs then (if wt < 0 then (-2) else (if wt ≤ 2 then (if wt = 0 then (stf (ix.toNatClampNeg)) else (if wt = 1 then (daf (ix.toNatClampNeg)) else (if (rif (ix.toNatClampNeg)) = 0 then 0 else 1))) else (-2))) else (-1)))
set_option maxHeartbeats 4000000 in
set_option maxRecDepth 100000 in
theorem k_X5_row (l : Launch) (dC : Nat → ClassId) (dI : Nat → Nat → Nat) (sz : Nat) (h0 : Nat) (cd : Int32) (tl : Int64) (ed : Int32) (eg : Int64) (aw : Int32) (tk : Int64) (un : Int64) (b1 : Nat) (sm : Int32) (b2 : Nat) (frs : Int32) (b3 : Nat) (b4 : Nat) (b5 : Nat) (bts : Int32) (b6 : Nat) (msn : Int32) (b7 : Nat) (flt : Int32) (bh : Int32) (mkd : Int32) (sta : Int32) (lvl : Int32) (snc : Int64) (tld : Int64) (fst : Int32) (snd : Int32) (stp : Int32) (cB3 : ClassId) (stf : Nat → Int32) (cB4 : ClassId) (daf : Nat → Int32) (cB5 : ClassId) (rif : Nat → Int32) (ix : Int32) (wt : Int32) (hr2 : ¬ 520 < frs) : Met l yX5_row wsX5_row ({ frames := 0, cells := 0, slots := 0, locals := 0 }) (va_Pc [.ref h0, .int ix, .int wt] (pr (dC, dI) [(cB3, .int), (cB4, .int), (cB5, .boolean)] [(h0, .inr (6, [.int cd, .long tl, .int ed, .long eg, .int aw, .long tk, .long un, .ref b1, .int sm, .ref b2, .int frs, .ref b3, .ref b4, .ref b5, .int bts, .ref b6, .int msn, .ref b7, .int flt, .int bh, .int mkd, .int sta, .int lvl, .long snc, .long tld, .int fst, .int snd, .int stp])), (b3, .inl (cB3, 520, .inl stf)), (b4, .inl (cB4, 520, .inl daf)), (b5, .inl (cB5, 520, .inl rif))] sz)) (va_Qi (fun (r : Int32) (_ : Unit) => r = X5_row_r frs stf daf rif ix wt) (fun _ t => po (dC, dI) [(cB3, .int), (cB4, .int), (cB5, .boolean)] (va_A [(h0, .inr (6, [.int cd, .long tl, .int ed, .long eg, .int aw, .long tk, .long un, .ref b1, .int sm, .ref b2, .int frs, .ref b3, .ref b4, .ref b5, .int bts, .ref b6, .int msn, .ref b7, .int flt, .int bh, .int mkd, .int sta, .int lvl, .long snc, .long tld, .int fst, .int snd, .int stp])), (b3, .inl (cB3, 520, .inl stf)), (b4, .inl (cB4, 520, .inl daf)), (b5, .inl (cB5, 520, .inl rif))] sz) [(h0, .inr (6, [.int 0, .long tl, .int ed, .long eg, .int aw, .long tk, .long un, .ref b1, .int sm, .ref b2, .int frs, .ref b3, .ref b4, .ref b5, .int bts, .ref b6, .int msn, .ref b7, .int flt, .int bh, .int mkd, .int sta, .int lvl, .long snc, .long tld, .int fst, .int snd, .int stp])), (b3, .inl (cB3, 520, .inl stf)), (b4, .inl (cB4, 520, .inl daf)), (b5, .inl (cB5, 520, .inl rif))] t) (va_A [(h0, .inr (6, [.int cd, .long tl, .int ed, .long eg, .int aw, .long tk, .long un, .ref b1, .int sm, .ref b2, .int frs, .ref b3, .ref b4, .ref b5, .int bts, .ref b6, .int msn, .ref b7, .int flt, .int bh, .int mkd, .int sta, .int lvl, .long snc, .long tld, .int fst, .int snd, .int stp])), (b3, .inl (cB3, 520, .inl stf)), (b4, .inl (cB4, 520, .inl daf)), (b5, .inl (cB5, 520, .inl rif))] sz)) 0 0 (va_A [(h0, .inr (6, [.int cd, .long tl, .int ed, .long eg, .int aw, .long tk, .long un, .ref b1, .int sm, .ref b2, .int frs, .ref b3, .ref b4, .ref b5, .int bts, .ref b6, .int msn, .ref b7, .int flt, .int bh, .int mkd, .int sta, .int lvl, .long snc, .long tld, .int fst, .int snd, .int stp])), (b3, .inl (cB3, 520, .inl stf)), (b4, .inl (cB4, 520, .inl daf)), (b5, .inl (cB5, 520, .inl rif))] sz) := by
  refine Met.ofW (cc := cX5_row) (maxL := 3) (ret := (some .int)) (by decide) rfl ?_
  intro p e s m args below meth c s₁ B hml hv
  obtain ⟨rfl, hsz, hP, hK, hD0⟩ := hv
  have hx := B.exec
  have hb := B.bytes
  have hr := B.returns
  have hts := atoms_spec (ws := wsX5_row) B.pre
  have hown : s.vm.findClass RX5 = some m.cls := findClass_of_methodNamed B.named
  have hlocks := B.notSynchronized
  subst hsz
  have hD := hD0.self (sz := s.heap.size)
  generalize hAe : va_A [(h0, .inr (6, [.int cd, .long tl, .int ed, .long eg, .int aw, .long tk, .long un, .ref b1, .int sm, .ref b2, .int frs, .ref b3, .ref b4, .ref b5, .int bts, .ref b6, .int msn, .ref b7, .int flt, .int bh, .int mkd, .int sta, .int lvl, .long snc, .long tld, .int fst, .int snd, .int stp])), (b3, .inl (cB3, 520, .inl stf)), (b4, .inl (cB4, 520, .inl daf)), (b5, .inl (cB5, 520, .inl rif))] s.heap.size = A at hD ⊢
  have hA : ∀ q : Nat, s.heap.size ≤ q → A q := fun q h => by rw [← hAe]; exact Or.inr h
  have hS : va_S A s.heap s.heap [] := va_S.rf
  have hP : va_P (dC, dI) vwCl [(h0, .inr (6, [.int cd, .long tl, .int ed, .long eg, .int aw, .long tk, .long un, .ref b1, .int sm, .ref b2, .int frs, .ref b3, .ref b4, .ref b5, .int bts, .ref b6, .int msn, .ref b7, .int flt, .int bh, .int mkd, .int sta, .int lvl, .long snc, .long tld, .int fst, .int snd, .int stp])), (b3, .inl (cB3, 520, .inl stf)), (b4, .inl (cB4, 520, .inl daf)), (b5, .inl (cB5, 520, .inl rif))] s.heap := hP
  have iX5 : ∀ w ∈ wsX50, w ∈ wsX5_row := by decide +kernel
  have hl := lv_entry ([.ref h0, .int ix, .int wt]) (n := 3) (Nat.le_of_ble_eq_true rfl)
  rw [lg_entry_eq]
  generalize (lg_sl ([.ref h0, .int ix, .int wt]) ++ List.replicate (3 - (lg_sl ([.ref h0, .int ix, .int wt])).length) Slot.unset).toArray = ls at hl ⊢
  have hl : lv_has ls 3 [(0, .ref h0), (1, .int ix), (2, .int wt)] := hl
  refine lv_aload_n hx hb dX5_row_0 rfl (lv_at hl 0 rfl) ?_
  refine lv_iconst (v := 0) hx hb dX5_row_1 (by decide) ?_
  refine va_put (D := (dC, dI)) (ci := 6) (v := .int 0) (ty := .int) (C := RX5) (T := TX5) (N := 28) hx hb hts iX5 tyX5 tyX5_ok nmX5 hown hK hP hD hS 0 rfl rfl 0 (by decide) (hts (.fieldLink RX5 42 "PulseRowsModel" "code" "I") (List.mem_of_getElem? (i := 1) rfl)) (fun _ h9 => h9) rfl (by decide +kernel) rfl rfl (Nat.le_of_ble_eq_true rfl) dX5_row_2 (fun H locs hP hD hS => ?_)
  have hP : va_P (dC, dI) vwCl [(h0, .inr (6, [.int 0, .long tl, .int ed, .long eg, .int aw, .long tk, .long un, .ref b1, .int sm, .ref b2, .int frs, .ref b3, .ref b4, .ref b5, .int bts, .ref b6, .int msn, .ref b7, .int flt, .int bh, .int mkd, .int sta, .int lvl, .long snc, .long tld, .int fst, .int snd, .int stp])), (b3, .inl (cB3, 520, .inl stf)), (b4, .inl (cB4, 520, .inl daf)), (b5, .inl (cB5, 520, .inl rif))] H := hP
  have hD : va_D A [(h0, .inr (6, [.int 0, .long tl, .int ed, .long eg, .int aw, .long tk, .long un, .ref b1, .int sm, .ref b2, .int frs, .ref b3, .ref b4, .ref b5, .int bts, .ref b6, .int msn, .ref b7, .int flt, .int bh, .int mkd, .int sta, .int lvl, .long snc, .long tld, .int fst, .int snd, .int stp])), (b3, .inl (cB3, 520, .inl stf)), (b4, .inl (cB4, 520, .inl daf)), (b5, .inl (cB5, 520, .inl rif))] := hD
  refine lv_iload_n hx hb dX5_row_5 rfl (lv_at hl 1 rfl) ?_
  refine lv_iconst (v := (-1)) hx hb dX5_row_6 (by decide) ?_
  refine lv_icmp_ne (tgt := 19) hx hb dX5_row_7 (by decide) (fun c_1 => ?_) (fun c_1 => ?_)
  · refine lv_iload_n hx hb dX5_row_19 rfl (lv_at hl 1 rfl) ?_
    refine lv_if_lt (tgt := 31) hx hb dX5_row_20 (by decide) (fun c_2 => ?_) (fun c_2 => ?_)
    · refine lv_iconst (v := (-1)) hx hb dX5_row_31 (by decide) ?_
      have hP9 : va_P (dC, dI) vwCl [(h0, .inr (6, [.int 0, .long tl, .int ed, .long eg, .int aw, .long tk, .long un, .ref b1, .int sm, .ref b2, .int frs, .ref b3, .ref b4, .ref b5, .int bts, .ref b6, .int msn, .ref b7, .int flt, .int bh, .int mkd, .int sta, .int lvl, .long snc, .long tld, .int fst, .int snd, .int stp])), (b3, .inl (cB3, 520, .inl stf)), (b4, .inl (cB4, 520, .inl daf)), (b5, .inl (cB5, 520, .inl rif))] H := by exact hP.sub [0, 1, 2, 3] rfl
      have hD9 : va_D A [(h0, .inr (6, [.int 0, .long tl, .int ed, .long eg, .int aw, .long tk, .long un, .ref b1, .int sm, .ref b2, .int frs, .ref b3, .ref b4, .ref b5, .int bts, .ref b6, .int msn, .ref b7, .int flt, .int bh, .int mkd, .int sta, .int lvl, .long snc, .long tld, .int fst, .int snd, .int stp])), (b3, .inl (cB3, 520, .inl stf)), (b4, .inl (cB4, 520, .inl daf)), (b5, .inl (cB5, 520, .inl rif))] := by exact hD.sub [0, 1, 2, 3] (by decide) rfl
      have e_4 : ((-1) : Int32) = X5_row_r frs stf daf rif ix wt := by rw [X5_row_r, if_neg c_1, if_pos c_2]
      exact W.iret (v := (-1)) hx hb hr (fun t ht hW => ⟨⟨_, (), rfl, e_4, po.ret ht hW hP9 hK hD9⟩, hS.F ht⟩) hS.2.2 dX5_row_32
    · refine lv_iload_n hx hb dX5_row_23 rfl (lv_at hl 1 rfl) ?_
      refine lv_aload_n hx hb dX5_row_24 rfl (lv_at hl 0 rfl) ?_
      refine va_get (D := (dC, dI)) (ci := 6) (v := .int frs) (C := RX5) (T := TX5) (N := 28) hx hb hts iX5 hown hK hP 0 rfl rfl 10 (by decide) (hts (.fieldLink RX5 80 "PulseRowsModel" "frames" "I") (List.mem_of_getElem? (i := 2) rfl)) (fun _ h9 => h9) rfl dX5_row_25 ?_
      refine lv_icmp_lt (tgt := 33) hx hb dX5_row_28 (by decide) (fun c_5 => ?_) (fun c_5 => ?_)
      · refine lv_iload_n hx hb dX5_row_33 rfl (lv_at hl 2 rfl) ?_
        refine lv_if_lt (tgt := 42) hx hb dX5_row_34 (by decide) (fun c_6 => ?_) (fun c_6 => ?_)
        · refine lv_bipush (v := (-2)) hx hb dX5_row_42 (by decide) ?_
          have hP9 : va_P (dC, dI) vwCl [(h0, .inr (6, [.int 0, .long tl, .int ed, .long eg, .int aw, .long tk, .long un, .ref b1, .int sm, .ref b2, .int frs, .ref b3, .ref b4, .ref b5, .int bts, .ref b6, .int msn, .ref b7, .int flt, .int bh, .int mkd, .int sta, .int lvl, .long snc, .long tld, .int fst, .int snd, .int stp])), (b3, .inl (cB3, 520, .inl stf)), (b4, .inl (cB4, 520, .inl daf)), (b5, .inl (cB5, 520, .inl rif))] H := by exact hP.sub [0, 1, 2, 3] rfl
          have hD9 : va_D A [(h0, .inr (6, [.int 0, .long tl, .int ed, .long eg, .int aw, .long tk, .long un, .ref b1, .int sm, .ref b2, .int frs, .ref b3, .ref b4, .ref b5, .int bts, .ref b6, .int msn, .ref b7, .int flt, .int bh, .int mkd, .int sta, .int lvl, .long snc, .long tld, .int fst, .int snd, .int stp])), (b3, .inl (cB3, 520, .inl stf)), (b4, .inl (cB4, 520, .inl daf)), (b5, .inl (cB5, 520, .inl rif))] := by exact hD.sub [0, 1, 2, 3] (by decide) rfl
          have e_8 : ((-2) : Int32) = X5_row_r frs stf daf rif ix wt := by rw [X5_row_r, if_neg c_1, if_neg c_2, if_pos c_5, if_pos c_6]
          exact W.iret (v := (-2)) hx hb hr (fun t ht hW => ⟨⟨_, (), rfl, e_8, po.ret ht hW hP9 hK hD9⟩, hS.F ht⟩) hS.2.2 dX5_row_44
        · refine lv_iload_n hx hb dX5_row_37 rfl (lv_at hl 2 rfl) ?_
          refine lv_iconst (v := 2) hx hb dX5_row_38 (by decide) ?_
          refine lv_icmp_le (tgt := 45) hx hb dX5_row_39 (by decide) (fun c_9 => ?_) (fun c_9 => ?_)
          · refine lv_iload_n hx hb dX5_row_45 rfl (lv_at hl 2 rfl) ?_
            refine lv_if_ne (tgt := 58) hx hb dX5_row_46 (by decide) (fun c_10 => ?_) (fun c_10 => ?_)
            · refine lv_iload_n hx hb dX5_row_58 rfl (lv_at hl 2 rfl) ?_
              refine lv_iconst (v := 1) hx hb dX5_row_59 (by decide) ?_
              refine lv_icmp_ne (tgt := 72) hx hb dX5_row_60 (by decide) (fun c_11 => ?_) (fun c_11 => ?_)
              · refine lv_aload_n hx hb dX5_row_72 rfl (lv_at hl 0 rfl) ?_
                refine va_get (D := (dC, dI)) (ci := 6) (v := .ref b5) (C := RX5) (T := TX5) (N := 28) hx hb hts iX5 hown hK hP 0 rfl rfl 13 (by decide) (hts (.fieldLink RX5 26 "PulseRowsModel" "right" "[Z") (List.mem_of_getElem? (i := 5) rfl)) (fun _ h9 => h9) rfl dX5_row_73 ?_
                refine lv_iload_n hx hb dX5_row_76 rfl (lv_at hl 1 rfl) ?_
                refine va_zald hx hb hK hP 3 2 rfl rfl (vin3 (N := 520) rfl c_2 c_5 hr2) dX5_row_77 ?_
                refine lv_if_eq (tgt := 85) hx hb dX5_row_78 (by decide) (fun c_12 => ?_) (fun c_12 => ?_)
                · refine lv_iconst (v := 0) hx hb dX5_row_85 (by decide) ?_
                  have hP9 : va_P (dC, dI) vwCl [(h0, .inr (6, [.int 0, .long tl, .int ed, .long eg, .int aw, .long tk, .long un, .ref b1, .int sm, .ref b2, .int frs, .ref b3, .ref b4, .ref b5, .int bts, .ref b6, .int msn, .ref b7, .int flt, .int bh, .int mkd, .int sta, .int lvl, .long snc, .long tld, .int fst, .int snd, .int stp])), (b3, .inl (cB3, 520, .inl stf)), (b4, .inl (cB4, 520, .inl daf)), (b5, .inl (cB5, 520, .inl rif))] H := by exact hP.sub [0, 1, 2, 3] rfl
                  have hD9 : va_D A [(h0, .inr (6, [.int 0, .long tl, .int ed, .long eg, .int aw, .long tk, .long un, .ref b1, .int sm, .ref b2, .int frs, .ref b3, .ref b4, .ref b5, .int bts, .ref b6, .int msn, .ref b7, .int flt, .int bh, .int mkd, .int sta, .int lvl, .long snc, .long tld, .int fst, .int snd, .int stp])), (b3, .inl (cB3, 520, .inl stf)), (b4, .inl (cB4, 520, .inl daf)), (b5, .inl (cB5, 520, .inl rif))] := by exact hD.sub [0, 1, 2, 3] (by decide) rfl
                  have e_14 : (0 : Int32) = X5_row_r frs stf daf rif ix wt := by rw [X5_row_r, if_neg c_1, if_neg c_2, if_pos c_5, if_neg c_6, if_pos c_9, if_neg c_10, if_neg c_11, if_pos c_12]
                  exact W.iret (v := 0) hx hb hr (fun t ht hW => ⟨⟨_, (), rfl, e_14, po.ret ht hW hP9 hK hD9⟩, hS.F ht⟩) hS.2.2 dX5_row_86
                · refine lv_iconst (v := 1) hx hb dX5_row_81 (by decide) ?_
                  refine lv_goto (tgt := 86) hx hb dX5_row_82 (by decide) ?_
                  have hP9 : va_P (dC, dI) vwCl [(h0, .inr (6, [.int 0, .long tl, .int ed, .long eg, .int aw, .long tk, .long un, .ref b1, .int sm, .ref b2, .int frs, .ref b3, .ref b4, .ref b5, .int bts, .ref b6, .int msn, .ref b7, .int flt, .int bh, .int mkd, .int sta, .int lvl, .long snc, .long tld, .int fst, .int snd, .int stp])), (b3, .inl (cB3, 520, .inl stf)), (b4, .inl (cB4, 520, .inl daf)), (b5, .inl (cB5, 520, .inl rif))] H := by exact hP.sub [0, 1, 2, 3] rfl
                  have hD9 : va_D A [(h0, .inr (6, [.int 0, .long tl, .int ed, .long eg, .int aw, .long tk, .long un, .ref b1, .int sm, .ref b2, .int frs, .ref b3, .ref b4, .ref b5, .int bts, .ref b6, .int msn, .ref b7, .int flt, .int bh, .int mkd, .int sta, .int lvl, .long snc, .long tld, .int fst, .int snd, .int stp])), (b3, .inl (cB3, 520, .inl stf)), (b4, .inl (cB4, 520, .inl daf)), (b5, .inl (cB5, 520, .inl rif))] := by exact hD.sub [0, 1, 2, 3] (by decide) rfl
                  have e_16 : (1 : Int32) = X5_row_r frs stf daf rif ix wt := by rw [X5_row_r, if_neg c_1, if_neg c_2, if_pos c_5, if_neg c_6, if_pos c_9, if_neg c_10, if_neg c_11, if_neg c_12]
                  exact W.iret (v := 1) hx hb hr (fun t ht hW => ⟨⟨_, (), rfl, e_16, po.ret ht hW hP9 hK hD9⟩, hS.F ht⟩) hS.2.2 dX5_row_86
              · refine lv_aload_n hx hb dX5_row_63 rfl (lv_at hl 0 rfl) ?_
                refine va_get (D := (dC, dI)) (ci := 6) (v := .ref b4) (C := RX5) (T := TX5) (N := 28) hx hb hts iX5 hown hK hP 0 rfl rfl 12 (by decide) (hts (.fieldLink RX5 23 "PulseRowsModel" "data" "[I") (List.mem_of_getElem? (i := 4) rfl)) (fun _ h9 => h9) rfl dX5_row_64 ?_
                refine lv_iload_n hx hb dX5_row_67 rfl (lv_at hl 1 rfl) ?_
                refine va_iald hx hb hK hP 2 1 rfl rfl (vin3 (N := 520) rfl c_2 c_5 hr2) dX5_row_68 ?_
                refine lv_goto (tgt := 86) hx hb dX5_row_69 (by decide) ?_
                have hP9 : va_P (dC, dI) vwCl [(h0, .inr (6, [.int 0, .long tl, .int ed, .long eg, .int aw, .long tk, .long un, .ref b1, .int sm, .ref b2, .int frs, .ref b3, .ref b4, .ref b5, .int bts, .ref b6, .int msn, .ref b7, .int flt, .int bh, .int mkd, .int sta, .int lvl, .long snc, .long tld, .int fst, .int snd, .int stp])), (b3, .inl (cB3, 520, .inl stf)), (b4, .inl (cB4, 520, .inl daf)), (b5, .inl (cB5, 520, .inl rif))] H := by exact hP.sub [0, 1, 2, 3] rfl
                have hD9 : va_D A [(h0, .inr (6, [.int 0, .long tl, .int ed, .long eg, .int aw, .long tk, .long un, .ref b1, .int sm, .ref b2, .int frs, .ref b3, .ref b4, .ref b5, .int bts, .ref b6, .int msn, .ref b7, .int flt, .int bh, .int mkd, .int sta, .int lvl, .long snc, .long tld, .int fst, .int snd, .int stp])), (b3, .inl (cB3, 520, .inl stf)), (b4, .inl (cB4, 520, .inl daf)), (b5, .inl (cB5, 520, .inl rif))] := by exact hD.sub [0, 1, 2, 3] (by decide) rfl
                have e_18 : daf (ix.toNatClampNeg) = X5_row_r frs stf daf rif ix wt := by rw [X5_row_r, if_neg c_1, if_neg c_2, if_pos c_5, if_neg c_6, if_pos c_9, if_neg c_10, if_pos c_11]
                exact W.iret (v := daf (ix.toNatClampNeg)) hx hb hr (fun t ht hW => ⟨⟨_, (), rfl, e_18, po.ret ht hW hP9 hK hD9⟩, hS.F ht⟩) hS.2.2 dX5_row_86
            · refine lv_aload_n hx hb dX5_row_49 rfl (lv_at hl 0 rfl) ?_
              refine va_get (D := (dC, dI)) (ci := 6) (v := .ref b3) (C := RX5) (T := TX5) (N := 28) hx hb hts iX5 hown hK hP 0 rfl rfl 11 (by decide) (hts (.fieldLink RX5 20 "PulseRowsModel" "status" "[I") (List.mem_of_getElem? (i := 3) rfl)) (fun _ h9 => h9) rfl dX5_row_50 ?_
              refine lv_iload_n hx hb dX5_row_53 rfl (lv_at hl 1 rfl) ?_
              refine va_iald hx hb hK hP 1 0 rfl rfl (vin3 (N := 520) rfl c_2 c_5 hr2) dX5_row_54 ?_
              refine lv_goto (tgt := 86) hx hb dX5_row_55 (by decide) ?_
              have hP9 : va_P (dC, dI) vwCl [(h0, .inr (6, [.int 0, .long tl, .int ed, .long eg, .int aw, .long tk, .long un, .ref b1, .int sm, .ref b2, .int frs, .ref b3, .ref b4, .ref b5, .int bts, .ref b6, .int msn, .ref b7, .int flt, .int bh, .int mkd, .int sta, .int lvl, .long snc, .long tld, .int fst, .int snd, .int stp])), (b3, .inl (cB3, 520, .inl stf)), (b4, .inl (cB4, 520, .inl daf)), (b5, .inl (cB5, 520, .inl rif))] H := by exact hP.sub [0, 1, 2, 3] rfl
              have hD9 : va_D A [(h0, .inr (6, [.int 0, .long tl, .int ed, .long eg, .int aw, .long tk, .long un, .ref b1, .int sm, .ref b2, .int frs, .ref b3, .ref b4, .ref b5, .int bts, .ref b6, .int msn, .ref b7, .int flt, .int bh, .int mkd, .int sta, .int lvl, .long snc, .long tld, .int fst, .int snd, .int stp])), (b3, .inl (cB3, 520, .inl stf)), (b4, .inl (cB4, 520, .inl daf)), (b5, .inl (cB5, 520, .inl rif))] := by exact hD.sub [0, 1, 2, 3] (by decide) rfl
              have e_20 : stf (ix.toNatClampNeg) = X5_row_r frs stf daf rif ix wt := by rw [X5_row_r, if_neg c_1, if_neg c_2, if_pos c_5, if_neg c_6, if_pos c_9, if_pos c_10]
              exact W.iret (v := stf (ix.toNatClampNeg)) hx hb hr (fun t ht hW => ⟨⟨_, (), rfl, e_20, po.ret ht hW hP9 hK hD9⟩, hS.F ht⟩) hS.2.2 dX5_row_86
          · refine lv_bipush (v := (-2)) hx hb dX5_row_42 (by decide) ?_
            have hP9 : va_P (dC, dI) vwCl [(h0, .inr (6, [.int 0, .long tl, .int ed, .long eg, .int aw, .long tk, .long un, .ref b1, .int sm, .ref b2, .int frs, .ref b3, .ref b4, .ref b5, .int bts, .ref b6, .int msn, .ref b7, .int flt, .int bh, .int mkd, .int sta, .int lvl, .long snc, .long tld, .int fst, .int snd, .int stp])), (b3, .inl (cB3, 520, .inl stf)), (b4, .inl (cB4, 520, .inl daf)), (b5, .inl (cB5, 520, .inl rif))] H := by exact hP.sub [0, 1, 2, 3] rfl
            have hD9 : va_D A [(h0, .inr (6, [.int 0, .long tl, .int ed, .long eg, .int aw, .long tk, .long un, .ref b1, .int sm, .ref b2, .int frs, .ref b3, .ref b4, .ref b5, .int bts, .ref b6, .int msn, .ref b7, .int flt, .int bh, .int mkd, .int sta, .int lvl, .long snc, .long tld, .int fst, .int snd, .int stp])), (b3, .inl (cB3, 520, .inl stf)), (b4, .inl (cB4, 520, .inl daf)), (b5, .inl (cB5, 520, .inl rif))] := by exact hD.sub [0, 1, 2, 3] (by decide) rfl
            have e_22 : ((-2) : Int32) = X5_row_r frs stf daf rif ix wt := by rw [X5_row_r, if_neg c_1, if_neg c_2, if_pos c_5, if_neg c_6, if_neg c_9]
            exact W.iret (v := (-2)) hx hb hr (fun t ht hW => ⟨⟨_, (), rfl, e_22, po.ret ht hW hP9 hK hD9⟩, hS.F ht⟩) hS.2.2 dX5_row_44
      · refine lv_iconst (v := (-1)) hx hb dX5_row_31 (by decide) ?_
        have hP9 : va_P (dC, dI) vwCl [(h0, .inr (6, [.int 0, .long tl, .int ed, .long eg, .int aw, .long tk, .long un, .ref b1, .int sm, .ref b2, .int frs, .ref b3, .ref b4, .ref b5, .int bts, .ref b6, .int msn, .ref b7, .int flt, .int bh, .int mkd, .int sta, .int lvl, .long snc, .long tld, .int fst, .int snd, .int stp])), (b3, .inl (cB3, 520, .inl stf)), (b4, .inl (cB4, 520, .inl daf)), (b5, .inl (cB5, 520, .inl rif))] H := by exact hP.sub [0, 1, 2, 3] rfl
        have hD9 : va_D A [(h0, .inr (6, [.int 0, .long tl, .int ed, .long eg, .int aw, .long tk, .long un, .ref b1, .int sm, .ref b2, .int frs, .ref b3, .ref b4, .ref b5, .int bts, .ref b6, .int msn, .ref b7, .int flt, .int bh, .int mkd, .int sta, .int lvl, .long snc, .long tld, .int fst, .int snd, .int stp])), (b3, .inl (cB3, 520, .inl stf)), (b4, .inl (cB4, 520, .inl daf)), (b5, .inl (cB5, 520, .inl rif))] := by exact hD.sub [0, 1, 2, 3] (by decide) rfl
        have e_24 : ((-1) : Int32) = X5_row_r frs stf daf rif ix wt := by rw [X5_row_r, if_neg c_1, if_neg c_2, if_neg c_5]
        exact W.iret (v := (-1)) hx hb hr (fun t ht hW => ⟨⟨_, (), rfl, e_24, po.ret ht hW hP9 hK hD9⟩, hS.F ht⟩) hS.2.2 dX5_row_32
  · refine lv_iload_n hx hb dX5_row_10 rfl (lv_at hl 2 rfl) ?_
    refine lv_if_ne (tgt := 19) hx hb dX5_row_11 (by decide) (fun c_25 => ?_) (fun c_25 => ?_)
    · refine lv_iload_n hx hb dX5_row_19 rfl (lv_at hl 1 rfl) ?_
      refine lv_if_lt (tgt := 31) hx hb dX5_row_20 (by decide) (fun c_26 => ?_) (fun c_26 => ?_)
      · refine lv_iconst (v := (-1)) hx hb dX5_row_31 (by decide) ?_
        have hP9 : va_P (dC, dI) vwCl [(h0, .inr (6, [.int 0, .long tl, .int ed, .long eg, .int aw, .long tk, .long un, .ref b1, .int sm, .ref b2, .int frs, .ref b3, .ref b4, .ref b5, .int bts, .ref b6, .int msn, .ref b7, .int flt, .int bh, .int mkd, .int sta, .int lvl, .long snc, .long tld, .int fst, .int snd, .int stp])), (b3, .inl (cB3, 520, .inl stf)), (b4, .inl (cB4, 520, .inl daf)), (b5, .inl (cB5, 520, .inl rif))] H := by exact hP.sub [0, 1, 2, 3] rfl
        have hD9 : va_D A [(h0, .inr (6, [.int 0, .long tl, .int ed, .long eg, .int aw, .long tk, .long un, .ref b1, .int sm, .ref b2, .int frs, .ref b3, .ref b4, .ref b5, .int bts, .ref b6, .int msn, .ref b7, .int flt, .int bh, .int mkd, .int sta, .int lvl, .long snc, .long tld, .int fst, .int snd, .int stp])), (b3, .inl (cB3, 520, .inl stf)), (b4, .inl (cB4, 520, .inl daf)), (b5, .inl (cB5, 520, .inl rif))] := by exact hD.sub [0, 1, 2, 3] (by decide) rfl
        have e_28 : ((-1) : Int32) = X5_row_r frs stf daf rif ix wt := by rw [X5_row_r, if_pos c_1, if_neg c_25, if_pos c_26]
        exact W.iret (v := (-1)) hx hb hr (fun t ht hW => ⟨⟨_, (), rfl, e_28, po.ret ht hW hP9 hK hD9⟩, hS.F ht⟩) hS.2.2 dX5_row_32
      · refine lv_iload_n hx hb dX5_row_23 rfl (lv_at hl 1 rfl) ?_
        refine lv_aload_n hx hb dX5_row_24 rfl (lv_at hl 0 rfl) ?_
        refine va_get (D := (dC, dI)) (ci := 6) (v := .int frs) (C := RX5) (T := TX5) (N := 28) hx hb hts iX5 hown hK hP 0 rfl rfl 10 (by decide) (hts (.fieldLink RX5 80 "PulseRowsModel" "frames" "I") (List.mem_of_getElem? (i := 2) rfl)) (fun _ h9 => h9) rfl dX5_row_25 ?_
        refine lv_icmp_lt (tgt := 33) hx hb dX5_row_28 (by decide) (fun c_29 => ?_) (fun c_29 => ?_)
        · refine lv_iload_n hx hb dX5_row_33 rfl (lv_at hl 2 rfl) ?_
          refine lv_if_lt (tgt := 42) hx hb dX5_row_34 (by decide) (fun c_30 => ?_) (fun c_30 => ?_)
          · refine lv_bipush (v := (-2)) hx hb dX5_row_42 (by decide) ?_
            have hP9 : va_P (dC, dI) vwCl [(h0, .inr (6, [.int 0, .long tl, .int ed, .long eg, .int aw, .long tk, .long un, .ref b1, .int sm, .ref b2, .int frs, .ref b3, .ref b4, .ref b5, .int bts, .ref b6, .int msn, .ref b7, .int flt, .int bh, .int mkd, .int sta, .int lvl, .long snc, .long tld, .int fst, .int snd, .int stp])), (b3, .inl (cB3, 520, .inl stf)), (b4, .inl (cB4, 520, .inl daf)), (b5, .inl (cB5, 520, .inl rif))] H := by exact hP.sub [0, 1, 2, 3] rfl
            have hD9 : va_D A [(h0, .inr (6, [.int 0, .long tl, .int ed, .long eg, .int aw, .long tk, .long un, .ref b1, .int sm, .ref b2, .int frs, .ref b3, .ref b4, .ref b5, .int bts, .ref b6, .int msn, .ref b7, .int flt, .int bh, .int mkd, .int sta, .int lvl, .long snc, .long tld, .int fst, .int snd, .int stp])), (b3, .inl (cB3, 520, .inl stf)), (b4, .inl (cB4, 520, .inl daf)), (b5, .inl (cB5, 520, .inl rif))] := by exact hD.sub [0, 1, 2, 3] (by decide) rfl
            have e_32 : ((-2) : Int32) = X5_row_r frs stf daf rif ix wt := by rw [X5_row_r, if_pos c_1, if_neg c_25, if_neg c_26, if_pos c_29, if_pos c_30]
            exact W.iret (v := (-2)) hx hb hr (fun t ht hW => ⟨⟨_, (), rfl, e_32, po.ret ht hW hP9 hK hD9⟩, hS.F ht⟩) hS.2.2 dX5_row_44
          · refine lv_iload_n hx hb dX5_row_37 rfl (lv_at hl 2 rfl) ?_
            refine lv_iconst (v := 2) hx hb dX5_row_38 (by decide) ?_
            refine lv_icmp_le (tgt := 45) hx hb dX5_row_39 (by decide) (fun c_33 => ?_) (fun c_33 => ?_)
            · refine lv_iload_n hx hb dX5_row_45 rfl (lv_at hl 2 rfl) ?_
              refine lv_if_ne (tgt := 58) hx hb dX5_row_46 (by decide) (fun _ => ?_) (fun c9 => absurd c9 c_25)
              refine lv_iload_n hx hb dX5_row_58 rfl (lv_at hl 2 rfl) ?_
              refine lv_iconst (v := 1) hx hb dX5_row_59 (by decide) ?_
              refine lv_icmp_ne (tgt := 72) hx hb dX5_row_60 (by decide) (fun c_35 => ?_) (fun c_35 => ?_)
              · refine lv_aload_n hx hb dX5_row_72 rfl (lv_at hl 0 rfl) ?_
                refine va_get (D := (dC, dI)) (ci := 6) (v := .ref b5) (C := RX5) (T := TX5) (N := 28) hx hb hts iX5 hown hK hP 0 rfl rfl 13 (by decide) (hts (.fieldLink RX5 26 "PulseRowsModel" "right" "[Z") (List.mem_of_getElem? (i := 5) rfl)) (fun _ h9 => h9) rfl dX5_row_73 ?_
                refine lv_iload_n hx hb dX5_row_76 rfl (lv_at hl 1 rfl) ?_
                refine va_zald hx hb hK hP 3 2 rfl rfl (vin3 (N := 520) rfl c_26 c_29 hr2) dX5_row_77 ?_
                refine lv_if_eq (tgt := 85) hx hb dX5_row_78 (by decide) (fun c_36 => ?_) (fun c_36 => ?_)
                · refine lv_iconst (v := 0) hx hb dX5_row_85 (by decide) ?_
                  have hP9 : va_P (dC, dI) vwCl [(h0, .inr (6, [.int 0, .long tl, .int ed, .long eg, .int aw, .long tk, .long un, .ref b1, .int sm, .ref b2, .int frs, .ref b3, .ref b4, .ref b5, .int bts, .ref b6, .int msn, .ref b7, .int flt, .int bh, .int mkd, .int sta, .int lvl, .long snc, .long tld, .int fst, .int snd, .int stp])), (b3, .inl (cB3, 520, .inl stf)), (b4, .inl (cB4, 520, .inl daf)), (b5, .inl (cB5, 520, .inl rif))] H := by exact hP.sub [0, 1, 2, 3] rfl
                  have hD9 : va_D A [(h0, .inr (6, [.int 0, .long tl, .int ed, .long eg, .int aw, .long tk, .long un, .ref b1, .int sm, .ref b2, .int frs, .ref b3, .ref b4, .ref b5, .int bts, .ref b6, .int msn, .ref b7, .int flt, .int bh, .int mkd, .int sta, .int lvl, .long snc, .long tld, .int fst, .int snd, .int stp])), (b3, .inl (cB3, 520, .inl stf)), (b4, .inl (cB4, 520, .inl daf)), (b5, .inl (cB5, 520, .inl rif))] := by exact hD.sub [0, 1, 2, 3] (by decide) rfl
                  have e_38 : (0 : Int32) = X5_row_r frs stf daf rif ix wt := by rw [X5_row_r, if_pos c_1, if_neg c_25, if_neg c_26, if_pos c_29, if_neg c_30, if_pos c_33, if_neg c_35, if_pos c_36]
                  exact W.iret (v := 0) hx hb hr (fun t ht hW => ⟨⟨_, (), rfl, e_38, po.ret ht hW hP9 hK hD9⟩, hS.F ht⟩) hS.2.2 dX5_row_86
                · refine lv_iconst (v := 1) hx hb dX5_row_81 (by decide) ?_
                  refine lv_goto (tgt := 86) hx hb dX5_row_82 (by decide) ?_
                  have hP9 : va_P (dC, dI) vwCl [(h0, .inr (6, [.int 0, .long tl, .int ed, .long eg, .int aw, .long tk, .long un, .ref b1, .int sm, .ref b2, .int frs, .ref b3, .ref b4, .ref b5, .int bts, .ref b6, .int msn, .ref b7, .int flt, .int bh, .int mkd, .int sta, .int lvl, .long snc, .long tld, .int fst, .int snd, .int stp])), (b3, .inl (cB3, 520, .inl stf)), (b4, .inl (cB4, 520, .inl daf)), (b5, .inl (cB5, 520, .inl rif))] H := by exact hP.sub [0, 1, 2, 3] rfl
                  have hD9 : va_D A [(h0, .inr (6, [.int 0, .long tl, .int ed, .long eg, .int aw, .long tk, .long un, .ref b1, .int sm, .ref b2, .int frs, .ref b3, .ref b4, .ref b5, .int bts, .ref b6, .int msn, .ref b7, .int flt, .int bh, .int mkd, .int sta, .int lvl, .long snc, .long tld, .int fst, .int snd, .int stp])), (b3, .inl (cB3, 520, .inl stf)), (b4, .inl (cB4, 520, .inl daf)), (b5, .inl (cB5, 520, .inl rif))] := by exact hD.sub [0, 1, 2, 3] (by decide) rfl
                  have e_40 : (1 : Int32) = X5_row_r frs stf daf rif ix wt := by rw [X5_row_r, if_pos c_1, if_neg c_25, if_neg c_26, if_pos c_29, if_neg c_30, if_pos c_33, if_neg c_35, if_neg c_36]
                  exact W.iret (v := 1) hx hb hr (fun t ht hW => ⟨⟨_, (), rfl, e_40, po.ret ht hW hP9 hK hD9⟩, hS.F ht⟩) hS.2.2 dX5_row_86
              · refine lv_aload_n hx hb dX5_row_63 rfl (lv_at hl 0 rfl) ?_
                refine va_get (D := (dC, dI)) (ci := 6) (v := .ref b4) (C := RX5) (T := TX5) (N := 28) hx hb hts iX5 hown hK hP 0 rfl rfl 12 (by decide) (hts (.fieldLink RX5 23 "PulseRowsModel" "data" "[I") (List.mem_of_getElem? (i := 4) rfl)) (fun _ h9 => h9) rfl dX5_row_64 ?_
                refine lv_iload_n hx hb dX5_row_67 rfl (lv_at hl 1 rfl) ?_
                refine va_iald hx hb hK hP 2 1 rfl rfl (vin3 (N := 520) rfl c_26 c_29 hr2) dX5_row_68 ?_
                refine lv_goto (tgt := 86) hx hb dX5_row_69 (by decide) ?_
                have hP9 : va_P (dC, dI) vwCl [(h0, .inr (6, [.int 0, .long tl, .int ed, .long eg, .int aw, .long tk, .long un, .ref b1, .int sm, .ref b2, .int frs, .ref b3, .ref b4, .ref b5, .int bts, .ref b6, .int msn, .ref b7, .int flt, .int bh, .int mkd, .int sta, .int lvl, .long snc, .long tld, .int fst, .int snd, .int stp])), (b3, .inl (cB3, 520, .inl stf)), (b4, .inl (cB4, 520, .inl daf)), (b5, .inl (cB5, 520, .inl rif))] H := by exact hP.sub [0, 1, 2, 3] rfl
                have hD9 : va_D A [(h0, .inr (6, [.int 0, .long tl, .int ed, .long eg, .int aw, .long tk, .long un, .ref b1, .int sm, .ref b2, .int frs, .ref b3, .ref b4, .ref b5, .int bts, .ref b6, .int msn, .ref b7, .int flt, .int bh, .int mkd, .int sta, .int lvl, .long snc, .long tld, .int fst, .int snd, .int stp])), (b3, .inl (cB3, 520, .inl stf)), (b4, .inl (cB4, 520, .inl daf)), (b5, .inl (cB5, 520, .inl rif))] := by exact hD.sub [0, 1, 2, 3] (by decide) rfl
                have e_42 : daf (ix.toNatClampNeg) = X5_row_r frs stf daf rif ix wt := by rw [X5_row_r, if_pos c_1, if_neg c_25, if_neg c_26, if_pos c_29, if_neg c_30, if_pos c_33, if_pos c_35]
                exact W.iret (v := daf (ix.toNatClampNeg)) hx hb hr (fun t ht hW => ⟨⟨_, (), rfl, e_42, po.ret ht hW hP9 hK hD9⟩, hS.F ht⟩) hS.2.2 dX5_row_86
            · refine lv_bipush (v := (-2)) hx hb dX5_row_42 (by decide) ?_
              have hP9 : va_P (dC, dI) vwCl [(h0, .inr (6, [.int 0, .long tl, .int ed, .long eg, .int aw, .long tk, .long un, .ref b1, .int sm, .ref b2, .int frs, .ref b3, .ref b4, .ref b5, .int bts, .ref b6, .int msn, .ref b7, .int flt, .int bh, .int mkd, .int sta, .int lvl, .long snc, .long tld, .int fst, .int snd, .int stp])), (b3, .inl (cB3, 520, .inl stf)), (b4, .inl (cB4, 520, .inl daf)), (b5, .inl (cB5, 520, .inl rif))] H := by exact hP.sub [0, 1, 2, 3] rfl
              have hD9 : va_D A [(h0, .inr (6, [.int 0, .long tl, .int ed, .long eg, .int aw, .long tk, .long un, .ref b1, .int sm, .ref b2, .int frs, .ref b3, .ref b4, .ref b5, .int bts, .ref b6, .int msn, .ref b7, .int flt, .int bh, .int mkd, .int sta, .int lvl, .long snc, .long tld, .int fst, .int snd, .int stp])), (b3, .inl (cB3, 520, .inl stf)), (b4, .inl (cB4, 520, .inl daf)), (b5, .inl (cB5, 520, .inl rif))] := by exact hD.sub [0, 1, 2, 3] (by decide) rfl
              have e_44 : ((-2) : Int32) = X5_row_r frs stf daf rif ix wt := by rw [X5_row_r, if_pos c_1, if_neg c_25, if_neg c_26, if_pos c_29, if_neg c_30, if_neg c_33]
              exact W.iret (v := (-2)) hx hb hr (fun t ht hW => ⟨⟨_, (), rfl, e_44, po.ret ht hW hP9 hK hD9⟩, hS.F ht⟩) hS.2.2 dX5_row_44
        · refine lv_iconst (v := (-1)) hx hb dX5_row_31 (by decide) ?_
          have hP9 : va_P (dC, dI) vwCl [(h0, .inr (6, [.int 0, .long tl, .int ed, .long eg, .int aw, .long tk, .long un, .ref b1, .int sm, .ref b2, .int frs, .ref b3, .ref b4, .ref b5, .int bts, .ref b6, .int msn, .ref b7, .int flt, .int bh, .int mkd, .int sta, .int lvl, .long snc, .long tld, .int fst, .int snd, .int stp])), (b3, .inl (cB3, 520, .inl stf)), (b4, .inl (cB4, 520, .inl daf)), (b5, .inl (cB5, 520, .inl rif))] H := by exact hP.sub [0, 1, 2, 3] rfl
          have hD9 : va_D A [(h0, .inr (6, [.int 0, .long tl, .int ed, .long eg, .int aw, .long tk, .long un, .ref b1, .int sm, .ref b2, .int frs, .ref b3, .ref b4, .ref b5, .int bts, .ref b6, .int msn, .ref b7, .int flt, .int bh, .int mkd, .int sta, .int lvl, .long snc, .long tld, .int fst, .int snd, .int stp])), (b3, .inl (cB3, 520, .inl stf)), (b4, .inl (cB4, 520, .inl daf)), (b5, .inl (cB5, 520, .inl rif))] := by exact hD.sub [0, 1, 2, 3] (by decide) rfl
          have e_46 : ((-1) : Int32) = X5_row_r frs stf daf rif ix wt := by rw [X5_row_r, if_pos c_1, if_neg c_25, if_neg c_26, if_neg c_29]
          exact W.iret (v := (-1)) hx hb hr (fun t ht hW => ⟨⟨_, (), rfl, e_46, po.ret ht hW hP9 hK hD9⟩, hS.F ht⟩) hS.2.2 dX5_row_32
    · refine lv_aload_n hx hb dX5_row_14 rfl (lv_at hl 0 rfl) ?_
      refine va_get (D := (dC, dI)) (ci := 6) (v := .int frs) (C := RX5) (T := TX5) (N := 28) hx hb hts iX5 hown hK hP 0 rfl rfl 10 (by decide) (hts (.fieldLink RX5 80 "PulseRowsModel" "frames" "I") (List.mem_of_getElem? (i := 2) rfl)) (fun _ h9 => h9) rfl dX5_row_15 ?_
      have hP9 : va_P (dC, dI) vwCl [(h0, .inr (6, [.int 0, .long tl, .int ed, .long eg, .int aw, .long tk, .long un, .ref b1, .int sm, .ref b2, .int frs, .ref b3, .ref b4, .ref b5, .int bts, .ref b6, .int msn, .ref b7, .int flt, .int bh, .int mkd, .int sta, .int lvl, .long snc, .long tld, .int fst, .int snd, .int stp])), (b3, .inl (cB3, 520, .inl stf)), (b4, .inl (cB4, 520, .inl daf)), (b5, .inl (cB5, 520, .inl rif))] H := by exact hP.sub [0, 1, 2, 3] rfl
      have hD9 : va_D A [(h0, .inr (6, [.int 0, .long tl, .int ed, .long eg, .int aw, .long tk, .long un, .ref b1, .int sm, .ref b2, .int frs, .ref b3, .ref b4, .ref b5, .int bts, .ref b6, .int msn, .ref b7, .int flt, .int bh, .int mkd, .int sta, .int lvl, .long snc, .long tld, .int fst, .int snd, .int stp])), (b3, .inl (cB3, 520, .inl stf)), (b4, .inl (cB4, 520, .inl daf)), (b5, .inl (cB5, 520, .inl rif))] := by exact hD.sub [0, 1, 2, 3] (by decide) rfl
      have e_48 : frs = X5_row_r frs stf daf rif ix wt := by rw [X5_row_r, if_pos c_1, if_pos c_25]
      exact W.iret (v := frs) hx hb hr (fun t ht hW => ⟨⟨_, (), rfl, e_48, po.ret ht hW hP9 hK hD9⟩, hS.F ht⟩) hS.2.2 dX5_row_18
def X5_calibrate_code (len : Int64) : Int32 := if len = 0 then 1 else 0
def X5_calibrate_r (tl : Int64) (tk : Int64) (len : Int64) : Int32 := if len = 0 then 0 else (if (X5_fits_r tl tk len) = 0 then 0 else ((56000 / len).toInt32))
set_option maxHeartbeats 4000000 in
set_option maxRecDepth 100000 in
theorem k_X5_calibrate (l : Launch) (dC : Nat → ClassId) (dI : Nat → Nat → Nat) (sz : Nat) (h0 : Nat) (cd : Int32) (tl : Int64) (ed : Int32) (eg : Int64) (aw : Int32) (tk : Int64) (un : Int64) (b1 : Nat) (sm : Int32) (b2 : Nat) (frs : Int32) (b3 : Nat) (b4 : Nat) (b5 : Nat) (bts : Int32) (b6 : Nat) (msn : Int32) (b7 : Nat) (flt : Int32) (bh : Int32) (mkd : Int32) (sta : Int32) (lvl : Int32) (snc : Int64) (tld : Int64) (fst : Int32) (snd : Int32) (stp : Int32) (len : Int64)  : Met l yX5_calibrate wsX5_calibrate ({ frames := 1, cells := 0, slots := 0, locals := 24 }) (va_Pc [.ref h0, .long len] (pr (dC, dI) [] [(h0, .inr (6, [.int cd, .long tl, .int ed, .long eg, .int aw, .long tk, .long un, .ref b1, .int sm, .ref b2, .int frs, .ref b3, .ref b4, .ref b5, .int bts, .ref b6, .int msn, .ref b7, .int flt, .int bh, .int mkd, .int sta, .int lvl, .long snc, .long tld, .int fst, .int snd, .int stp]))] sz)) (va_Qi (fun (r : Int32) (_ : Unit) => r = X5_calibrate_r tl tk len) (fun _ t => po (dC, dI) [] (va_A [(h0, .inr (6, [.int cd, .long tl, .int ed, .long eg, .int aw, .long tk, .long un, .ref b1, .int sm, .ref b2, .int frs, .ref b3, .ref b4, .ref b5, .int bts, .ref b6, .int msn, .ref b7, .int flt, .int bh, .int mkd, .int sta, .int lvl, .long snc, .long tld, .int fst, .int snd, .int stp]))] sz) [(h0, .inr (6, [.int (X5_calibrate_code len), .long tl, .int ed, .long eg, .int aw, .long tk, .long un, .ref b1, .int sm, .ref b2, .int frs, .ref b3, .ref b4, .ref b5, .int bts, .ref b6, .int msn, .ref b7, .int flt, .int bh, .int mkd, .int sta, .int lvl, .long snc, .long tld, .int fst, .int snd, .int stp]))] t) (va_A [(h0, .inr (6, [.int cd, .long tl, .int ed, .long eg, .int aw, .long tk, .long un, .ref b1, .int sm, .ref b2, .int frs, .ref b3, .ref b4, .ref b5, .int bts, .ref b6, .int msn, .ref b7, .int flt, .int bh, .int mkd, .int sta, .int lvl, .long snc, .long tld, .int fst, .int snd, .int stp]))] sz)) 0 0 (va_A [(h0, .inr (6, [.int cd, .long tl, .int ed, .long eg, .int aw, .long tk, .long un, .ref b1, .int sm, .ref b2, .int frs, .ref b3, .ref b4, .ref b5, .int bts, .ref b6, .int msn, .ref b7, .int flt, .int bh, .int mkd, .int sta, .int lvl, .long snc, .long tld, .int fst, .int snd, .int stp]))] sz) := by
  refine Met.ofW (cc := cX5_calibrate) (maxL := 3) (ret := (some .int)) (by decide) rfl ?_
  intro p e s m args below meth c s₁ B hml hv
  obtain ⟨rfl, hsz, hP, hK, hD0⟩ := hv
  have hx := B.exec
  have hb := B.bytes
  have hr := B.returns
  have hts := atoms_spec (ws := wsX5_calibrate) B.pre
  have hown : s.vm.findClass RX5 = some m.cls := findClass_of_methodNamed B.named
  have hlocks := B.notSynchronized
  subst hsz
  have hD := hD0.self (sz := s.heap.size)
  generalize hAe : va_A [(h0, .inr (6, [.int cd, .long tl, .int ed, .long eg, .int aw, .long tk, .long un, .ref b1, .int sm, .ref b2, .int frs, .ref b3, .ref b4, .ref b5, .int bts, .ref b6, .int msn, .ref b7, .int flt, .int bh, .int mkd, .int sta, .int lvl, .long snc, .long tld, .int fst, .int snd, .int stp]))] s.heap.size = A at hD ⊢
  have hA : ∀ q : Nat, s.heap.size ≤ q → A q := fun q h => by rw [← hAe]; exact Or.inr h
  have hS : va_S A s.heap s.heap [] := va_S.rf
  have hP : va_P (dC, dI) vwCl [(h0, .inr (6, [.int cd, .long tl, .int ed, .long eg, .int aw, .long tk, .long un, .ref b1, .int sm, .ref b2, .int frs, .ref b3, .ref b4, .ref b5, .int bts, .ref b6, .int msn, .ref b7, .int flt, .int bh, .int mkd, .int sta, .int lvl, .long snc, .long tld, .int fst, .int snd, .int stp]))] s.heap := hP
  have iX5 : ∀ w ∈ wsX50, w ∈ wsX5_calibrate := by decide +kernel
  have hl := lv_entry ([.ref h0, .long len]) (n := 3) (Nat.le_of_ble_eq_true rfl)
  rw [lg_entry_eq]
  generalize (lg_sl ([.ref h0, .long len]) ++ List.replicate (3 - (lg_sl ([.ref h0, .long len])).length) Slot.unset).toArray = ls at hl ⊢
  have hl : lv_has ls 3 [(0, .ref h0), (1, .long len)] := hl
  refine lv_aload_n hx hb dX5_calibrate_0 rfl (lv_at hl 0 rfl) ?_
  refine lv_lload_n hx hb dX5_calibrate_1 rfl (lv_at hl 1 rfl) ?_
  refine lv_lconst (v := 0) hx hb dX5_calibrate_2 (by decide) ?_
  refine W.lcmp hx hb dX5_calibrate_3 ?_
  refine lv_if_ne (tgt := 11) hx hb dX5_calibrate_4 (by decide) (fun c_1 => ?_) (fun c_1 => ?_)
  · rw [lg_cmp_eq] at c_1
    refine lv_iconst (v := 0) hx hb dX5_calibrate_11 (by decide) ?_
    refine va_put (D := (dC, dI)) (ci := 6) (v := .int 0) (ty := .int) (C := RX5) (T := TX5) (N := 28) hx hb hts iX5 tyX5 tyX5_ok nmX5 hown hK hP hD hS 0 rfl rfl 0 (by decide) (hts (.fieldLink RX5 42 "PulseRowsModel" "code" "I") (List.mem_of_getElem? (i := 1) rfl)) (fun _ h9 => h9) rfl (by decide +kernel) rfl rfl (Nat.le_of_ble_eq_true rfl) dX5_calibrate_12 (fun H locs hP hD hS => ?_)
    have hP : va_P (dC, dI) vwCl [(h0, .inr (6, [.int 0, .long tl, .int ed, .long eg, .int aw, .long tk, .long un, .ref b1, .int sm, .ref b2, .int frs, .ref b3, .ref b4, .ref b5, .int bts, .ref b6, .int msn, .ref b7, .int flt, .int bh, .int mkd, .int sta, .int lvl, .long snc, .long tld, .int fst, .int snd, .int stp]))] H := hP
    have hD : va_D A [(h0, .inr (6, [.int 0, .long tl, .int ed, .long eg, .int aw, .long tk, .long un, .ref b1, .int sm, .ref b2, .int frs, .ref b3, .ref b4, .ref b5, .int bts, .ref b6, .int msn, .ref b7, .int flt, .int bh, .int mkd, .int sta, .int lvl, .long snc, .long tld, .int fst, .int snd, .int stp]))] := hD
    refine lv_aload_n hx hb dX5_calibrate_15 rfl (lv_at hl 0 rfl) ?_
    refine va_get (D := (dC, dI)) (ci := 6) (v := .int 0) (C := RX5) (T := TX5) (N := 28) hx hb hts iX5 hown hK hP 0 rfl rfl 0 (by decide) (hts (.fieldLink RX5 42 "PulseRowsModel" "code" "I") (List.mem_of_getElem? (i := 1) rfl)) (fun _ h9 => h9) rfl dX5_calibrate_16 ?_
    refine lv_if_gt (tgt := 30) hx hb dX5_calibrate_19 (by decide) (fun c9 => absurd c9 (by decide)) (fun _ => ?_)
    refine lv_aload_n hx hb dX5_calibrate_22 rfl (lv_at hl 0 rfl) ?_
    refine lv_lload_n hx hb dX5_calibrate_23 rfl (lv_at hl 1 rfl) ?_
    have hPc := hP.sub (ws' := [(h0, .inr (6, [.int 0, .long tl, .int ed, .long eg, .int aw, .long tk, .long un, .ref b1, .int sm, .ref b2, .int frs, .ref b3, .ref b4, .ref b5, .int bts, .ref b6, .int msn, .ref b7, .int flt, .int bh, .int mkd, .int sta, .int lvl, .long snc, .long tld, .int fst, .int snd, .int stp]))]) [0] rfl
    have hDc := hD.sub (ws' := [(h0, .inr (6, [.int 0, .long tl, .int ed, .long eg, .int aw, .long tk, .long un, .ref b1, .int sm, .ref b2, .int frs, .ref b3, .ref b4, .ref b5, .int bts, .ref b6, .int msn, .ref b7, .int flt, .int bh, .int mkd, .int sta, .int lvl, .long snc, .long tld, .int fst, .int snd, .int stp]))]) [0] (by decide) rfl
    have hKc := hK.sub (tys' := []) [] rfl
    have hFc := va_free (wc := [(h0, .inr (6, [.int 0, .long tl, .int ed, .long eg, .int aw, .long tk, .long un, .ref b1, .int sm, .ref b2, .int frs, .ref b3, .ref b4, .ref b5, .int bts, .ref b6, .int msn, .ref b7, .int flt, .int bh, .int mkd, .int sta, .int lvl, .long snc, .long tld, .int fst, .int snd, .int stp]))]) hD hS hA [0] rfl
    refine va_calli (va_runV (As := [.long len]) (rest := []) ⟨hx, hb, hml, hown, hts⟩ (k_X5_fits l dC dI H.size h0 0 tl ed eg aw tk un b1 sm b2 frs b3 b4 b5 bts b6 msn b7 flt bh mkd sta lvl snc tld fst snd stp len) (cwV 1 hts gX5_calibrate_X5_fits rfl rfl rfl (by decide +kernel) ⟨Nat.le_of_ble_eq_true rfl, Nat.le_of_ble_eq_true rfl⟩) ⟨pr.blind, va_recv hKc hPc (ci := 6) (q0 := 0) rfl rfl, fun U hU hW => ⟨rfl, pr.call hU hW hPc hKc hDc⟩⟩ rfl rfl hl.1 rfl (lv_room (Nat.le_of_ble_eq_true rfl)) dX5_calibrate_24 ⟨Nat.le_of_ble_eq_true rfl, Nat.le_of_ble_eq_true rfl⟩) hS (fun q _ h => hFc q h) hFc (fun r_3 u t H1 locs ht hvm hw hB hz1 hk1 hS => ?_)
    subst r_3
    obtain ⟨hP, hD⟩ := po.join (wr := []) hP hD [0] [] rfl rfl (by decide) (by decide) hk1 hFc ht hB
    generalize H1 = H at hP hS ⊢
    clear ht hvm hB hz1 hk1 hPc hDc hKc hFc
    have hP : va_P (dC, dI) vwCl [(h0, .inr (6, [.int 0, .long tl, .int ed, .long eg, .int aw, .long tk, .long un, .ref b1, .int sm, .ref b2, .int frs, .ref b3, .ref b4, .ref b5, .int bts, .ref b6, .int msn, .ref b7, .int flt, .int bh, .int mkd, .int sta, .int lvl, .long snc, .long tld, .int fst, .int snd, .int stp]))] H := hP
    have hD : va_D A [(h0, .inr (6, [.int 0, .long tl, .int ed, .long eg, .int aw, .long tk, .long un, .ref b1, .int sm, .ref b2, .int frs, .ref b3, .ref b4, .ref b5, .int bts, .ref b6, .int msn, .ref b7, .int flt, .int bh, .int mkd, .int sta, .int lvl, .long snc, .long tld, .int fst, .int snd, .int stp]))] := hD
    refine W.widen (k := 0) (n := 0) (Nat.le_of_ble_eq_true rfl) (Nat.le_of_ble_eq_true rfl) ?_
    refine lv_if_ne (tgt := 32) hx hb dX5_calibrate_27 (by decide) (fun c_4 => ?_) (fun c_4 => ?_)
    · refine lv_ldc2 hx hb hown (hts (.constantLong RX5 47 (56000)) (List.mem_of_getElem? (i := 2) rfl)) dX5_calibrate_32 ?_
      refine lv_lload_n hx hb dX5_calibrate_35 rfl (lv_at hl 1 rfl) ?_
      refine lv_ldiv hx hb dX5_calibrate_36 (fun h9 => c_1 h9) ?_
      refine lv_l2i (v := (56000 / len).toInt32) hx hb dX5_calibrate_37 rfl ?_
      have e_5 : (0 : Int32) = X5_calibrate_code len := by rw [X5_calibrate_code, if_neg c_1]
      have hP9 : va_P (dC, dI) vwCl [(h0, .inr (6, [.int (X5_calibrate_code len), .long tl, .int ed, .long eg, .int aw, .long tk, .long un, .ref b1, .int sm, .ref b2, .int frs, .ref b3, .ref b4, .ref b5, .int bts, .ref b6, .int msn, .ref b7, .int flt, .int bh, .int mkd, .int sta, .int lvl, .long snc, .long tld, .int fst, .int snd, .int stp]))] H := by rw [← e_5]; exact hP.sub [0] rfl
      have hD9 : va_D A [(h0, .inr (6, [.int (X5_calibrate_code len), .long tl, .int ed, .long eg, .int aw, .long tk, .long un, .ref b1, .int sm, .ref b2, .int frs, .ref b3, .ref b4, .ref b5, .int bts, .ref b6, .int msn, .ref b7, .int flt, .int bh, .int mkd, .int sta, .int lvl, .long snc, .long tld, .int fst, .int snd, .int stp]))] := by rw [← e_5]; exact hD.sub [0] (by decide) rfl
      have e_6 : (56000 / len).toInt32 = X5_calibrate_r tl tk len := by rw [X5_calibrate_r, if_neg c_1, if_neg c_4]
      exact W.iret (v := (56000 / len).toInt32) hx hb hr (fun t ht hW => ⟨⟨_, (), rfl, e_6, po.ret ht hW hP9 hK hD9⟩, hS.F ht⟩) hS.2.2 dX5_calibrate_38
    · refine lv_iconst (v := 0) hx hb dX5_calibrate_30 (by decide) ?_
      have e_7 : (0 : Int32) = X5_calibrate_code len := by rw [X5_calibrate_code, if_neg c_1]
      have hP9 : va_P (dC, dI) vwCl [(h0, .inr (6, [.int (X5_calibrate_code len), .long tl, .int ed, .long eg, .int aw, .long tk, .long un, .ref b1, .int sm, .ref b2, .int frs, .ref b3, .ref b4, .ref b5, .int bts, .ref b6, .int msn, .ref b7, .int flt, .int bh, .int mkd, .int sta, .int lvl, .long snc, .long tld, .int fst, .int snd, .int stp]))] H := by rw [← e_7]; exact hP.sub [0] rfl
      have hD9 : va_D A [(h0, .inr (6, [.int (X5_calibrate_code len), .long tl, .int ed, .long eg, .int aw, .long tk, .long un, .ref b1, .int sm, .ref b2, .int frs, .ref b3, .ref b4, .ref b5, .int bts, .ref b6, .int msn, .ref b7, .int flt, .int bh, .int mkd, .int sta, .int lvl, .long snc, .long tld, .int fst, .int snd, .int stp]))] := by rw [← e_7]; exact hD.sub [0] (by decide) rfl
      have e_8 : (0 : Int32) = X5_calibrate_r tl tk len := by rw [X5_calibrate_r, if_neg c_1, if_pos c_4]
      exact W.iret (v := 0) hx hb hr (fun t ht hW => ⟨⟨_, (), rfl, e_8, po.ret ht hW hP9 hK hD9⟩, hS.F ht⟩) hS.2.2 dX5_calibrate_31
  · rw [lg_cmp_eq] at c_1
    refine lv_iconst (v := 1) hx hb dX5_calibrate_7 (by decide) ?_
    refine lv_goto (tgt := 12) hx hb dX5_calibrate_8 (by decide) ?_
    refine va_put (D := (dC, dI)) (ci := 6) (v := .int 1) (ty := .int) (C := RX5) (T := TX5) (N := 28) hx hb hts iX5 tyX5 tyX5_ok nmX5 hown hK hP hD hS 0 rfl rfl 0 (by decide) (hts (.fieldLink RX5 42 "PulseRowsModel" "code" "I") (List.mem_of_getElem? (i := 1) rfl)) (fun _ h9 => h9) rfl (by decide +kernel) rfl rfl (Nat.le_of_ble_eq_true rfl) dX5_calibrate_12 (fun H locs hP hD hS => ?_)
    have hP : va_P (dC, dI) vwCl [(h0, .inr (6, [.int 1, .long tl, .int ed, .long eg, .int aw, .long tk, .long un, .ref b1, .int sm, .ref b2, .int frs, .ref b3, .ref b4, .ref b5, .int bts, .ref b6, .int msn, .ref b7, .int flt, .int bh, .int mkd, .int sta, .int lvl, .long snc, .long tld, .int fst, .int snd, .int stp]))] H := hP
    have hD : va_D A [(h0, .inr (6, [.int 1, .long tl, .int ed, .long eg, .int aw, .long tk, .long un, .ref b1, .int sm, .ref b2, .int frs, .ref b3, .ref b4, .ref b5, .int bts, .ref b6, .int msn, .ref b7, .int flt, .int bh, .int mkd, .int sta, .int lvl, .long snc, .long tld, .int fst, .int snd, .int stp]))] := hD
    refine lv_aload_n hx hb dX5_calibrate_15 rfl (lv_at hl 0 rfl) ?_
    refine va_get (D := (dC, dI)) (ci := 6) (v := .int 1) (C := RX5) (T := TX5) (N := 28) hx hb hts iX5 hown hK hP 0 rfl rfl 0 (by decide) (hts (.fieldLink RX5 42 "PulseRowsModel" "code" "I") (List.mem_of_getElem? (i := 1) rfl)) (fun _ h9 => h9) rfl dX5_calibrate_16 ?_
    refine lv_if_gt (tgt := 30) hx hb dX5_calibrate_19 (by decide) (fun _ => ?_) (fun c9 => absurd c9 (by decide))
    refine lv_iconst (v := 0) hx hb dX5_calibrate_30 (by decide) ?_
    have e_10 : (1 : Int32) = X5_calibrate_code len := by rw [X5_calibrate_code, if_pos c_1]
    have hP9 : va_P (dC, dI) vwCl [(h0, .inr (6, [.int (X5_calibrate_code len), .long tl, .int ed, .long eg, .int aw, .long tk, .long un, .ref b1, .int sm, .ref b2, .int frs, .ref b3, .ref b4, .ref b5, .int bts, .ref b6, .int msn, .ref b7, .int flt, .int bh, .int mkd, .int sta, .int lvl, .long snc, .long tld, .int fst, .int snd, .int stp]))] H := by rw [← e_10]; exact hP.sub [0] rfl
    have hD9 : va_D A [(h0, .inr (6, [.int (X5_calibrate_code len), .long tl, .int ed, .long eg, .int aw, .long tk, .long un, .ref b1, .int sm, .ref b2, .int frs, .ref b3, .ref b4, .ref b5, .int bts, .ref b6, .int msn, .ref b7, .int flt, .int bh, .int mkd, .int sta, .int lvl, .long snc, .long tld, .int fst, .int snd, .int stp]))] := by rw [← e_10]; exact hD.sub [0] (by decide) rfl
    have e_11 : (0 : Int32) = X5_calibrate_r tl tk len := by rw [X5_calibrate_r, if_pos c_1]
    exact W.iret (v := 0) hx hb hr (fun t ht hW => ⟨⟨_, (), rfl, e_11, po.ret ht hW hP9 hK hD9⟩, hS.F ht⟩) hS.2.2 dX5_calibrate_31
def X5_bounce_state (sta : Int32) (lvl : Int32) (snc : Int64) (tld : Int64) (lev : Int32) (tm : Int64) : Int32 := if tm < tld then sta else (if tm ≤ 1152921504606846976 then (if lev = lvl then (if lev = sta then sta else (if tm < (snc + 10) then sta else lev)) else (if lev = sta then sta else (if tm < (tm + 10) then sta else lev))) else sta)
theorem X5_bounce_state_z (sta : Int32) (lvl : Int32) (snc : Int64) (tld : Int64) (lev : Int32) (tm : Int64) (hz_lev : z01 lev) (hz_sta : z01 sta) : z01 (X5_bounce_state sta lvl snc tld lev tm) := by unfold X5_bounce_state; repeat (first | split | with_reducible assumption | with_reducible exact z01_0 | with_reducible exact z01_1 | with_reducible exact X0_tell_r_z _ _ _ _ _ (by assumption) | with_reducible exact X1_hasMark_r_z _ (by assumption) | with_reducible exact X3_moveTo_trackA_z _ (by assumption) | with_reducible exact X3_moveTo_trackB_z _ (by assumption) | with_reducible exact X3_moveTo_r_z _ _ _ _ (by assumption) (by assumption) | with_reducible exact X4_isOutsideTime_r_z _ | with_reducible exact X2_finishRow_r_z _ | with_reducible exact X2_take_r_z _ _ _ | with_reducible exact X4_isRight_r_z _ | with_reducible exact X4_isTaken_r_z _ _ _ | with_reducible exact X4_hasFrame_r_z _ _ | with_reducible exact X4_marked_r_z _ (by assumption) | with_reducible exact X5_fits_r_z _ _ _ | with_reducible exact X5_fault_marked_z _ _)
def X5_bounce_level (lvl : Int32) (tld : Int64) (lev : Int32) (tm : Int64) : Int32 := if tm < tld then lvl else (if tm ≤ 1152921504606846976 then lev else lvl)
def X5_bounce_since (lvl : Int32) (snc : Int64) (tld : Int64) (lev : Int32) (tm : Int64) : Int64 := if tm < tld then snc else (if tm ≤ 1152921504606846976 then (if lev = lvl then snc else tm) else snc)
def X5_bounce_told (tld : Int64) (tm : Int64) : Int64 := if tm < tld then tld else (if tm ≤ 1152921504606846976 then tm else tld)
def X5_bounce_r (sta : Int32) (lvl : Int32) (snc : Int64) (tld : Int64) (lev : Int32) (tm : Int64) : Int32 := if tm < tld then (-2) else (if tm ≤ 1152921504606846976 then (if lev = lvl then (if lev = sta then 0 else (if tm < (snc + 10) then 0 else 1)) else (if lev = sta then 0 else (if tm < (tm + 10) then 0 else 1))) else (-2))
set_option maxHeartbeats 4000000 in
set_option maxRecDepth 100000 in
theorem k_X5_bounce (l : Launch) (dC : Nat → ClassId) (dI : Nat → Nat → Nat) (sz : Nat) (h0 : Nat) (cd : Int32) (tl : Int64) (ed : Int32) (eg : Int64) (aw : Int32) (tk : Int64) (un : Int64) (b1 : Nat) (sm : Int32) (b2 : Nat) (frs : Int32) (b3 : Nat) (b4 : Nat) (b5 : Nat) (bts : Int32) (b6 : Nat) (msn : Int32) (b7 : Nat) (flt : Int32) (bh : Int32) (mkd : Int32) (sta : Int32) (lvl : Int32) (snc : Int64) (tld : Int64) (fst : Int32) (snd : Int32) (stp : Int32) (lev : Int32) (tm : Int64) (hz_lev : z01 lev) (hz_sta : z01 sta) : Met l yX5_bounce wsX5_bounce ({ frames := 0, cells := 0, slots := 0, locals := 0 }) (va_Pc [.ref h0, .int lev, .long tm] (pr (dC, dI) [] [(h0, .inr (6, [.int cd, .long tl, .int ed, .long eg, .int aw, .long tk, .long un, .ref b1, .int sm, .ref b2, .int frs, .ref b3, .ref b4, .ref b5, .int bts, .ref b6, .int msn, .ref b7, .int flt, .int bh, .int mkd, .int sta, .int lvl, .long snc, .long tld, .int fst, .int snd, .int stp]))] sz)) (va_Qi (fun (r : Int32) (_ : Unit) => r = X5_bounce_r sta lvl snc tld lev tm) (fun _ t => po (dC, dI) [] (va_A [(h0, .inr (6, [.int cd, .long tl, .int ed, .long eg, .int aw, .long tk, .long un, .ref b1, .int sm, .ref b2, .int frs, .ref b3, .ref b4, .ref b5, .int bts, .ref b6, .int msn, .ref b7, .int flt, .int bh, .int mkd, .int sta, .int lvl, .long snc, .long tld, .int fst, .int snd, .int stp]))] sz) [(h0, .inr (6, [.int 0, .long tl, .int ed, .long eg, .int aw, .long tk, .long un, .ref b1, .int sm, .ref b2, .int frs, .ref b3, .ref b4, .ref b5, .int bts, .ref b6, .int msn, .ref b7, .int flt, .int bh, .int mkd, .int (X5_bounce_state sta lvl snc tld lev tm), .int (X5_bounce_level lvl tld lev tm), .long (X5_bounce_since lvl snc tld lev tm), .long (X5_bounce_told tld tm), .int fst, .int snd, .int stp]))] t) (va_A [(h0, .inr (6, [.int cd, .long tl, .int ed, .long eg, .int aw, .long tk, .long un, .ref b1, .int sm, .ref b2, .int frs, .ref b3, .ref b4, .ref b5, .int bts, .ref b6, .int msn, .ref b7, .int flt, .int bh, .int mkd, .int sta, .int lvl, .long snc, .long tld, .int fst, .int snd, .int stp]))] sz)) 0 0 (va_A [(h0, .inr (6, [.int cd, .long tl, .int ed, .long eg, .int aw, .long tk, .long un, .ref b1, .int sm, .ref b2, .int frs, .ref b3, .ref b4, .ref b5, .int bts, .ref b6, .int msn, .ref b7, .int flt, .int bh, .int mkd, .int sta, .int lvl, .long snc, .long tld, .int fst, .int snd, .int stp]))] sz) := by
  refine Met.ofW (cc := cX5_bounce) (maxL := 5) (ret := (some .int)) (by decide) rfl ?_
  intro p e s m args below meth c s₁ B hml hv
  obtain ⟨rfl, hsz, hP, hK, hD0⟩ := hv
  have hx := B.exec
  have hb := B.bytes
  have hr := B.returns
  have hts := atoms_spec (ws := wsX5_bounce) B.pre
  have hown : s.vm.findClass RX5 = some m.cls := findClass_of_methodNamed B.named
  have hlocks := B.notSynchronized
  subst hsz
  have hD := hD0.self (sz := s.heap.size)
  generalize hAe : va_A [(h0, .inr (6, [.int cd, .long tl, .int ed, .long eg, .int aw, .long tk, .long un, .ref b1, .int sm, .ref b2, .int frs, .ref b3, .ref b4, .ref b5, .int bts, .ref b6, .int msn, .ref b7, .int flt, .int bh, .int mkd, .int sta, .int lvl, .long snc, .long tld, .int fst, .int snd, .int stp]))] s.heap.size = A at hD ⊢
  have hA : ∀ q : Nat, s.heap.size ≤ q → A q := fun q h => by rw [← hAe]; exact Or.inr h
  have hS : va_S A s.heap s.heap [] := va_S.rf
  have hP : va_P (dC, dI) vwCl [(h0, .inr (6, [.int cd, .long tl, .int ed, .long eg, .int aw, .long tk, .long un, .ref b1, .int sm, .ref b2, .int frs, .ref b3, .ref b4, .ref b5, .int bts, .ref b6, .int msn, .ref b7, .int flt, .int bh, .int mkd, .int sta, .int lvl, .long snc, .long tld, .int fst, .int snd, .int stp]))] s.heap := hP
  have iX5 : ∀ w ∈ wsX50, w ∈ wsX5_bounce := by decide +kernel
  have hl := lv_entry ([.ref h0, .int lev, .long tm]) (n := 5) (Nat.le_of_ble_eq_true rfl)
  rw [lg_entry_eq]
  generalize (lg_sl ([.ref h0, .int lev, .long tm]) ++ List.replicate (5 - (lg_sl ([.ref h0, .int lev, .long tm])).length) Slot.unset).toArray = ls at hl ⊢
  have hl : lv_has ls 5 [(0, .ref h0), (1, .int lev), (2, .long tm)] := hl
  refine lv_aload_n hx hb dX5_bounce_0 rfl (lv_at hl 0 rfl) ?_
  refine lv_iconst (v := 0) hx hb dX5_bounce_1 (by decide) ?_
  refine va_put (D := (dC, dI)) (ci := 6) (v := .int 0) (ty := .int) (C := RX5) (T := TX5) (N := 28) hx hb hts iX5 tyX5 tyX5_ok nmX5 hown hK hP hD hS 0 rfl rfl 0 (by decide) (hts (.fieldLink RX5 42 "PulseRowsModel" "code" "I") (List.mem_of_getElem? (i := 1) rfl)) (fun _ h9 => h9) rfl (by decide +kernel) rfl rfl (Nat.le_of_ble_eq_true rfl) dX5_bounce_2 (fun H locs hP hD hS => ?_)
  have hP : va_P (dC, dI) vwCl [(h0, .inr (6, [.int 0, .long tl, .int ed, .long eg, .int aw, .long tk, .long un, .ref b1, .int sm, .ref b2, .int frs, .ref b3, .ref b4, .ref b5, .int bts, .ref b6, .int msn, .ref b7, .int flt, .int bh, .int mkd, .int sta, .int lvl, .long snc, .long tld, .int fst, .int snd, .int stp]))] H := hP
  have hD : va_D A [(h0, .inr (6, [.int 0, .long tl, .int ed, .long eg, .int aw, .long tk, .long un, .ref b1, .int sm, .ref b2, .int frs, .ref b3, .ref b4, .ref b5, .int bts, .ref b6, .int msn, .ref b7, .int flt, .int bh, .int mkd, .int sta, .int lvl, .long snc, .long tld, .int fst, .int snd, .int stp]))] := hD
  refine lv_lload_n hx hb dX5_bounce_5 rfl (lv_at hl 2 rfl) ?_
  refine lv_aload_n hx hb dX5_bounce_6 rfl (lv_at hl 0 rfl) ?_
  refine va_get (D := (dC, dI)) (ci := 6) (v := .long tld) (C := RX5) (T := TX5) (N := 28) hx hb hts iX5 hown hK hP 0 rfl rfl 24 (by decide) (hts (.fieldLink RX5 106 "PulseRowsModel" "told" "J") (List.mem_of_getElem? (i := 2) rfl)) (fun _ h9 => h9) rfl dX5_bounce_7 ?_
  refine W.lcmp hx hb dX5_bounce_10 ?_
  refine lv_if_lt (tgt := 22) hx hb dX5_bounce_11 (by decide) (fun c_1 => ?_) (fun c_1 => ?_)
  · rw [lg_cmp_lt] at c_1
    refine lv_bipush (v := (-2)) hx hb dX5_bounce_22 (by decide) ?_
    have e_3 : sta = X5_bounce_state sta lvl snc tld lev tm := by rw [X5_bounce_state, if_pos c_1]
    have e_4 : lvl = X5_bounce_level lvl tld lev tm := by rw [X5_bounce_level, if_pos c_1]
    have e_5 : snc = X5_bounce_since lvl snc tld lev tm := by rw [X5_bounce_since, if_pos c_1]
    have e_6 : tld = X5_bounce_told tld tm := by rw [X5_bounce_told, if_pos c_1]
    have hP9 : va_P (dC, dI) vwCl [(h0, .inr (6, [.int 0, .long tl, .int ed, .long eg, .int aw, .long tk, .long un, .ref b1, .int sm, .ref b2, .int frs, .ref b3, .ref b4, .ref b5, .int bts, .ref b6, .int msn, .ref b7, .int flt, .int bh, .int mkd, .int (X5_bounce_state sta lvl snc tld lev tm), .int (X5_bounce_level lvl tld lev tm), .long (X5_bounce_since lvl snc tld lev tm), .long (X5_bounce_told tld tm), .int fst, .int snd, .int stp]))] H := by rw [← e_3, ← e_4, ← e_5, ← e_6]; exact hP.sub [0] rfl
    have hD9 : va_D A [(h0, .inr (6, [.int 0, .long tl, .int ed, .long eg, .int aw, .long tk, .long un, .ref b1, .int sm, .ref b2, .int frs, .ref b3, .ref b4, .ref b5, .int bts, .ref b6, .int msn, .ref b7, .int flt, .int bh, .int mkd, .int (X5_bounce_state sta lvl snc tld lev tm), .int (X5_bounce_level lvl tld lev tm), .long (X5_bounce_since lvl snc tld lev tm), .long (X5_bounce_told tld tm), .int fst, .int snd, .int stp]))] := by rw [← e_3, ← e_4, ← e_5, ← e_6]; exact hD.sub [0] (by decide) rfl
    have e_7 : ((-2) : Int32) = X5_bounce_r sta lvl snc tld lev tm := by rw [X5_bounce_r, if_pos c_1]
    exact W.iret (v := (-2)) hx hb hr (fun t ht hW => ⟨⟨_, (), rfl, e_7, po.ret ht hW hP9 hK hD9⟩, hS.F ht⟩) hS.2.2 dX5_bounce_24
  · rw [lg_cmp_lt] at c_1
    refine lv_lload_n hx hb dX5_bounce_14 rfl (lv_at hl 2 rfl) ?_
    refine lv_ldc2 hx hb hown (hts (.constantLong RX5 87 (1152921504606846976)) (List.mem_of_getElem? (i := 3) rfl)) dX5_bounce_15 ?_
    refine W.lcmp hx hb dX5_bounce_18 ?_
    refine lv_if_le (tgt := 25) hx hb dX5_bounce_19 (by decide) (fun c_8 => ?_) (fun c_8 => ?_)
    · rw [lg_cmp_le] at c_8
      refine lv_aload_n hx hb dX5_bounce_25 rfl (lv_at hl 0 rfl) ?_
      refine lv_lload_n hx hb dX5_bounce_26 rfl (lv_at hl 2 rfl) ?_
      refine va_put (D := (dC, dI)) (ci := 6) (v := .long tm) (ty := .long) (C := RX5) (T := TX5) (N := 28) hx hb hts iX5 tyX5 tyX5_ok nmX5 hown hK hP hD hS 0 rfl rfl 24 (by decide) (hts (.fieldLink RX5 106 "PulseRowsModel" "told" "J") (List.mem_of_getElem? (i := 2) rfl)) (fun _ h9 => h9) rfl (by decide +kernel) rfl rfl (Nat.le_of_ble_eq_true rfl) dX5_bounce_27 (fun H locs hP hD hS => ?_)
      have hP : va_P (dC, dI) vwCl [(h0, .inr (6, [.int 0, .long tl, .int ed, .long eg, .int aw, .long tk, .long un, .ref b1, .int sm, .ref b2, .int frs, .ref b3, .ref b4, .ref b5, .int bts, .ref b6, .int msn, .ref b7, .int flt, .int bh, .int mkd, .int sta, .int lvl, .long snc, .long tm, .int fst, .int snd, .int stp]))] H := hP
      have hD : va_D A [(h0, .inr (6, [.int 0, .long tl, .int ed, .long eg, .int aw, .long tk, .long un, .ref b1, .int sm, .ref b2, .int frs, .ref b3, .ref b4, .ref b5, .int bts, .ref b6, .int msn, .ref b7, .int flt, .int bh, .int mkd, .int sta, .int lvl, .long snc, .long tm, .int fst, .int snd, .int stp]))] := hD
      refine lv_aload_n hx hb dX5_bounce_30 rfl (lv_at hl 0 rfl) ?_
      refine lv_iload_n hx hb dX5_bounce_31 rfl (lv_at hl 1 rfl) ?_
      refine lv_aload_n hx hb dX5_bounce_32 rfl (lv_at hl 0 rfl) ?_
      refine va_get (D := (dC, dI)) (ci := 6) (v := .int lvl) (C := RX5) (T := TX5) (N := 28) hx hb hts iX5 hown hK hP 0 rfl rfl 22 (by decide) (hts (.fieldLink RX5 109 "PulseRowsModel" "level" "Z") (List.mem_of_getElem? (i := 4) rfl)) (fun _ h9 => h9) rfl dX5_bounce_33 ?_
      refine lv_icmp_ne (tgt := 46) hx hb dX5_bounce_36 (by decide) (fun c_9 => ?_) (fun c_9 => ?_)
      · refine lv_lload_n hx hb dX5_bounce_46 rfl (lv_at hl 2 rfl) ?_
        refine va_put (D := (dC, dI)) (ci := 6) (v := .long tm) (ty := .long) (C := RX5) (T := TX5) (N := 28) hx hb hts iX5 tyX5 tyX5_ok nmX5 hown hK hP hD hS 0 rfl rfl 23 (by decide) (hts (.fieldLink RX5 112 "PulseRowsModel" "since" "J") (List.mem_of_getElem? (i := 5) rfl)) (fun _ h9 => h9) rfl (by decide +kernel) rfl rfl (Nat.le_of_ble_eq_true rfl) dX5_bounce_47 (fun H locs hP hD hS => ?_)
        have hP : va_P (dC, dI) vwCl [(h0, .inr (6, [.int 0, .long tl, .int ed, .long eg, .int aw, .long tk, .long un, .ref b1, .int sm, .ref b2, .int frs, .ref b3, .ref b4, .ref b5, .int bts, .ref b6, .int msn, .ref b7, .int flt, .int bh, .int mkd, .int sta, .int lvl, .long tm, .long tm, .int fst, .int snd, .int stp]))] H := hP
        have hD : va_D A [(h0, .inr (6, [.int 0, .long tl, .int ed, .long eg, .int aw, .long tk, .long un, .ref b1, .int sm, .ref b2, .int frs, .ref b3, .ref b4, .ref b5, .int bts, .ref b6, .int msn, .ref b7, .int flt, .int bh, .int mkd, .int sta, .int lvl, .long tm, .long tm, .int fst, .int snd, .int stp]))] := hD
        refine lv_aload_n hx hb dX5_bounce_50 rfl (lv_at hl 0 rfl) ?_
        refine lv_iload_n hx hb dX5_bounce_51 rfl (lv_at hl 1 rfl) ?_
        refine va_put (D := (dC, dI)) (ci := 6) (v := .int lev) (ty := .boolean) (C := RX5) (T := TX5) (N := 28) hx hb hts iX5 tyX5 tyX5_ok nmX5 hown hK hP hD hS 0 rfl rfl 22 (by decide) (hts (.fieldLink RX5 109 "PulseRowsModel" "level" "Z") (List.mem_of_getElem? (i := 4) rfl)) (fun _ h9 => h9) rfl (by decide +kernel) (hz_lev).nar (hz_lev).fit (Nat.le_of_ble_eq_true rfl) dX5_bounce_52 (fun H locs hP hD hS => ?_)
        have hP : va_P (dC, dI) vwCl [(h0, .inr (6, [.int 0, .long tl, .int ed, .long eg, .int aw, .long tk, .long un, .ref b1, .int sm, .ref b2, .int frs, .ref b3, .ref b4, .ref b5, .int bts, .ref b6, .int msn, .ref b7, .int flt, .int bh, .int mkd, .int sta, .int lev, .long tm, .long tm, .int fst, .int snd, .int stp]))] H := hP
        have hD : va_D A [(h0, .inr (6, [.int 0, .long tl, .int ed, .long eg, .int aw, .long tk, .long un, .ref b1, .int sm, .ref b2, .int frs, .ref b3, .ref b4, .ref b5, .int bts, .ref b6, .int msn, .ref b7, .int flt, .int bh, .int mkd, .int sta, .int lev, .long tm, .long tm, .int fst, .int snd, .int stp]))] := hD
        refine lv_iload_n hx hb dX5_bounce_55 rfl (lv_at hl 1 rfl) ?_
        refine lv_aload_n hx hb dX5_bounce_56 rfl (lv_at hl 0 rfl) ?_
        refine va_get (D := (dC, dI)) (ci := 6) (v := .int sta) (C := RX5) (T := TX5) (N := 28) hx hb hts iX5 hown hK hP 0 rfl rfl 21 (by decide) (hts (.fieldLink RX5 115 "PulseRowsModel" "state" "Z") (List.mem_of_getElem? (i := 6) rfl)) (fun _ h9 => h9) rfl dX5_bounce_57 ?_
        refine lv_icmp_eq (tgt := 80) hx hb dX5_bounce_60 (by decide) (fun c_10 => ?_) (fun c_10 => ?_)
        · refine lv_iconst (v := 0) hx hb dX5_bounce_80 (by decide) ?_
          refine lv_istore (lv' := [(4, .int 0), (0, .ref h0), (1, .int lev), (2, .long tm)]) hx hb dX5_bounce_81 hl (by decide) rfl (fun ls hl => ?_)
          refine lv_aload_n hx hb dX5_bounce_83 rfl (lv_at hl 1 rfl) ?_
          refine lv_iload hx hb dX5_bounce_84 (lv_at hl 0 rfl) ?_
          refine lv_if_eq (tgt := 93) hx hb dX5_bounce_86 (by decide) (fun _ => ?_) (fun c9 => absurd c9 (by decide))
          refine lv_aload_n hx hb dX5_bounce_93 rfl (lv_at hl 1 rfl) ?_
          refine va_get (D := (dC, dI)) (ci := 6) (v := .int sta) (C := RX5) (T := TX5) (N := 28) hx hb hts iX5 hown hK hP 0 rfl rfl 21 (by decide) (hts (.fieldLink RX5 115 "PulseRowsModel" "state" "Z") (List.mem_of_getElem? (i := 6) rfl)) (fun _ h9 => h9) rfl dX5_bounce_94 ?_
          refine va_put (D := (dC, dI)) (ci := 6) (v := .int sta) (ty := .boolean) (C := RX5) (T := TX5) (N := 28) hx hb hts iX5 tyX5 tyX5_ok nmX5 hown hK hP hD hS 0 rfl rfl 21 (by decide) (hts (.fieldLink RX5 115 "PulseRowsModel" "state" "Z") (List.mem_of_getElem? (i := 6) rfl)) (fun _ h9 => h9) rfl (by decide +kernel) (hz_sta).nar (hz_sta).fit (Nat.le_of_ble_eq_true rfl) dX5_bounce_97 (fun H locs hP hD hS => ?_)
          have hP : va_P (dC, dI) vwCl [(h0, .inr (6, [.int 0, .long tl, .int ed, .long eg, .int aw, .long tk, .long un, .ref b1, .int sm, .ref b2, .int frs, .ref b3, .ref b4, .ref b5, .int bts, .ref b6, .int msn, .ref b7, .int flt, .int bh, .int mkd, .int sta, .int lev, .long tm, .long tm, .int fst, .int snd, .int stp]))] H := hP
          have hD : va_D A [(h0, .inr (6, [.int 0, .long tl, .int ed, .long eg, .int aw, .long tk, .long un, .ref b1, .int sm, .ref b2, .int frs, .ref b3, .ref b4, .ref b5, .int bts, .ref b6, .int msn, .ref b7, .int flt, .int bh, .int mkd, .int sta, .int lev, .long tm, .long tm, .int fst, .int snd, .int stp]))] := hD
          refine lv_iload hx hb dX5_bounce_100 (lv_at hl 0 rfl) ?_
          refine lv_if_eq (tgt := 109) hx hb dX5_bounce_102 (by decide) (fun _ => ?_) (fun c9 => absurd c9 (by decide))
          refine lv_iconst (v := 0) hx hb dX5_bounce_109 (by decide) ?_
          have e_14 : sta = X5_bounce_state sta lvl snc tld lev tm := by rw [X5_bounce_state, if_neg c_1, if_pos c_8, if_neg c_9, if_pos c_10]
          have e_15 : lev = X5_bounce_level lvl tld lev tm := by rw [X5_bounce_level, if_neg c_1, if_pos c_8]
          have e_16 : tm = X5_bounce_since lvl snc tld lev tm := by rw [X5_bounce_since, if_neg c_1, if_pos c_8, if_neg c_9]
          have e_17 : tm = X5_bounce_told tld tm := by rw [X5_bounce_told, if_neg c_1, if_pos c_8]
          have hP9 : va_P (dC, dI) vwCl [(h0, .inr (6, [.int 0, .long tl, .int ed, .long eg, .int aw, .long tk, .long un, .ref b1, .int sm, .ref b2, .int frs, .ref b3, .ref b4, .ref b5, .int bts, .ref b6, .int msn, .ref b7, .int flt, .int bh, .int mkd, .int (X5_bounce_state sta lvl snc tld lev tm), .int (X5_bounce_level lvl tld lev tm), .long (X5_bounce_since lvl snc tld lev tm), .long (X5_bounce_told tld tm), .int fst, .int snd, .int stp]))] H := by rw [← e_14, ← e_15, ← e_16, ← e_17]; exact hP.sub [0] rfl
          have hD9 : va_D A [(h0, .inr (6, [.int 0, .long tl, .int ed, .long eg, .int aw, .long tk, .long un, .ref b1, .int sm, .ref b2, .int frs, .ref b3, .ref b4, .ref b5, .int bts, .ref b6, .int msn, .ref b7, .int flt, .int bh, .int mkd, .int (X5_bounce_state sta lvl snc tld lev tm), .int (X5_bounce_level lvl tld lev tm), .long (X5_bounce_since lvl snc tld lev tm), .long (X5_bounce_told tld tm), .int fst, .int snd, .int stp]))] := by rw [← e_14, ← e_15, ← e_16, ← e_17]; exact hD.sub [0] (by decide) rfl
          have e_18 : (0 : Int32) = X5_bounce_r sta lvl snc tld lev tm := by rw [X5_bounce_r, if_neg c_1, if_pos c_8, if_neg c_9, if_pos c_10]
          exact W.iret (v := 0) hx hb hr (fun t ht hW => ⟨⟨_, (), rfl, e_18, po.ret ht hW hP9 hK hD9⟩, hS.F ht⟩) hS.2.2 dX5_bounce_110
        · refine lv_lload_n hx hb dX5_bounce_63 rfl (lv_at hl 2 rfl) ?_
          refine lv_aload_n hx hb dX5_bounce_64 rfl (lv_at hl 0 rfl) ?_
          refine va_get (D := (dC, dI)) (ci := 6) (v := .long tm) (C := RX5) (T := TX5) (N := 28) hx hb hts iX5 hown hK hP 0 rfl rfl 23 (by decide) (hts (.fieldLink RX5 112 "PulseRowsModel" "since" "J") (List.mem_of_getElem? (i := 5) rfl)) (fun _ h9 => h9) rfl dX5_bounce_65 ?_
          refine lv_ldc2 hx hb hown (hts (.constantLong RX5 118 (10)) (List.mem_of_getElem? (i := 7) rfl)) dX5_bounce_68 ?_
          refine lv_ladd hx hb dX5_bounce_71 ?_
          refine W.lcmp hx hb dX5_bounce_72 ?_
          refine lv_if_lt (tgt := 80) hx hb dX5_bounce_73 (by decide) (fun c_19 => ?_) (fun c_19 => ?_)
          · rw [lg_cmp_lt] at c_19
            refine lv_iconst (v := 0) hx hb dX5_bounce_80 (by decide) ?_
            refine lv_istore (lv' := [(4, .int 0), (0, .ref h0), (1, .int lev), (2, .long tm)]) hx hb dX5_bounce_81 hl (by decide) rfl (fun ls hl => ?_)
            refine lv_aload_n hx hb dX5_bounce_83 rfl (lv_at hl 1 rfl) ?_
            refine lv_iload hx hb dX5_bounce_84 (lv_at hl 0 rfl) ?_
            refine lv_if_eq (tgt := 93) hx hb dX5_bounce_86 (by decide) (fun _ => ?_) (fun c9 => absurd c9 (by decide))
            refine lv_aload_n hx hb dX5_bounce_93 rfl (lv_at hl 1 rfl) ?_
            refine va_get (D := (dC, dI)) (ci := 6) (v := .int sta) (C := RX5) (T := TX5) (N := 28) hx hb hts iX5 hown hK hP 0 rfl rfl 21 (by decide) (hts (.fieldLink RX5 115 "PulseRowsModel" "state" "Z") (List.mem_of_getElem? (i := 6) rfl)) (fun _ h9 => h9) rfl dX5_bounce_94 ?_
            refine va_put (D := (dC, dI)) (ci := 6) (v := .int sta) (ty := .boolean) (C := RX5) (T := TX5) (N := 28) hx hb hts iX5 tyX5 tyX5_ok nmX5 hown hK hP hD hS 0 rfl rfl 21 (by decide) (hts (.fieldLink RX5 115 "PulseRowsModel" "state" "Z") (List.mem_of_getElem? (i := 6) rfl)) (fun _ h9 => h9) rfl (by decide +kernel) (hz_sta).nar (hz_sta).fit (Nat.le_of_ble_eq_true rfl) dX5_bounce_97 (fun H locs hP hD hS => ?_)
            have hP : va_P (dC, dI) vwCl [(h0, .inr (6, [.int 0, .long tl, .int ed, .long eg, .int aw, .long tk, .long un, .ref b1, .int sm, .ref b2, .int frs, .ref b3, .ref b4, .ref b5, .int bts, .ref b6, .int msn, .ref b7, .int flt, .int bh, .int mkd, .int sta, .int lev, .long tm, .long tm, .int fst, .int snd, .int stp]))] H := hP
            have hD : va_D A [(h0, .inr (6, [.int 0, .long tl, .int ed, .long eg, .int aw, .long tk, .long un, .ref b1, .int sm, .ref b2, .int frs, .ref b3, .ref b4, .ref b5, .int bts, .ref b6, .int msn, .ref b7, .int flt, .int bh, .int mkd, .int sta, .int lev, .long tm, .long tm, .int fst, .int snd, .int stp]))] := hD
            refine lv_iload hx hb dX5_bounce_100 (lv_at hl 0 rfl) ?_
            refine lv_if_eq (tgt := 109) hx hb dX5_bounce_102 (by decide) (fun _ => ?_) (fun c9 => absurd c9 (by decide))
            refine lv_iconst (v := 0) hx hb dX5_bounce_109 (by decide) ?_
            have e_23 : sta = X5_bounce_state sta lvl snc tld lev tm := by rw [X5_bounce_state, if_neg c_1, if_pos c_8, if_neg c_9, if_neg c_10, if_pos c_19]
            have e_24 : lev = X5_bounce_level lvl tld lev tm := by rw [X5_bounce_level, if_neg c_1, if_pos c_8]
            have e_25 : tm = X5_bounce_since lvl snc tld lev tm := by rw [X5_bounce_since, if_neg c_1, if_pos c_8, if_neg c_9]
            have e_26 : tm = X5_bounce_told tld tm := by rw [X5_bounce_told, if_neg c_1, if_pos c_8]
            have hP9 : va_P (dC, dI) vwCl [(h0, .inr (6, [.int 0, .long tl, .int ed, .long eg, .int aw, .long tk, .long un, .ref b1, .int sm, .ref b2, .int frs, .ref b3, .ref b4, .ref b5, .int bts, .ref b6, .int msn, .ref b7, .int flt, .int bh, .int mkd, .int (X5_bounce_state sta lvl snc tld lev tm), .int (X5_bounce_level lvl tld lev tm), .long (X5_bounce_since lvl snc tld lev tm), .long (X5_bounce_told tld tm), .int fst, .int snd, .int stp]))] H := by rw [← e_23, ← e_24, ← e_25, ← e_26]; exact hP.sub [0] rfl
            have hD9 : va_D A [(h0, .inr (6, [.int 0, .long tl, .int ed, .long eg, .int aw, .long tk, .long un, .ref b1, .int sm, .ref b2, .int frs, .ref b3, .ref b4, .ref b5, .int bts, .ref b6, .int msn, .ref b7, .int flt, .int bh, .int mkd, .int (X5_bounce_state sta lvl snc tld lev tm), .int (X5_bounce_level lvl tld lev tm), .long (X5_bounce_since lvl snc tld lev tm), .long (X5_bounce_told tld tm), .int fst, .int snd, .int stp]))] := by rw [← e_23, ← e_24, ← e_25, ← e_26]; exact hD.sub [0] (by decide) rfl
            have e_27 : (0 : Int32) = X5_bounce_r sta lvl snc tld lev tm := by rw [X5_bounce_r, if_neg c_1, if_pos c_8, if_neg c_9, if_neg c_10, if_pos c_19]
            exact W.iret (v := 0) hx hb hr (fun t ht hW => ⟨⟨_, (), rfl, e_27, po.ret ht hW hP9 hK hD9⟩, hS.F ht⟩) hS.2.2 dX5_bounce_110
          · rw [lg_cmp_lt] at c_19
            refine lv_iconst (v := 1) hx hb dX5_bounce_76 (by decide) ?_
            refine lv_goto (tgt := 81) hx hb dX5_bounce_77 (by decide) ?_
            refine lv_istore (lv' := [(4, .int 1), (0, .ref h0), (1, .int lev), (2, .long tm)]) hx hb dX5_bounce_81 hl (by decide) rfl (fun ls hl => ?_)
            refine lv_aload_n hx hb dX5_bounce_83 rfl (lv_at hl 1 rfl) ?_
            refine lv_iload hx hb dX5_bounce_84 (lv_at hl 0 rfl) ?_
            refine lv_if_eq (tgt := 93) hx hb dX5_bounce_86 (by decide) (fun c9 => absurd c9 (by decide)) (fun _ => ?_)
            refine lv_iload_n hx hb dX5_bounce_89 rfl (lv_at hl 2 rfl) ?_
            refine lv_goto (tgt := 97) hx hb dX5_bounce_90 (by decide) ?_
            refine va_put (D := (dC, dI)) (ci := 6) (v := .int lev) (ty := .boolean) (C := RX5) (T := TX5) (N := 28) hx hb hts iX5 tyX5 tyX5_ok nmX5 hown hK hP hD hS 0 rfl rfl 21 (by decide) (hts (.fieldLink RX5 115 "PulseRowsModel" "state" "Z") (List.mem_of_getElem? (i := 6) rfl)) (fun _ h9 => h9) rfl (by decide +kernel) (hz_lev).nar (hz_lev).fit (Nat.le_of_ble_eq_true rfl) dX5_bounce_97 (fun H locs hP hD hS => ?_)
            have hP : va_P (dC, dI) vwCl [(h0, .inr (6, [.int 0, .long tl, .int ed, .long eg, .int aw, .long tk, .long un, .ref b1, .int sm, .ref b2, .int frs, .ref b3, .ref b4, .ref b5, .int bts, .ref b6, .int msn, .ref b7, .int flt, .int bh, .int mkd, .int lev, .int lev, .long tm, .long tm, .int fst, .int snd, .int stp]))] H := hP
            have hD : va_D A [(h0, .inr (6, [.int 0, .long tl, .int ed, .long eg, .int aw, .long tk, .long un, .ref b1, .int sm, .ref b2, .int frs, .ref b3, .ref b4, .ref b5, .int bts, .ref b6, .int msn, .ref b7, .int flt, .int bh, .int mkd, .int lev, .int lev, .long tm, .long tm, .int fst, .int snd, .int stp]))] := hD
            refine lv_iload hx hb dX5_bounce_100 (lv_at hl 0 rfl) ?_
            refine lv_if_eq (tgt := 109) hx hb dX5_bounce_102 (by decide) (fun c9 => absurd c9 (by decide)) (fun _ => ?_)
            refine lv_iconst (v := 1) hx hb dX5_bounce_105 (by decide) ?_
            refine lv_goto (tgt := 110) hx hb dX5_bounce_106 (by decide) ?_
            have e_31 : lev = X5_bounce_state sta lvl snc tld lev tm := by rw [X5_bounce_state, if_neg c_1, if_pos c_8, if_neg c_9, if_neg c_10, if_neg c_19]
            have e_32 : lev = X5_bounce_level lvl tld lev tm := by rw [X5_bounce_level, if_neg c_1, if_pos c_8]
            have e_33 : tm = X5_bounce_since lvl snc tld lev tm := by rw [X5_bounce_since, if_neg c_1, if_pos c_8, if_neg c_9]
            have e_34 : tm = X5_bounce_told tld tm := by rw [X5_bounce_told, if_neg c_1, if_pos c_8]
            have hP9 : va_P (dC, dI) vwCl [(h0, .inr (6, [.int 0, .long tl, .int ed, .long eg, .int aw, .long tk, .long un, .ref b1, .int sm, .ref b2, .int frs, .ref b3, .ref b4, .ref b5, .int bts, .ref b6, .int msn, .ref b7, .int flt, .int bh, .int mkd, .int (X5_bounce_state sta lvl snc tld lev tm), .int (X5_bounce_level lvl tld lev tm), .long (X5_bounce_since lvl snc tld lev tm), .long (X5_bounce_told tld tm), .int fst, .int snd, .int stp]))] H := by rw [← e_31, ← e_32, ← e_33, ← e_34]; exact hP.sub [0] rfl
            have hD9 : va_D A [(h0, .inr (6, [.int 0, .long tl, .int ed, .long eg, .int aw, .long tk, .long un, .ref b1, .int sm, .ref b2, .int frs, .ref b3, .ref b4, .ref b5, .int bts, .ref b6, .int msn, .ref b7, .int flt, .int bh, .int mkd, .int (X5_bounce_state sta lvl snc tld lev tm), .int (X5_bounce_level lvl tld lev tm), .long (X5_bounce_since lvl snc tld lev tm), .long (X5_bounce_told tld tm), .int fst, .int snd, .int stp]))] := by rw [← e_31, ← e_32, ← e_33, ← e_34]; exact hD.sub [0] (by decide) rfl
            have e_35 : (1 : Int32) = X5_bounce_r sta lvl snc tld lev tm := by rw [X5_bounce_r, if_neg c_1, if_pos c_8, if_neg c_9, if_neg c_10, if_neg c_19]
            exact W.iret (v := 1) hx hb hr (fun t ht hW => ⟨⟨_, (), rfl, e_35, po.ret ht hW hP9 hK hD9⟩, hS.F ht⟩) hS.2.2 dX5_bounce_110
      · refine lv_aload_n hx hb dX5_bounce_39 rfl (lv_at hl 0 rfl) ?_
        refine va_get (D := (dC, dI)) (ci := 6) (v := .long snc) (C := RX5) (T := TX5) (N := 28) hx hb hts iX5 hown hK hP 0 rfl rfl 23 (by decide) (hts (.fieldLink RX5 112 "PulseRowsModel" "since" "J") (List.mem_of_getElem? (i := 5) rfl)) (fun _ h9 => h9) rfl dX5_bounce_40 ?_
        refine lv_goto (tgt := 47) hx hb dX5_bounce_43 (by decide) ?_
        refine va_put (D := (dC, dI)) (ci := 6) (v := .long snc) (ty := .long) (C := RX5) (T := TX5) (N := 28) hx hb hts iX5 tyX5 tyX5_ok nmX5 hown hK hP hD hS 0 rfl rfl 23 (by decide) (hts (.fieldLink RX5 112 "PulseRowsModel" "since" "J") (List.mem_of_getElem? (i := 5) rfl)) (fun _ h9 => h9) rfl (by decide +kernel) rfl rfl (Nat.le_of_ble_eq_true rfl) dX5_bounce_47 (fun H locs hP hD hS => ?_)
        have hP : va_P (dC, dI) vwCl [(h0, .inr (6, [.int 0, .long tl, .int ed, .long eg, .int aw, .long tk, .long un, .ref b1, .int sm, .ref b2, .int frs, .ref b3, .ref b4, .ref b5, .int bts, .ref b6, .int msn, .ref b7, .int flt, .int bh, .int mkd, .int sta, .int lvl, .long snc, .long tm, .int fst, .int snd, .int stp]))] H := hP
        have hD : va_D A [(h0, .inr (6, [.int 0, .long tl, .int ed, .long eg, .int aw, .long tk, .long un, .ref b1, .int sm, .ref b2, .int frs, .ref b3, .ref b4, .ref b5, .int bts, .ref b6, .int msn, .ref b7, .int flt, .int bh, .int mkd, .int sta, .int lvl, .long snc, .long tm, .int fst, .int snd, .int stp]))] := hD
        refine lv_aload_n hx hb dX5_bounce_50 rfl (lv_at hl 0 rfl) ?_
        refine lv_iload_n hx hb dX5_bounce_51 rfl (lv_at hl 1 rfl) ?_
        refine va_put (D := (dC, dI)) (ci := 6) (v := .int lev) (ty := .boolean) (C := RX5) (T := TX5) (N := 28) hx hb hts iX5 tyX5 tyX5_ok nmX5 hown hK hP hD hS 0 rfl rfl 22 (by decide) (hts (.fieldLink RX5 109 "PulseRowsModel" "level" "Z") (List.mem_of_getElem? (i := 4) rfl)) (fun _ h9 => h9) rfl (by decide +kernel) (hz_lev).nar (hz_lev).fit (Nat.le_of_ble_eq_true rfl) dX5_bounce_52 (fun H locs hP hD hS => ?_)
        have hP : va_P (dC, dI) vwCl [(h0, .inr (6, [.int 0, .long tl, .int ed, .long eg, .int aw, .long tk, .long un, .ref b1, .int sm, .ref b2, .int frs, .ref b3, .ref b4, .ref b5, .int bts, .ref b6, .int msn, .ref b7, .int flt, .int bh, .int mkd, .int sta, .int lev, .long snc, .long tm, .int fst, .int snd, .int stp]))] H := hP
        have hD : va_D A [(h0, .inr (6, [.int 0, .long tl, .int ed, .long eg, .int aw, .long tk, .long un, .ref b1, .int sm, .ref b2, .int frs, .ref b3, .ref b4, .ref b5, .int bts, .ref b6, .int msn, .ref b7, .int flt, .int bh, .int mkd, .int sta, .int lev, .long snc, .long tm, .int fst, .int snd, .int stp]))] := hD
        refine lv_iload_n hx hb dX5_bounce_55 rfl (lv_at hl 1 rfl) ?_
        refine lv_aload_n hx hb dX5_bounce_56 rfl (lv_at hl 0 rfl) ?_
        refine va_get (D := (dC, dI)) (ci := 6) (v := .int sta) (C := RX5) (T := TX5) (N := 28) hx hb hts iX5 hown hK hP 0 rfl rfl 21 (by decide) (hts (.fieldLink RX5 115 "PulseRowsModel" "state" "Z") (List.mem_of_getElem? (i := 6) rfl)) (fun _ h9 => h9) rfl dX5_bounce_57 ?_
        refine lv_icmp_eq (tgt := 80) hx hb dX5_bounce_60 (by decide) (fun c_36 => ?_) (fun c_36 => ?_)
        · refine lv_iconst (v := 0) hx hb dX5_bounce_80 (by decide) ?_
          refine lv_istore (lv' := [(4, .int 0), (0, .ref h0), (1, .int lev), (2, .long tm)]) hx hb dX5_bounce_81 hl (by decide) rfl (fun ls hl => ?_)
          refine lv_aload_n hx hb dX5_bounce_83 rfl (lv_at hl 1 rfl) ?_
          refine lv_iload hx hb dX5_bounce_84 (lv_at hl 0 rfl) ?_
          refine lv_if_eq (tgt := 93) hx hb dX5_bounce_86 (by decide) (fun _ => ?_) (fun c9 => absurd c9 (by decide))
          refine lv_aload_n hx hb dX5_bounce_93 rfl (lv_at hl 1 rfl) ?_
          refine va_get (D := (dC, dI)) (ci := 6) (v := .int sta) (C := RX5) (T := TX5) (N := 28) hx hb hts iX5 hown hK hP 0 rfl rfl 21 (by decide) (hts (.fieldLink RX5 115 "PulseRowsModel" "state" "Z") (List.mem_of_getElem? (i := 6) rfl)) (fun _ h9 => h9) rfl dX5_bounce_94 ?_
          refine va_put (D := (dC, dI)) (ci := 6) (v := .int sta) (ty := .boolean) (C := RX5) (T := TX5) (N := 28) hx hb hts iX5 tyX5 tyX5_ok nmX5 hown hK hP hD hS 0 rfl rfl 21 (by decide) (hts (.fieldLink RX5 115 "PulseRowsModel" "state" "Z") (List.mem_of_getElem? (i := 6) rfl)) (fun _ h9 => h9) rfl (by decide +kernel) (hz_sta).nar (hz_sta).fit (Nat.le_of_ble_eq_true rfl) dX5_bounce_97 (fun H locs hP hD hS => ?_)
          have hP : va_P (dC, dI) vwCl [(h0, .inr (6, [.int 0, .long tl, .int ed, .long eg, .int aw, .long tk, .long un, .ref b1, .int sm, .ref b2, .int frs, .ref b3, .ref b4, .ref b5, .int bts, .ref b6, .int msn, .ref b7, .int flt, .int bh, .int mkd, .int sta, .int lev, .long snc, .long tm, .int fst, .int snd, .int stp]))] H := hP
          have hD : va_D A [(h0, .inr (6, [.int 0, .long tl, .int ed, .long eg, .int aw, .long tk, .long un, .ref b1, .int sm, .ref b2, .int frs, .ref b3, .ref b4, .ref b5, .int bts, .ref b6, .int msn, .ref b7, .int flt, .int bh, .int mkd, .int sta, .int lev, .long snc, .long tm, .int fst, .int snd, .int stp]))] := hD
          refine lv_iload hx hb dX5_bounce_100 (lv_at hl 0 rfl) ?_
          refine lv_if_eq (tgt := 109) hx hb dX5_bounce_102 (by decide) (fun _ => ?_) (fun c9 => absurd c9 (by decide))
          refine lv_iconst (v := 0) hx hb dX5_bounce_109 (by decide) ?_
          have e_40 : sta = X5_bounce_state sta lvl snc tld lev tm := by rw [X5_bounce_state, if_neg c_1, if_pos c_8, if_pos c_9, if_pos c_36]
          have e_41 : lev = X5_bounce_level lvl tld lev tm := by rw [X5_bounce_level, if_neg c_1, if_pos c_8]
          have e_42 : snc = X5_bounce_since lvl snc tld lev tm := by rw [X5_bounce_since, if_neg c_1, if_pos c_8, if_pos c_9]
          have e_43 : tm = X5_bounce_told tld tm := by rw [X5_bounce_told, if_neg c_1, if_pos c_8]
          have hP9 : va_P (dC, dI) vwCl [(h0, .inr (6, [.int 0, .long tl, .int ed, .long eg, .int aw, .long tk, .long un, .ref b1, .int sm, .ref b2, .int frs, .ref b3, .ref b4, .ref b5, .int bts, .ref b6, .int msn, .ref b7, .int flt, .int bh, .int mkd, .int (X5_bounce_state sta lvl snc tld lev tm), .int (X5_bounce_level lvl tld lev tm), .long (X5_bounce_since lvl snc tld lev tm), .long (X5_bounce_told tld tm), .int fst, .int snd, .int stp]))] H := by rw [← e_40, ← e_41, ← e_42, ← e_43]; exact hP.sub [0] rfl
          have hD9 : va_D A [(h0, .inr (6, [.int 0, .long tl, .int ed, .long eg, .int aw, .long tk, .long un, .ref b1, .int sm, .ref b2, .int frs, .ref b3, .ref b4, .ref b5, .int bts, .ref b6, .int msn, .ref b7, .int flt, .int bh, .int mkd, .int (X5_bounce_state sta lvl snc tld lev tm), .int (X5_bounce_level lvl tld lev tm), .long (X5_bounce_since lvl snc tld lev tm), .long (X5_bounce_told tld tm), .int fst, .int snd, .int stp]))] := by rw [← e_40, ← e_41, ← e_42, ← e_43]; exact hD.sub [0] (by decide) rfl
          have e_44 : (0 : Int32) = X5_bounce_r sta lvl snc tld lev tm := by rw [X5_bounce_r, if_neg c_1, if_pos c_8, if_pos c_9, if_pos c_36]
          exact W.iret (v := 0) hx hb hr (fun t ht hW => ⟨⟨_, (), rfl, e_44, po.ret ht hW hP9 hK hD9⟩, hS.F ht⟩) hS.2.2 dX5_bounce_110
        · refine lv_lload_n hx hb dX5_bounce_63 rfl (lv_at hl 2 rfl) ?_
          refine lv_aload_n hx hb dX5_bounce_64 rfl (lv_at hl 0 rfl) ?_
          refine va_get (D := (dC, dI)) (ci := 6) (v := .long snc) (C := RX5) (T := TX5) (N := 28) hx hb hts iX5 hown hK hP 0 rfl rfl 23 (by decide) (hts (.fieldLink RX5 112 "PulseRowsModel" "since" "J") (List.mem_of_getElem? (i := 5) rfl)) (fun _ h9 => h9) rfl dX5_bounce_65 ?_
          refine lv_ldc2 hx hb hown (hts (.constantLong RX5 118 (10)) (List.mem_of_getElem? (i := 7) rfl)) dX5_bounce_68 ?_
          refine lv_ladd hx hb dX5_bounce_71 ?_
          refine W.lcmp hx hb dX5_bounce_72 ?_
          refine lv_if_lt (tgt := 80) hx hb dX5_bounce_73 (by decide) (fun c_45 => ?_) (fun c_45 => ?_)
          · rw [lg_cmp_lt] at c_45
            refine lv_iconst (v := 0) hx hb dX5_bounce_80 (by decide) ?_
            refine lv_istore (lv' := [(4, .int 0), (0, .ref h0), (1, .int lev), (2, .long tm)]) hx hb dX5_bounce_81 hl (by decide) rfl (fun ls hl => ?_)
            refine lv_aload_n hx hb dX5_bounce_83 rfl (lv_at hl 1 rfl) ?_
            refine lv_iload hx hb dX5_bounce_84 (lv_at hl 0 rfl) ?_
            refine lv_if_eq (tgt := 93) hx hb dX5_bounce_86 (by decide) (fun _ => ?_) (fun c9 => absurd c9 (by decide))
            refine lv_aload_n hx hb dX5_bounce_93 rfl (lv_at hl 1 rfl) ?_
            refine va_get (D := (dC, dI)) (ci := 6) (v := .int sta) (C := RX5) (T := TX5) (N := 28) hx hb hts iX5 hown hK hP 0 rfl rfl 21 (by decide) (hts (.fieldLink RX5 115 "PulseRowsModel" "state" "Z") (List.mem_of_getElem? (i := 6) rfl)) (fun _ h9 => h9) rfl dX5_bounce_94 ?_
            refine va_put (D := (dC, dI)) (ci := 6) (v := .int sta) (ty := .boolean) (C := RX5) (T := TX5) (N := 28) hx hb hts iX5 tyX5 tyX5_ok nmX5 hown hK hP hD hS 0 rfl rfl 21 (by decide) (hts (.fieldLink RX5 115 "PulseRowsModel" "state" "Z") (List.mem_of_getElem? (i := 6) rfl)) (fun _ h9 => h9) rfl (by decide +kernel) (hz_sta).nar (hz_sta).fit (Nat.le_of_ble_eq_true rfl) dX5_bounce_97 (fun H locs hP hD hS => ?_)
            have hP : va_P (dC, dI) vwCl [(h0, .inr (6, [.int 0, .long tl, .int ed, .long eg, .int aw, .long tk, .long un, .ref b1, .int sm, .ref b2, .int frs, .ref b3, .ref b4, .ref b5, .int bts, .ref b6, .int msn, .ref b7, .int flt, .int bh, .int mkd, .int sta, .int lev, .long snc, .long tm, .int fst, .int snd, .int stp]))] H := hP
            have hD : va_D A [(h0, .inr (6, [.int 0, .long tl, .int ed, .long eg, .int aw, .long tk, .long un, .ref b1, .int sm, .ref b2, .int frs, .ref b3, .ref b4, .ref b5, .int bts, .ref b6, .int msn, .ref b7, .int flt, .int bh, .int mkd, .int sta, .int lev, .long snc, .long tm, .int fst, .int snd, .int stp]))] := hD
            refine lv_iload hx hb dX5_bounce_100 (lv_at hl 0 rfl) ?_
            refine lv_if_eq (tgt := 109) hx hb dX5_bounce_102 (by decide) (fun _ => ?_) (fun c9 => absurd c9 (by decide))
            refine lv_iconst (v := 0) hx hb dX5_bounce_109 (by decide) ?_
            have e_49 : sta = X5_bounce_state sta lvl snc tld lev tm := by rw [X5_bounce_state, if_neg c_1, if_pos c_8, if_pos c_9, if_neg c_36, if_pos c_45]
            have e_50 : lev = X5_bounce_level lvl tld lev tm := by rw [X5_bounce_level, if_neg c_1, if_pos c_8]
            have e_51 : snc = X5_bounce_since lvl snc tld lev tm := by rw [X5_bounce_since, if_neg c_1, if_pos c_8, if_pos c_9]
            have e_52 : tm = X5_bounce_told tld tm := by rw [X5_bounce_told, if_neg c_1, if_pos c_8]
            have hP9 : va_P (dC, dI) vwCl [(h0, .inr (6, [.int 0, .long tl, .int ed, .long eg, .int aw, .long tk, .long un, .ref b1, .int sm, .ref b2, .int frs, .ref b3, .ref b4, .ref b5, .int bts, .ref b6, .int msn, .ref b7, .int flt, .int bh, .int mkd, .int (X5_bounce_state sta lvl snc tld lev tm), .int (X5_bounce_level lvl tld lev tm), .long (X5_bounce_since lvl snc tld lev tm), .long (X5_bounce_told tld tm), .int fst, .int snd, .int stp]))] H := by rw [← e_49, ← e_50, ← e_51, ← e_52]; exact hP.sub [0] rfl
            have hD9 : va_D A [(h0, .inr (6, [.int 0, .long tl, .int ed, .long eg, .int aw, .long tk, .long un, .ref b1, .int sm, .ref b2, .int frs, .ref b3, .ref b4, .ref b5, .int bts, .ref b6, .int msn, .ref b7, .int flt, .int bh, .int mkd, .int (X5_bounce_state sta lvl snc tld lev tm), .int (X5_bounce_level lvl tld lev tm), .long (X5_bounce_since lvl snc tld lev tm), .long (X5_bounce_told tld tm), .int fst, .int snd, .int stp]))] := by rw [← e_49, ← e_50, ← e_51, ← e_52]; exact hD.sub [0] (by decide) rfl
            have e_53 : (0 : Int32) = X5_bounce_r sta lvl snc tld lev tm := by rw [X5_bounce_r, if_neg c_1, if_pos c_8, if_pos c_9, if_neg c_36, if_pos c_45]
            exact W.iret (v := 0) hx hb hr (fun t ht hW => ⟨⟨_, (), rfl, e_53, po.ret ht hW hP9 hK hD9⟩, hS.F ht⟩) hS.2.2 dX5_bounce_110
          · rw [lg_cmp_lt] at c_45
            refine lv_iconst (v := 1) hx hb dX5_bounce_76 (by decide) ?_
            refine lv_goto (tgt := 81) hx hb dX5_bounce_77 (by decide) ?_
            refine lv_istore (lv' := [(4, .int 1), (0, .ref h0), (1, .int lev), (2, .long tm)]) hx hb dX5_bounce_81 hl (by decide) rfl (fun ls hl => ?_)
            refine lv_aload_n hx hb dX5_bounce_83 rfl (lv_at hl 1 rfl) ?_
            refine lv_iload hx hb dX5_bounce_84 (lv_at hl 0 rfl) ?_
            refine lv_if_eq (tgt := 93) hx hb dX5_bounce_86 (by decide) (fun c9 => absurd c9 (by decide)) (fun _ => ?_)
            refine lv_iload_n hx hb dX5_bounce_89 rfl (lv_at hl 2 rfl) ?_
            refine lv_goto (tgt := 97) hx hb dX5_bounce_90 (by decide) ?_
            refine va_put (D := (dC, dI)) (ci := 6) (v := .int lev) (ty := .boolean) (C := RX5) (T := TX5) (N := 28) hx hb hts iX5 tyX5 tyX5_ok nmX5 hown hK hP hD hS 0 rfl rfl 21 (by decide) (hts (.fieldLink RX5 115 "PulseRowsModel" "state" "Z") (List.mem_of_getElem? (i := 6) rfl)) (fun _ h9 => h9) rfl (by decide +kernel) (hz_lev).nar (hz_lev).fit (Nat.le_of_ble_eq_true rfl) dX5_bounce_97 (fun H locs hP hD hS => ?_)
            have hP : va_P (dC, dI) vwCl [(h0, .inr (6, [.int 0, .long tl, .int ed, .long eg, .int aw, .long tk, .long un, .ref b1, .int sm, .ref b2, .int frs, .ref b3, .ref b4, .ref b5, .int bts, .ref b6, .int msn, .ref b7, .int flt, .int bh, .int mkd, .int lev, .int lev, .long snc, .long tm, .int fst, .int snd, .int stp]))] H := hP
            have hD : va_D A [(h0, .inr (6, [.int 0, .long tl, .int ed, .long eg, .int aw, .long tk, .long un, .ref b1, .int sm, .ref b2, .int frs, .ref b3, .ref b4, .ref b5, .int bts, .ref b6, .int msn, .ref b7, .int flt, .int bh, .int mkd, .int lev, .int lev, .long snc, .long tm, .int fst, .int snd, .int stp]))] := hD
            refine lv_iload hx hb dX5_bounce_100 (lv_at hl 0 rfl) ?_
            refine lv_if_eq (tgt := 109) hx hb dX5_bounce_102 (by decide) (fun c9 => absurd c9 (by decide)) (fun _ => ?_)
            refine lv_iconst (v := 1) hx hb dX5_bounce_105 (by decide) ?_
            refine lv_goto (tgt := 110) hx hb dX5_bounce_106 (by decide) ?_
            have e_57 : lev = X5_bounce_state sta lvl snc tld lev tm := by rw [X5_bounce_state, if_neg c_1, if_pos c_8, if_pos c_9, if_neg c_36, if_neg c_45]
            have e_58 : lev = X5_bounce_level lvl tld lev tm := by rw [X5_bounce_level, if_neg c_1, if_pos c_8]
            have e_59 : snc = X5_bounce_since lvl snc tld lev tm := by rw [X5_bounce_since, if_neg c_1, if_pos c_8, if_pos c_9]
            have e_60 : tm = X5_bounce_told tld tm := by rw [X5_bounce_told, if_neg c_1, if_pos c_8]
            have hP9 : va_P (dC, dI) vwCl [(h0, .inr (6, [.int 0, .long tl, .int ed, .long eg, .int aw, .long tk, .long un, .ref b1, .int sm, .ref b2, .int frs, .ref b3, .ref b4, .ref b5, .int bts, .ref b6, .int msn, .ref b7, .int flt, .int bh, .int mkd, .int (X5_bounce_state sta lvl snc tld lev tm), .int (X5_bounce_level lvl tld lev tm), .long (X5_bounce_since lvl snc tld lev tm), .long (X5_bounce_told tld tm), .int fst, .int snd, .int stp]))] H := by rw [← e_57, ← e_58, ← e_59, ← e_60]; exact hP.sub [0] rfl
            have hD9 : va_D A [(h0, .inr (6, [.int 0, .long tl, .int ed, .long eg, .int aw, .long tk, .long un, .ref b1, .int sm, .ref b2, .int frs, .ref b3, .ref b4, .ref b5, .int bts, .ref b6, .int msn, .ref b7, .int flt, .int bh, .int mkd, .int (X5_bounce_state sta lvl snc tld lev tm), .int (X5_bounce_level lvl tld lev tm), .long (X5_bounce_since lvl snc tld lev tm), .long (X5_bounce_told tld tm), .int fst, .int snd, .int stp]))] := by rw [← e_57, ← e_58, ← e_59, ← e_60]; exact hD.sub [0] (by decide) rfl
            have e_61 : (1 : Int32) = X5_bounce_r sta lvl snc tld lev tm := by rw [X5_bounce_r, if_neg c_1, if_pos c_8, if_pos c_9, if_neg c_36, if_neg c_45]
            exact W.iret (v := 1) hx hb hr (fun t ht hW => ⟨⟨_, (), rfl, e_61, po.ret ht hW hP9 hK hD9⟩, hS.F ht⟩) hS.2.2 dX5_bounce_110
    · rw [lg_cmp_le] at c_8
      refine lv_bipush (v := (-2)) hx hb dX5_bounce_22 (by decide) ?_
      have e_63 : sta = X5_bounce_state sta lvl snc tld lev tm := by rw [X5_bounce_state, if_neg c_1, if_neg c_8]
      have e_64 : lvl = X5_bounce_level lvl tld lev tm := by rw [X5_bounce_level, if_neg c_1, if_neg c_8]
      have e_65 : snc = X5_bounce_since lvl snc tld lev tm := by rw [X5_bounce_since, if_neg c_1, if_neg c_8]
      have e_66 : tld = X5_bounce_told tld tm := by rw [X5_bounce_told, if_neg c_1, if_neg c_8]
      have hP9 : va_P (dC, dI) vwCl [(h0, .inr (6, [.int 0, .long tl, .int ed, .long eg, .int aw, .long tk, .long un, .ref b1, .int sm, .ref b2, .int frs, .ref b3, .ref b4, .ref b5, .int bts, .ref b6, .int msn, .ref b7, .int flt, .int bh, .int mkd, .int (X5_bounce_state sta lvl snc tld lev tm), .int (X5_bounce_level lvl tld lev tm), .long (X5_bounce_since lvl snc tld lev tm), .long (X5_bounce_told tld tm), .int fst, .int snd, .int stp]))] H := by rw [← e_63, ← e_64, ← e_65, ← e_66]; exact hP.sub [0] rfl
      have hD9 : va_D A [(h0, .inr (6, [.int 0, .long tl, .int ed, .long eg, .int aw, .long tk, .long un, .ref b1, .int sm, .ref b2, .int frs, .ref b3, .ref b4, .ref b5, .int bts, .ref b6, .int msn, .ref b7, .int flt, .int bh, .int mkd, .int (X5_bounce_state sta lvl snc tld lev tm), .int (X5_bounce_level lvl tld lev tm), .long (X5_bounce_since lvl snc tld lev tm), .long (X5_bounce_told tld tm), .int fst, .int snd, .int stp]))] := by rw [← e_63, ← e_64, ← e_65, ← e_66]; exact hD.sub [0] (by decide) rfl
      have e_67 : ((-2) : Int32) = X5_bounce_r sta lvl snc tld lev tm := by rw [X5_bounce_r, if_neg c_1, if_neg c_8]
      exact W.iret (v := (-2)) hx hb hr (fun t ht hW => ⟨⟨_, (), rfl, e_67, po.ret ht hW hP9 hK hD9⟩, hS.F ht⟩) hS.2.2 dX5_bounce_24
def X5_place_r (pa : Int32) (pb : Int32) : Int32 := if pa = 0 then (if pb = 0 then 0 else 3) else (if pb = 0 then 1 else 2)
set_option maxHeartbeats 4000000 in
set_option maxRecDepth 100000 in
theorem k_X5_place (l : Launch) (dC : Nat → ClassId) (dI : Nat → Nat → Nat) (sz : Nat) (pa : Int32) (pb : Int32)  : Met l yX5_place wsX5_place ({ frames := 0, cells := 0, slots := 0, locals := 0 }) (va_Pc [.int pa, .int pb] (pr (dC, dI) [] [] sz)) (va_Qi (fun (r : Int32) (_ : Unit) => r = X5_place_r pa pb) (fun _ t => po (dC, dI) [] (va_A [] sz) [] t) (va_A [] sz)) 0 0 (va_A [] sz) := by
  refine Met.ofW (cc := cX5_place) (maxL := 2) (ret := (some .int)) (by decide) rfl ?_
  intro p e s m args below meth c s₁ B hml hv
  obtain ⟨rfl, hsz, hP, hK, hD0⟩ := hv
  have hx := B.exec
  have hb := B.bytes
  have hr := B.returns
  have hts := atoms_spec (ws := wsX5_place) B.pre
  have hown : s.vm.findClass RX5 = some m.cls := findClass_of_methodNamed B.named
  have hlocks := B.notSynchronized
  subst hsz
  have hD := hD0.self (sz := s.heap.size)
  generalize hAe : va_A [] s.heap.size = A at hD ⊢
  have hA : ∀ q : Nat, s.heap.size ≤ q → A q := fun q h => by rw [← hAe]; exact Or.inr h
  have hS : va_S A s.heap s.heap [] := va_S.rf
  have hP : va_P (dC, dI) vwCl [] s.heap := hP
  have hl := lv_entry ([.int pa, .int pb]) (n := 2) (Nat.le_of_ble_eq_true rfl)
  rw [lg_entry_eq]
  generalize (lg_sl ([.int pa, .int pb]) ++ List.replicate (2 - (lg_sl ([.int pa, .int pb])).length) Slot.unset).toArray = ls at hl ⊢
  have hl : lv_has ls 2 [(0, .int pa), (1, .int pb)] := hl
  refine lv_iload_n hx hb dX5_place_0 rfl (lv_at hl 0 rfl) ?_
  refine lv_if_eq (tgt := 14) hx hb dX5_place_1 (by decide) (fun c_1 => ?_) (fun c_1 => ?_)
  · refine lv_iload_n hx hb dX5_place_14 rfl (lv_at hl 1 rfl) ?_
    refine lv_if_eq (tgt := 22) hx hb dX5_place_15 (by decide) (fun c_2 => ?_) (fun c_2 => ?_)
    · refine lv_iconst (v := 0) hx hb dX5_place_22 (by decide) ?_
      have hP9 : va_P (dC, dI) vwCl [] s.heap := by exact hP.sub [] rfl
      have hD9 : va_D A [] := by exact hD.sub [] (by decide) rfl
      have e_3 : (0 : Int32) = X5_place_r pa pb := by rw [X5_place_r, if_pos c_1, if_pos c_2]
      exact W.iret (v := 0) hx hb hr (fun t ht hW => ⟨⟨_, (), rfl, e_3, po.ret ht hW hP9 hK hD9⟩, hS.F ht⟩) hS.2.2 dX5_place_23
    · refine lv_iconst (v := 3) hx hb dX5_place_18 (by decide) ?_
      refine lv_goto (tgt := 23) hx hb dX5_place_19 (by decide) ?_
      have hP9 : va_P (dC, dI) vwCl [] s.heap := by exact hP.sub [] rfl
      have hD9 : va_D A [] := by exact hD.sub [] (by decide) rfl
      have e_4 : (3 : Int32) = X5_place_r pa pb := by rw [X5_place_r, if_pos c_1, if_neg c_2]
      exact W.iret (v := 3) hx hb hr (fun t ht hW => ⟨⟨_, (), rfl, e_4, po.ret ht hW hP9 hK hD9⟩, hS.F ht⟩) hS.2.2 dX5_place_23
  · refine lv_iload_n hx hb dX5_place_4 rfl (lv_at hl 1 rfl) ?_
    refine lv_if_eq (tgt := 12) hx hb dX5_place_5 (by decide) (fun c_5 => ?_) (fun c_5 => ?_)
    · refine lv_iconst (v := 1) hx hb dX5_place_12 (by decide) ?_
      have hP9 : va_P (dC, dI) vwCl [] s.heap := by exact hP.sub [] rfl
      have hD9 : va_D A [] := by exact hD.sub [] (by decide) rfl
      have e_6 : (1 : Int32) = X5_place_r pa pb := by rw [X5_place_r, if_neg c_1, if_pos c_5]
      exact W.iret (v := 1) hx hb hr (fun t ht hW => ⟨⟨_, (), rfl, e_6, po.ret ht hW hP9 hK hD9⟩, hS.F ht⟩) hS.2.2 dX5_place_13
    · refine lv_iconst (v := 2) hx hb dX5_place_8 (by decide) ?_
      refine lv_goto (tgt := 13) hx hb dX5_place_9 (by decide) ?_
      have hP9 : va_P (dC, dI) vwCl [] s.heap := by exact hP.sub [] rfl
      have hD9 : va_D A [] := by exact hD.sub [] (by decide) rfl
      have e_7 : (2 : Int32) = X5_place_r pa pb := by rw [X5_place_r, if_neg c_1, if_neg c_5]
      exact W.iret (v := 2) hx hb hr (fun t ht hW => ⟨⟨_, (), rfl, e_7, po.ret ht hW hP9 hK hD9⟩, hS.F ht⟩) hS.2.2 dX5_place_13
def X5_turn_faults (flt : Int32) (fst : Int32) (snd : Int32) (pa : Int32) (pb : Int32) : Int32 := if (((X5_place_r pa pb) - (X5_place_r fst snd)) &&& 3) = 2 then (X5_fault_faults flt) else flt
def X5_turn_behind (bh : Int32) (fst : Int32) (snd : Int32) (pa : Int32) (pb : Int32) : Int32 := if (((X5_place_r pa pb) - (X5_place_r fst snd)) &&& 3) = 2 then (X5_fault_behind bh) else bh
def X5_turn_marked (bh : Int32) (mkd : Int32) (fst : Int32) (snd : Int32) (pa : Int32) (pb : Int32) : Int32 := if (((X5_place_r pa pb) - (X5_place_r fst snd)) &&& 3) = 2 then (X5_fault_marked bh mkd) else mkd
def X5_turn_first (pa : Int32) : Int32 := pa
theorem X5_turn_first_z (pa : Int32) (hz_pa : z01 pa) : z01 (X5_turn_first pa) := by unfold X5_turn_first; repeat (first | split | with_reducible assumption | with_reducible exact z01_0 | with_reducible exact z01_1 | with_reducible exact X0_tell_r_z _ _ _ _ _ (by assumption) | with_reducible exact X1_hasMark_r_z _ (by assumption) | with_reducible exact X3_moveTo_trackA_z _ (by assumption) | with_reducible exact X3_moveTo_trackB_z _ (by assumption) | with_reducible exact X3_moveTo_r_z _ _ _ _ (by assumption) (by assumption) | with_reducible exact X4_isOutsideTime_r_z _ | with_reducible exact X2_finishRow_r_z _ | with_reducible exact X2_take_r_z _ _ _ | with_reducible exact X4_isRight_r_z _ | with_reducible exact X4_isTaken_r_z _ _ _ | with_reducible exact X4_hasFrame_r_z _ _ | with_reducible exact X4_marked_r_z _ (by assumption) | with_reducible exact X5_fits_r_z _ _ _ | with_reducible exact X5_fault_marked_z _ _ | with_reducible exact X5_bounce_state_z _ _ _ _ _ _ (by assumption) (by assumption))
def X5_turn_second (pb : Int32) : Int32 := pb
theorem X5_turn_second_z (pb : Int32) (hz_pb : z01 pb) : z01 (X5_turn_second pb) := by unfold X5_turn_second; repeat (first | split | with_reducible assumption | with_reducible exact z01_0 | with_reducible exact z01_1 | with_reducible exact X0_tell_r_z _ _ _ _ _ (by assumption) | with_reducible exact X1_hasMark_r_z _ (by assumption) | with_reducible exact X3_moveTo_trackA_z _ (by assumption) | with_reducible exact X3_moveTo_trackB_z _ (by assumption) | with_reducible exact X3_moveTo_r_z _ _ _ _ (by assumption) (by assumption) | with_reducible exact X4_isOutsideTime_r_z _ | with_reducible exact X2_finishRow_r_z _ | with_reducible exact X2_take_r_z _ _ _ | with_reducible exact X4_isRight_r_z _ | with_reducible exact X4_isTaken_r_z _ _ _ | with_reducible exact X4_hasFrame_r_z _ _ | with_reducible exact X4_marked_r_z _ (by assumption) | with_reducible exact X5_fits_r_z _ _ _ | with_reducible exact X5_fault_marked_z _ _ | with_reducible exact X5_bounce_state_z _ _ _ _ _ _ (by assumption) (by assumption) | with_reducible exact X5_turn_first_z _ (by assumption))
def X5_turn_steps (fst : Int32) (snd : Int32) (stp : Int32) (pa : Int32) (pb : Int32) : Int32 := if (((X5_place_r pa pb) - (X5_place_r fst snd)) &&& 3) = 1 then (if (((X5_place_r pa pb) - (X5_place_r fst snd)) &&& 3) = 3 then ((stp + 1) - 1) else (stp + 1)) else (if (((X5_place_r pa pb) - (X5_place_r fst snd)) &&& 3) = 3 then (stp - 1) else stp)
def X5_turn_r (fst : Int32) (snd : Int32) (stp : Int32) (pa : Int32) (pb : Int32) : Int32 := if (((X5_place_r pa pb) - (X5_place_r fst snd)) &&& 3) = 1 then (if (((X5_place_r pa pb) - (X5_place_r fst snd)) &&& 3) = 3 then ((stp + 1) - 1) else (stp + 1)) else (if (((X5_place_r pa pb) - (X5_place_r fst snd)) &&& 3) = 3 then (stp - 1) else stp)
set_option maxHeartbeats 4000000 in
set_option maxRecDepth 100000 in
theorem k_X5_turn (l : Launch) (dC : Nat → ClassId) (dI : Nat → Nat → Nat) (sz : Nat) (h0 : Nat) (cd : Int32) (tl : Int64) (ed : Int32) (eg : Int64) (aw : Int32) (tk : Int64) (un : Int64) (b1 : Nat) (sm : Int32) (b2 : Nat) (frs : Int32) (b3 : Nat) (b4 : Nat) (b5 : Nat) (bts : Int32) (b6 : Nat) (msn : Int32) (b7 : Nat) (flt : Int32) (bh : Int32) (mkd : Int32) (sta : Int32) (lvl : Int32) (snc : Int64) (tld : Int64) (fst : Int32) (snd : Int32) (stp : Int32) (pa : Int32) (pb : Int32) (hz_pa : z01 pa) (hz_pb : z01 pb) : Met l yX5_turn wsX5_turn ({ frames := 1, cells := 0, slots := 0, locals := 21 }) (va_Pc [.ref h0, .int pa, .int pb] (pr (dC, dI) [] [(h0, .inr (6, [.int cd, .long tl, .int ed, .long eg, .int aw, .long tk, .long un, .ref b1, .int sm, .ref b2, .int frs, .ref b3, .ref b4, .ref b5, .int bts, .ref b6, .int msn, .ref b7, .int flt, .int bh, .int mkd, .int sta, .int lvl, .long snc, .long tld, .int fst, .int snd, .int stp]))] sz)) (va_Qi (fun (r : Int32) (_ : Unit) => r = X5_turn_r fst snd stp pa pb) (fun _ t => po (dC, dI) [] (va_A [(h0, .inr (6, [.int cd, .long tl, .int ed, .long eg, .int aw, .long tk, .long un, .ref b1, .int sm, .ref b2, .int frs, .ref b3, .ref b4, .ref b5, .int bts, .ref b6, .int msn, .ref b7, .int flt, .int bh, .int mkd, .int sta, .int lvl, .long snc, .long tld, .int fst, .int snd, .int stp]))] sz) [(h0, .inr (6, [.int 0, .long tl, .int ed, .long eg, .int aw, .long tk, .long un, .ref b1, .int sm, .ref b2, .int frs, .ref b3, .ref b4, .ref b5, .int bts, .ref b6, .int msn, .ref b7, .int (X5_turn_faults flt fst snd pa pb), .int (X5_turn_behind bh fst snd pa pb), .int (X5_turn_marked bh mkd fst snd pa pb), .int sta, .int lvl, .long snc, .long tld, .int (X5_turn_first pa), .int (X5_turn_second pb), .int (X5_turn_steps fst snd stp pa pb)]))] t) (va_A [(h0, .inr (6, [.int cd, .long tl, .int ed, .long eg, .int aw, .long tk, .long un, .ref b1, .int sm, .ref b2, .int frs, .ref b3, .ref b4, .ref b5, .int bts, .ref b6, .int msn, .ref b7, .int flt, .int bh, .int mkd, .int sta, .int lvl, .long snc, .long tld, .int fst, .int snd, .int stp]))] sz)) 0 0 (va_A [(h0, .inr (6, [.int cd, .long tl, .int ed, .long eg, .int aw, .long tk, .long un, .ref b1, .int sm, .ref b2, .int frs, .ref b3, .ref b4, .ref b5, .int bts, .ref b6, .int msn, .ref b7, .int flt, .int bh, .int mkd, .int sta, .int lvl, .long snc, .long tld, .int fst, .int snd, .int stp]))] sz) := by
  refine Met.ofW (cc := cX5_turn) (maxL := 4) (ret := (some .int)) (by decide) rfl ?_
  intro p e s m args below meth c s₁ B hml hv
  obtain ⟨rfl, hsz, hP, hK, hD0⟩ := hv
  have hx := B.exec
  have hb := B.bytes
  have hr := B.returns
  have hts := atoms_spec (ws := wsX5_turn) B.pre
  have hown : s.vm.findClass RX5 = some m.cls := findClass_of_methodNamed B.named
  have hlocks := B.notSynchronized
  subst hsz
  have hD := hD0.self (sz := s.heap.size)
  generalize hAe : va_A [(h0, .inr (6, [.int cd, .long tl, .int ed, .long eg, .int aw, .long tk, .long un, .ref b1, .int sm, .ref b2, .int frs, .ref b3, .ref b4, .ref b5, .int bts, .ref b6, .int msn, .ref b7, .int flt, .int bh, .int mkd, .int sta, .int lvl, .long snc, .long tld, .int fst, .int snd, .int stp]))] s.heap.size = A at hD ⊢
  have hA : ∀ q : Nat, s.heap.size ≤ q → A q := fun q h => by rw [← hAe]; exact Or.inr h
  have hS : va_S A s.heap s.heap [] := va_S.rf
  have hP : va_P (dC, dI) vwCl [(h0, .inr (6, [.int cd, .long tl, .int ed, .long eg, .int aw, .long tk, .long un, .ref b1, .int sm, .ref b2, .int frs, .ref b3, .ref b4, .ref b5, .int bts, .ref b6, .int msn, .ref b7, .int flt, .int bh, .int mkd, .int sta, .int lvl, .long snc, .long tld, .int fst, .int snd, .int stp]))] s.heap := hP
  have iX5 : ∀ w ∈ wsX50, w ∈ wsX5_turn := by decide +kernel
  have hl := lv_entry ([.ref h0, .int pa, .int pb]) (n := 4) (Nat.le_of_ble_eq_true rfl)
  rw [lg_entry_eq]
  generalize (lg_sl ([.ref h0, .int pa, .int pb]) ++ List.replicate (4 - (lg_sl ([.ref h0, .int pa, .int pb])).length) Slot.unset).toArray = ls at hl ⊢
  have hl : lv_has ls 4 [(0, .ref h0), (1, .int pa), (2, .int pb)] := hl
  refine lv_aload_n hx hb dX5_turn_0 rfl (lv_at hl 0 rfl) ?_
  refine lv_iconst (v := 0) hx hb dX5_turn_1 (by decide) ?_
  refine va_put (D := (dC, dI)) (ci := 6) (v := .int 0) (ty := .int) (C := RX5) (T := TX5) (N := 28) hx hb hts iX5 tyX5 tyX5_ok nmX5 hown hK hP hD hS 0 rfl rfl 0 (by decide) (hts (.fieldLink RX5 42 "PulseRowsModel" "code" "I") (List.mem_of_getElem? (i := 1) rfl)) (fun _ h9 => h9) rfl (by decide +kernel) rfl rfl (Nat.le_of_ble_eq_true rfl) dX5_turn_2 (fun H locs hP hD hS => ?_)
  have hP : va_P (dC, dI) vwCl [(h0, .inr (6, [.int 0, .long tl, .int ed, .long eg, .int aw, .long tk, .long un, .ref b1, .int sm, .ref b2, .int frs, .ref b3, .ref b4, .ref b5, .int bts, .ref b6, .int msn, .ref b7, .int flt, .int bh, .int mkd, .int sta, .int lvl, .long snc, .long tld, .int fst, .int snd, .int stp]))] H := hP
  have hD : va_D A [(h0, .inr (6, [.int 0, .long tl, .int ed, .long eg, .int aw, .long tk, .long un, .ref b1, .int sm, .ref b2, .int frs, .ref b3, .ref b4, .ref b5, .int bts, .ref b6, .int msn, .ref b7, .int flt, .int bh, .int mkd, .int sta, .int lvl, .long snc, .long tld, .int fst, .int snd, .int stp]))] := hD
  refine lv_iload_n hx hb dX5_turn_5 rfl (lv_at hl 1 rfl) ?_
  refine lv_iload_n hx hb dX5_turn_6 rfl (lv_at hl 2 rfl) ?_
  have hPc := hP.sub (ws' := []) [] rfl
  have hDc := hD.sub (ws' := []) [] (by decide) rfl
  have hKc := hK.sub (tys' := []) [] rfl
  have hFc := va_free (wc := []) hD hS hA [] rfl
  refine va_calli (va_runS (As := [.int pa, .int pb]) (rest := []) ⟨hx, hb, hml, hown, hts⟩ (k_X5_place l dC dI H.size pa pb) (va_cwS 2 hts gX5_turn_X5_place rfl rfl rfl (by decide +kernel) ⟨Nat.le_of_ble_eq_true rfl, Nat.le_of_ble_eq_true rfl⟩) ⟨pr.blind, fun U hU hW => ⟨rfl, pr.call hU hW hPc hKc hDc⟩⟩ rfl rfl hl.1 rfl (lv_room (Nat.le_of_ble_eq_true rfl)) dX5_turn_7 ⟨Nat.le_of_ble_eq_true rfl, Nat.le_of_ble_eq_true rfl⟩) hS (fun q _ h => hFc q h) hFc (fun r_1 u t H1 locs ht hvm hw hB hz1 hk1 hS => ?_)
  subst r_1
  obtain ⟨hP, hD⟩ := po.join (wr := [(h0, .inr (6, [.int 0, .long tl, .int ed, .long eg, .int aw, .long tk, .long un, .ref b1, .int sm, .ref b2, .int frs, .ref b3, .ref b4, .ref b5, .int bts, .ref b6, .int msn, .ref b7, .int flt, .int bh, .int mkd, .int sta, .int lvl, .long snc, .long tld, .int fst, .int snd, .int stp]))]) hP hD [] [0] rfl rfl (by decide) (by decide) hk1 hFc ht hB
  generalize H1 = H at hP hS ⊢
  clear ht hvm hB hz1 hk1 hPc hDc hKc hFc
  have hP : va_P (dC, dI) vwCl [(h0, .inr (6, [.int 0, .long tl, .int ed, .long eg, .int aw, .long tk, .long un, .ref b1, .int sm, .ref b2, .int frs, .ref b3, .ref b4, .ref b5, .int bts, .ref b6, .int msn, .ref b7, .int flt, .int bh, .int mkd, .int sta, .int lvl, .long snc, .long tld, .int fst, .int snd, .int stp]))] H := hP
  have hD : va_D A [(h0, .inr (6, [.int 0, .long tl, .int ed, .long eg, .int aw, .long tk, .long un, .ref b1, .int sm, .ref b2, .int frs, .ref b3, .ref b4, .ref b5, .int bts, .ref b6, .int msn, .ref b7, .int flt, .int bh, .int mkd, .int sta, .int lvl, .long snc, .long tld, .int fst, .int snd, .int stp]))] := hD
  refine W.widen (k := 0) (n := 0) (Nat.le_of_ble_eq_true rfl) (Nat.le_of_ble_eq_true rfl) ?_
  refine lv_aload_n hx hb dX5_turn_10 rfl (lv_at hl 0 rfl) ?_
  refine va_get (D := (dC, dI)) (ci := 6) (v := .int fst) (C := RX5) (T := TX5) (N := 28) hx hb hts iX5 hown hK hP 0 rfl rfl 25 (by decide) (hts (.fieldLink RX5 124 "PulseRowsModel" "first" "Z") (List.mem_of_getElem? (i := 2) rfl)) (fun _ h9 => h9) rfl dX5_turn_11 ?_
  refine lv_aload_n hx hb dX5_turn_14 rfl (lv_at hl 0 rfl) ?_
  refine va_get (D := (dC, dI)) (ci := 6) (v := .int snd) (C := RX5) (T := TX5) (N := 28) hx hb hts iX5 hown hK hP 0 rfl rfl 26 (by decide) (hts (.fieldLink RX5 127 "PulseRowsModel" "second" "Z") (List.mem_of_getElem? (i := 3) rfl)) (fun _ h9 => h9) rfl dX5_turn_15 ?_
  have hPc := hP.sub (ws' := []) [] rfl
  have hDc := hD.sub (ws' := []) [] (by decide) rfl
  have hKc := hK.sub (tys' := []) [] rfl
  have hFc := va_free (wc := []) hD hS hA [] rfl
  refine va_calli (va_runS (As := [.int fst, .int snd]) (rest := [.int (X5_place_r pa pb)]) ⟨hx, hb, hml, hown, hts⟩ (k_X5_place l dC dI H.size fst snd) (va_cwS 2 hts gX5_turn_X5_place rfl rfl rfl (by decide +kernel) ⟨Nat.le_of_ble_eq_true rfl, Nat.le_of_ble_eq_true rfl⟩) ⟨pr.blind, fun U hU hW => ⟨rfl, pr.call hU hW hPc hKc hDc⟩⟩ rfl rfl hl.1 rfl (lv_room (Nat.le_of_ble_eq_true rfl)) dX5_turn_18 ⟨Nat.le_of_ble_eq_true rfl, Nat.le_of_ble_eq_true rfl⟩) hS (fun q _ h => hFc q h) hFc (fun r_2 u t H1 locs ht hvm hw hB hz1 hk1 hS => ?_)
  subst r_2
  obtain ⟨hP, hD⟩ := po.join (wr := [(h0, .inr (6, [.int 0, .long tl, .int ed, .long eg, .int aw, .long tk, .long un, .ref b1, .int sm, .ref b2, .int frs, .ref b3, .ref b4, .ref b5, .int bts, .ref b6, .int msn, .ref b7, .int flt, .int bh, .int mkd, .int sta, .int lvl, .long snc, .long tld, .int fst, .int snd, .int stp]))]) hP hD [] [0] rfl rfl (by decide) (by decide) hk1 hFc ht hB
  generalize H1 = H at hP hS ⊢
  clear ht hvm hB hz1 hk1 hPc hDc hKc hFc
  have hP : va_P (dC, dI) vwCl [(h0, .inr (6, [.int 0, .long tl, .int ed, .long eg, .int aw, .long tk, .long un, .ref b1, .int sm, .ref b2, .int frs, .ref b3, .ref b4, .ref b5, .int bts, .ref b6, .int msn, .ref b7, .int flt, .int bh, .int mkd, .int sta, .int lvl, .long snc, .long tld, .int fst, .int snd, .int stp]))] H := hP
  have hD : va_D A [(h0, .inr (6, [.int 0, .long tl, .int ed, .long eg, .int aw, .long tk, .long un, .ref b1, .int sm, .ref b2, .int frs, .ref b3, .ref b4, .ref b5, .int bts, .ref b6, .int msn, .ref b7, .int flt, .int bh, .int mkd, .int sta, .int lvl, .long snc, .long tld, .int fst, .int snd, .int stp]))] := hD
  refine W.widen (k := 0) (n := 0) (Nat.le_of_ble_eq_true rfl) (Nat.le_of_ble_eq_true rfl) ?_
  refine lv_isub hx hb dX5_turn_21 ?_
  refine lv_iconst (v := 3) hx hb dX5_turn_22 (by decide) ?_
  refine lv_iand hx hb dX5_turn_23 ?_
  refine lv_istore_n (lv' := [(3, .int (((X5_place_r pa pb) - (X5_place_r fst snd)) &&& 3)), (0, .ref h0), (1, .int pa), (2, .int pb)]) hx hb dX5_turn_24 rfl hl (by decide) rfl (fun ls hl => ?_)
  refine lv_aload_n hx hb dX5_turn_25 rfl (lv_at hl 1 rfl) ?_
  refine lv_iload_n hx hb dX5_turn_26 rfl (lv_at hl 2 rfl) ?_
  refine va_put (D := (dC, dI)) (ci := 6) (v := .int pa) (ty := .boolean) (C := RX5) (T := TX5) (N := 28) hx hb hts iX5 tyX5 tyX5_ok nmX5 hown hK hP hD hS 0 rfl rfl 25 (by decide) (hts (.fieldLink RX5 124 "PulseRowsModel" "first" "Z") (List.mem_of_getElem? (i := 2) rfl)) (fun _ h9 => h9) rfl (by decide +kernel) (hz_pa).nar (hz_pa).fit (Nat.le_of_ble_eq_true rfl) dX5_turn_27 (fun H locs hP hD hS => ?_)
  have hP : va_P (dC, dI) vwCl [(h0, .inr (6, [.int 0, .long tl, .int ed, .long eg, .int aw, .long tk, .long un, .ref b1, .int sm, .ref b2, .int frs, .ref b3, .ref b4, .ref b5, .int bts, .ref b6, .int msn, .ref b7, .int flt, .int bh, .int mkd, .int sta, .int lvl, .long snc, .long tld, .int pa, .int snd, .int stp]))] H := hP
  have hD : va_D A [(h0, .inr (6, [.int 0, .long tl, .int ed, .long eg, .int aw, .long tk, .long un, .ref b1, .int sm, .ref b2, .int frs, .ref b3, .ref b4, .ref b5, .int bts, .ref b6, .int msn, .ref b7, .int flt, .int bh, .int mkd, .int sta, .int lvl, .long snc, .long tld, .int pa, .int snd, .int stp]))] := hD
  refine lv_aload_n hx hb dX5_turn_30 rfl (lv_at hl 1 rfl) ?_
  refine lv_iload_n hx hb dX5_turn_31 rfl (lv_at hl 3 rfl) ?_
  refine va_put (D := (dC, dI)) (ci := 6) (v := .int pb) (ty := .boolean) (C := RX5) (T := TX5) (N := 28) hx hb hts iX5 tyX5 tyX5_ok nmX5 hown hK hP hD hS 0 rfl rfl 26 (by decide) (hts (.fieldLink RX5 127 "PulseRowsModel" "second" "Z") (List.mem_of_getElem? (i := 3) rfl)) (fun _ h9 => h9) rfl (by decide +kernel) (hz_pb).nar (hz_pb).fit (Nat.le_of_ble_eq_true rfl) dX5_turn_32 (fun H locs hP hD hS => ?_)
  have hP : va_P (dC, dI) vwCl [(h0, .inr (6, [.int 0, .long tl, .int ed, .long eg, .int aw, .long tk, .long un, .ref b1, .int sm, .ref b2, .int frs, .ref b3, .ref b4, .ref b5, .int bts, .ref b6, .int msn, .ref b7, .int flt, .int bh, .int mkd, .int sta, .int lvl, .long snc, .long tld, .int pa, .int pb, .int stp]))] H := hP
  have hD : va_D A [(h0, .inr (6, [.int 0, .long tl, .int ed, .long eg, .int aw, .long tk, .long un, .ref b1, .int sm, .ref b2, .int frs, .ref b3, .ref b4, .ref b5, .int bts, .ref b6, .int msn, .ref b7, .int flt, .int bh, .int mkd, .int sta, .int lvl, .long snc, .long tld, .int pa, .int pb, .int stp]))] := hD
  refine lv_iload_n hx hb dX5_turn_35 rfl (lv_at hl 0 rfl) ?_
  refine lv_iconst (v := 2) hx hb dX5_turn_36 (by decide) ?_
  refine lv_icmp_ne (tgt := 44) hx hb dX5_turn_37 (by decide) (fun c_3 => ?_) (fun c_3 => ?_)
  · refine lv_iload_n hx hb dX5_turn_44 rfl (lv_at hl 0 rfl) ?_
    refine lv_iconst (v := 1) hx hb dX5_turn_45 (by decide) ?_
    refine lv_icmp_ne (tgt := 59) hx hb dX5_turn_46 (by decide) (fun c_4 => ?_) (fun c_4 => ?_)
    · refine lv_iload_n hx hb dX5_turn_59 rfl (lv_at hl 0 rfl) ?_
      refine lv_iconst (v := 3) hx hb dX5_turn_60 (by decide) ?_
      refine lv_icmp_ne (tgt := 74) hx hb dX5_turn_61 (by decide) (fun c_5 => ?_) (fun c_5 => ?_)
      · refine lv_aload_n hx hb dX5_turn_74 rfl (lv_at hl 1 rfl) ?_
        refine va_get (D := (dC, dI)) (ci := 6) (v := .int stp) (C := RX5) (T := TX5) (N := 28) hx hb hts iX5 hown hK hP 0 rfl rfl 27 (by decide) (hts (.fieldLink RX5 130 "PulseRowsModel" "steps" "I") (List.mem_of_getElem? (i := 4) rfl)) (fun _ h9 => h9) rfl dX5_turn_75 ?_
        have e_7 : flt = X5_turn_faults flt fst snd pa pb := by rw [X5_turn_faults, if_neg c_3]
        have e_8 : bh = X5_turn_behind bh fst snd pa pb := by rw [X5_turn_behind, if_neg c_3]
        have e_9 : mkd = X5_turn_marked bh mkd fst snd pa pb := by rw [X5_turn_marked, if_neg c_3]
        have e_10 : pa = X5_turn_first pa := by rw [X5_turn_first]
        have e_11 : pb = X5_turn_second pb := by rw [X5_turn_second]
        have e_12 : stp = X5_turn_steps fst snd stp pa pb := by rw [X5_turn_steps, if_neg c_4, if_neg c_5]
        have hP9 : va_P (dC, dI) vwCl [(h0, .inr (6, [.int 0, .long tl, .int ed, .long eg, .int aw, .long tk, .long un, .ref b1, .int sm, .ref b2, .int frs, .ref b3, .ref b4, .ref b5, .int bts, .ref b6, .int msn, .ref b7, .int (X5_turn_faults flt fst snd pa pb), .int (X5_turn_behind bh fst snd pa pb), .int (X5_turn_marked bh mkd fst snd pa pb), .int sta, .int lvl, .long snc, .long tld, .int (X5_turn_first pa), .int (X5_turn_second pb), .int (X5_turn_steps fst snd stp pa pb)]))] H := by rw [← e_7, ← e_8, ← e_9, ← e_10, ← e_11, ← e_12]; exact hP.sub [0] rfl
        have hD9 : va_D A [(h0, .inr (6, [.int 0, .long tl, .int ed, .long eg, .int aw, .long tk, .long un, .ref b1, .int sm, .ref b2, .int frs, .ref b3, .ref b4, .ref b5, .int bts, .ref b6, .int msn, .ref b7, .int (X5_turn_faults flt fst snd pa pb), .int (X5_turn_behind bh fst snd pa pb), .int (X5_turn_marked bh mkd fst snd pa pb), .int sta, .int lvl, .long snc, .long tld, .int (X5_turn_first pa), .int (X5_turn_second pb), .int (X5_turn_steps fst snd stp pa pb)]))] := by rw [← e_7, ← e_8, ← e_9, ← e_10, ← e_11, ← e_12]; exact hD.sub [0] (by decide) rfl
        have e_13 : stp = X5_turn_r fst snd stp pa pb := by rw [X5_turn_r, if_neg c_4, if_neg c_5]
        exact W.iret (v := stp) hx hb hr (fun t ht hW => ⟨⟨_, (), rfl, e_13, po.ret ht hW hP9 hK hD9⟩, hS.F ht⟩) hS.2.2 dX5_turn_78
      · refine lv_aload_n hx hb dX5_turn_64 rfl (lv_at hl 1 rfl) ?_
        refine lv_dup hx hb dX5_turn_65 rfl ?_
        refine va_get (D := (dC, dI)) (ci := 6) (v := .int stp) (C := RX5) (T := TX5) (N := 28) hx hb hts iX5 hown hK hP 0 rfl rfl 27 (by decide) (hts (.fieldLink RX5 130 "PulseRowsModel" "steps" "I") (List.mem_of_getElem? (i := 4) rfl)) (fun _ h9 => h9) rfl dX5_turn_66 ?_
        refine lv_iconst (v := 1) hx hb dX5_turn_69 (by decide) ?_
        refine lv_isub hx hb dX5_turn_70 ?_
        refine va_put (D := (dC, dI)) (ci := 6) (v := .int (stp - 1)) (ty := .int) (C := RX5) (T := TX5) (N := 28) hx hb hts iX5 tyX5 tyX5_ok nmX5 hown hK hP hD hS 0 rfl rfl 27 (by decide) (hts (.fieldLink RX5 130 "PulseRowsModel" "steps" "I") (List.mem_of_getElem? (i := 4) rfl)) (fun _ h9 => h9) rfl (by decide +kernel) rfl rfl (Nat.le_of_ble_eq_true rfl) dX5_turn_71 (fun H locs hP hD hS => ?_)
        have hP : va_P (dC, dI) vwCl [(h0, .inr (6, [.int 0, .long tl, .int ed, .long eg, .int aw, .long tk, .long un, .ref b1, .int sm, .ref b2, .int frs, .ref b3, .ref b4, .ref b5, .int bts, .ref b6, .int msn, .ref b7, .int flt, .int bh, .int mkd, .int sta, .int lvl, .long snc, .long tld, .int pa, .int pb, .int (stp - 1)]))] H := hP
        have hD : va_D A [(h0, .inr (6, [.int 0, .long tl, .int ed, .long eg, .int aw, .long tk, .long un, .ref b1, .int sm, .ref b2, .int frs, .ref b3, .ref b4, .ref b5, .int bts, .ref b6, .int msn, .ref b7, .int flt, .int bh, .int mkd, .int sta, .int lvl, .long snc, .long tld, .int pa, .int pb, .int (stp - 1)]))] := hD
        refine lv_aload_n hx hb dX5_turn_74 rfl (lv_at hl 1 rfl) ?_
        refine va_get (D := (dC, dI)) (ci := 6) (v := .int (stp - 1)) (C := RX5) (T := TX5) (N := 28) hx hb hts iX5 hown hK hP 0 rfl rfl 27 (by decide) (hts (.fieldLink RX5 130 "PulseRowsModel" "steps" "I") (List.mem_of_getElem? (i := 4) rfl)) (fun _ h9 => h9) rfl dX5_turn_75 ?_
        have e_15 : flt = X5_turn_faults flt fst snd pa pb := by rw [X5_turn_faults, if_neg c_3]
        have e_16 : bh = X5_turn_behind bh fst snd pa pb := by rw [X5_turn_behind, if_neg c_3]
        have e_17 : mkd = X5_turn_marked bh mkd fst snd pa pb := by rw [X5_turn_marked, if_neg c_3]
        have e_18 : pa = X5_turn_first pa := by rw [X5_turn_first]
        have e_19 : pb = X5_turn_second pb := by rw [X5_turn_second]
        have e_20 : stp - 1 = X5_turn_steps fst snd stp pa pb := by rw [X5_turn_steps, if_neg c_4, if_pos c_5]
        have hP9 : va_P (dC, dI) vwCl [(h0, .inr (6, [.int 0, .long tl, .int ed, .long eg, .int aw, .long tk, .long un, .ref b1, .int sm, .ref b2, .int frs, .ref b3, .ref b4, .ref b5, .int bts, .ref b6, .int msn, .ref b7, .int (X5_turn_faults flt fst snd pa pb), .int (X5_turn_behind bh fst snd pa pb), .int (X5_turn_marked bh mkd fst snd pa pb), .int sta, .int lvl, .long snc, .long tld, .int (X5_turn_first pa), .int (X5_turn_second pb), .int (X5_turn_steps fst snd stp pa pb)]))] H := by rw [← e_15, ← e_16, ← e_17, ← e_18, ← e_19, ← e_20]; exact hP.sub [0] rfl
        have hD9 : va_D A [(h0, .inr (6, [.int 0, .long tl, .int ed, .long eg, .int aw, .long tk, .long un, .ref b1, .int sm, .ref b2, .int frs, .ref b3, .ref b4, .ref b5, .int bts, .ref b6, .int msn, .ref b7, .int (X5_turn_faults flt fst snd pa pb), .int (X5_turn_behind bh fst snd pa pb), .int (X5_turn_marked bh mkd fst snd pa pb), .int sta, .int lvl, .long snc, .long tld, .int (X5_turn_first pa), .int (X5_turn_second pb), .int (X5_turn_steps fst snd stp pa pb)]))] := by rw [← e_15, ← e_16, ← e_17, ← e_18, ← e_19, ← e_20]; exact hD.sub [0] (by decide) rfl
        have e_21 : stp - 1 = X5_turn_r fst snd stp pa pb := by rw [X5_turn_r, if_neg c_4, if_pos c_5]
        exact W.iret (v := stp - 1) hx hb hr (fun t ht hW => ⟨⟨_, (), rfl, e_21, po.ret ht hW hP9 hK hD9⟩, hS.F ht⟩) hS.2.2 dX5_turn_78
    · refine lv_aload_n hx hb dX5_turn_49 rfl (lv_at hl 1 rfl) ?_
      refine lv_dup hx hb dX5_turn_50 rfl ?_
      refine va_get (D := (dC, dI)) (ci := 6) (v := .int stp) (C := RX5) (T := TX5) (N := 28) hx hb hts iX5 hown hK hP 0 rfl rfl 27 (by decide) (hts (.fieldLink RX5 130 "PulseRowsModel" "steps" "I") (List.mem_of_getElem? (i := 4) rfl)) (fun _ h9 => h9) rfl dX5_turn_51 ?_
      refine lv_iconst (v := 1) hx hb dX5_turn_54 (by decide) ?_
      refine lv_iadd hx hb dX5_turn_55 ?_
      refine va_put (D := (dC, dI)) (ci := 6) (v := .int (stp + 1)) (ty := .int) (C := RX5) (T := TX5) (N := 28) hx hb hts iX5 tyX5 tyX5_ok nmX5 hown hK hP hD hS 0 rfl rfl 27 (by decide) (hts (.fieldLink RX5 130 "PulseRowsModel" "steps" "I") (List.mem_of_getElem? (i := 4) rfl)) (fun _ h9 => h9) rfl (by decide +kernel) rfl rfl (Nat.le_of_ble_eq_true rfl) dX5_turn_56 (fun H locs hP hD hS => ?_)
      have hP : va_P (dC, dI) vwCl [(h0, .inr (6, [.int 0, .long tl, .int ed, .long eg, .int aw, .long tk, .long un, .ref b1, .int sm, .ref b2, .int frs, .ref b3, .ref b4, .ref b5, .int bts, .ref b6, .int msn, .ref b7, .int flt, .int bh, .int mkd, .int sta, .int lvl, .long snc, .long tld, .int pa, .int pb, .int (stp + 1)]))] H := hP
      have hD : va_D A [(h0, .inr (6, [.int 0, .long tl, .int ed, .long eg, .int aw, .long tk, .long un, .ref b1, .int sm, .ref b2, .int frs, .ref b3, .ref b4, .ref b5, .int bts, .ref b6, .int msn, .ref b7, .int flt, .int bh, .int mkd, .int sta, .int lvl, .long snc, .long tld, .int pa, .int pb, .int (stp + 1)]))] := hD
      refine lv_iload_n hx hb dX5_turn_59 rfl (lv_at hl 0 rfl) ?_
      refine lv_iconst (v := 3) hx hb dX5_turn_60 (by decide) ?_
      refine lv_icmp_ne (tgt := 74) hx hb dX5_turn_61 (by decide) (fun c_22 => ?_) (fun c_22 => ?_)
      · refine lv_aload_n hx hb dX5_turn_74 rfl (lv_at hl 1 rfl) ?_
        refine va_get (D := (dC, dI)) (ci := 6) (v := .int (stp + 1)) (C := RX5) (T := TX5) (N := 28) hx hb hts iX5 hown hK hP 0 rfl rfl 27 (by decide) (hts (.fieldLink RX5 130 "PulseRowsModel" "steps" "I") (List.mem_of_getElem? (i := 4) rfl)) (fun _ h9 => h9) rfl dX5_turn_75 ?_
        have e_24 : flt = X5_turn_faults flt fst snd pa pb := by rw [X5_turn_faults, if_neg c_3]
        have e_25 : bh = X5_turn_behind bh fst snd pa pb := by rw [X5_turn_behind, if_neg c_3]
        have e_26 : mkd = X5_turn_marked bh mkd fst snd pa pb := by rw [X5_turn_marked, if_neg c_3]
        have e_27 : pa = X5_turn_first pa := by rw [X5_turn_first]
        have e_28 : pb = X5_turn_second pb := by rw [X5_turn_second]
        have e_29 : stp + 1 = X5_turn_steps fst snd stp pa pb := by rw [X5_turn_steps, if_pos c_4, if_neg c_22]
        have hP9 : va_P (dC, dI) vwCl [(h0, .inr (6, [.int 0, .long tl, .int ed, .long eg, .int aw, .long tk, .long un, .ref b1, .int sm, .ref b2, .int frs, .ref b3, .ref b4, .ref b5, .int bts, .ref b6, .int msn, .ref b7, .int (X5_turn_faults flt fst snd pa pb), .int (X5_turn_behind bh fst snd pa pb), .int (X5_turn_marked bh mkd fst snd pa pb), .int sta, .int lvl, .long snc, .long tld, .int (X5_turn_first pa), .int (X5_turn_second pb), .int (X5_turn_steps fst snd stp pa pb)]))] H := by rw [← e_24, ← e_25, ← e_26, ← e_27, ← e_28, ← e_29]; exact hP.sub [0] rfl
        have hD9 : va_D A [(h0, .inr (6, [.int 0, .long tl, .int ed, .long eg, .int aw, .long tk, .long un, .ref b1, .int sm, .ref b2, .int frs, .ref b3, .ref b4, .ref b5, .int bts, .ref b6, .int msn, .ref b7, .int (X5_turn_faults flt fst snd pa pb), .int (X5_turn_behind bh fst snd pa pb), .int (X5_turn_marked bh mkd fst snd pa pb), .int sta, .int lvl, .long snc, .long tld, .int (X5_turn_first pa), .int (X5_turn_second pb), .int (X5_turn_steps fst snd stp pa pb)]))] := by rw [← e_24, ← e_25, ← e_26, ← e_27, ← e_28, ← e_29]; exact hD.sub [0] (by decide) rfl
        have e_30 : stp + 1 = X5_turn_r fst snd stp pa pb := by rw [X5_turn_r, if_pos c_4, if_neg c_22]
        exact W.iret (v := stp + 1) hx hb hr (fun t ht hW => ⟨⟨_, (), rfl, e_30, po.ret ht hW hP9 hK hD9⟩, hS.F ht⟩) hS.2.2 dX5_turn_78
      · refine lv_aload_n hx hb dX5_turn_64 rfl (lv_at hl 1 rfl) ?_
        refine lv_dup hx hb dX5_turn_65 rfl ?_
        refine va_get (D := (dC, dI)) (ci := 6) (v := .int (stp + 1)) (C := RX5) (T := TX5) (N := 28) hx hb hts iX5 hown hK hP 0 rfl rfl 27 (by decide) (hts (.fieldLink RX5 130 "PulseRowsModel" "steps" "I") (List.mem_of_getElem? (i := 4) rfl)) (fun _ h9 => h9) rfl dX5_turn_66 ?_
        refine lv_iconst (v := 1) hx hb dX5_turn_69 (by decide) ?_
        refine lv_isub hx hb dX5_turn_70 ?_
        refine va_put (D := (dC, dI)) (ci := 6) (v := .int ((stp + 1) - 1)) (ty := .int) (C := RX5) (T := TX5) (N := 28) hx hb hts iX5 tyX5 tyX5_ok nmX5 hown hK hP hD hS 0 rfl rfl 27 (by decide) (hts (.fieldLink RX5 130 "PulseRowsModel" "steps" "I") (List.mem_of_getElem? (i := 4) rfl)) (fun _ h9 => h9) rfl (by decide +kernel) rfl rfl (Nat.le_of_ble_eq_true rfl) dX5_turn_71 (fun H locs hP hD hS => ?_)
        have hP : va_P (dC, dI) vwCl [(h0, .inr (6, [.int 0, .long tl, .int ed, .long eg, .int aw, .long tk, .long un, .ref b1, .int sm, .ref b2, .int frs, .ref b3, .ref b4, .ref b5, .int bts, .ref b6, .int msn, .ref b7, .int flt, .int bh, .int mkd, .int sta, .int lvl, .long snc, .long tld, .int pa, .int pb, .int ((stp + 1) - 1)]))] H := hP
        have hD : va_D A [(h0, .inr (6, [.int 0, .long tl, .int ed, .long eg, .int aw, .long tk, .long un, .ref b1, .int sm, .ref b2, .int frs, .ref b3, .ref b4, .ref b5, .int bts, .ref b6, .int msn, .ref b7, .int flt, .int bh, .int mkd, .int sta, .int lvl, .long snc, .long tld, .int pa, .int pb, .int ((stp + 1) - 1)]))] := hD
        refine lv_aload_n hx hb dX5_turn_74 rfl (lv_at hl 1 rfl) ?_
        refine va_get (D := (dC, dI)) (ci := 6) (v := .int ((stp + 1) - 1)) (C := RX5) (T := TX5) (N := 28) hx hb hts iX5 hown hK hP 0 rfl rfl 27 (by decide) (hts (.fieldLink RX5 130 "PulseRowsModel" "steps" "I") (List.mem_of_getElem? (i := 4) rfl)) (fun _ h9 => h9) rfl dX5_turn_75 ?_
        have e_32 : flt = X5_turn_faults flt fst snd pa pb := by rw [X5_turn_faults, if_neg c_3]
        have e_33 : bh = X5_turn_behind bh fst snd pa pb := by rw [X5_turn_behind, if_neg c_3]
        have e_34 : mkd = X5_turn_marked bh mkd fst snd pa pb := by rw [X5_turn_marked, if_neg c_3]
        have e_35 : pa = X5_turn_first pa := by rw [X5_turn_first]
        have e_36 : pb = X5_turn_second pb := by rw [X5_turn_second]
        have e_37 : (stp + 1) - 1 = X5_turn_steps fst snd stp pa pb := by rw [X5_turn_steps, if_pos c_4, if_pos c_22]
        have hP9 : va_P (dC, dI) vwCl [(h0, .inr (6, [.int 0, .long tl, .int ed, .long eg, .int aw, .long tk, .long un, .ref b1, .int sm, .ref b2, .int frs, .ref b3, .ref b4, .ref b5, .int bts, .ref b6, .int msn, .ref b7, .int (X5_turn_faults flt fst snd pa pb), .int (X5_turn_behind bh fst snd pa pb), .int (X5_turn_marked bh mkd fst snd pa pb), .int sta, .int lvl, .long snc, .long tld, .int (X5_turn_first pa), .int (X5_turn_second pb), .int (X5_turn_steps fst snd stp pa pb)]))] H := by rw [← e_32, ← e_33, ← e_34, ← e_35, ← e_36, ← e_37]; exact hP.sub [0] rfl
        have hD9 : va_D A [(h0, .inr (6, [.int 0, .long tl, .int ed, .long eg, .int aw, .long tk, .long un, .ref b1, .int sm, .ref b2, .int frs, .ref b3, .ref b4, .ref b5, .int bts, .ref b6, .int msn, .ref b7, .int (X5_turn_faults flt fst snd pa pb), .int (X5_turn_behind bh fst snd pa pb), .int (X5_turn_marked bh mkd fst snd pa pb), .int sta, .int lvl, .long snc, .long tld, .int (X5_turn_first pa), .int (X5_turn_second pb), .int (X5_turn_steps fst snd stp pa pb)]))] := by rw [← e_32, ← e_33, ← e_34, ← e_35, ← e_36, ← e_37]; exact hD.sub [0] (by decide) rfl
        have e_38 : (stp + 1) - 1 = X5_turn_r fst snd stp pa pb := by rw [X5_turn_r, if_pos c_4, if_pos c_22]
        exact W.iret (v := (stp + 1) - 1) hx hb hr (fun t ht hW => ⟨⟨_, (), rfl, e_38, po.ret ht hW hP9 hK hD9⟩, hS.F ht⟩) hS.2.2 dX5_turn_78
  · refine lv_aload_n hx hb dX5_turn_40 rfl (lv_at hl 1 rfl) ?_
    have hPc := hP.sub (ws' := [(h0, .inr (6, [.int 0, .long tl, .int ed, .long eg, .int aw, .long tk, .long un, .ref b1, .int sm, .ref b2, .int frs, .ref b3, .ref b4, .ref b5, .int bts, .ref b6, .int msn, .ref b7, .int flt, .int bh, .int mkd, .int sta, .int lvl, .long snc, .long tld, .int pa, .int pb, .int stp]))]) [0] rfl
    have hDc := hD.sub (ws' := [(h0, .inr (6, [.int 0, .long tl, .int ed, .long eg, .int aw, .long tk, .long un, .ref b1, .int sm, .ref b2, .int frs, .ref b3, .ref b4, .ref b5, .int bts, .ref b6, .int msn, .ref b7, .int flt, .int bh, .int mkd, .int sta, .int lvl, .long snc, .long tld, .int pa, .int pb, .int stp]))]) [0] (by decide) rfl
    have hKc := hK.sub (tys' := []) [] rfl
    have hFc := va_free (wc := [(h0, .inr (6, [.int 0, .long tl, .int ed, .long eg, .int aw, .long tk, .long un, .ref b1, .int sm, .ref b2, .int frs, .ref b3, .ref b4, .ref b5, .int bts, .ref b6, .int msn, .ref b7, .int flt, .int bh, .int mkd, .int sta, .int lvl, .long snc, .long tld, .int pa, .int pb, .int stp]))]) hD hS hA [0] rfl
    refine va_callv (va_runV (As := []) (rest := []) ⟨hx, hb, hml, hown, hts⟩ (k_X5_fault l dC dI H.size h0 0 tl ed eg aw tk un b1 sm b2 frs b3 b4 b5 bts b6 msn b7 flt bh mkd sta lvl snc tld pa pb stp) (cwV 0 hts gX5_turn_X5_fault rfl rfl rfl (by decide +kernel) ⟨Nat.le_of_ble_eq_true rfl, Nat.le_of_ble_eq_true rfl⟩) ⟨pr.blind, va_recv hKc hPc (ci := 6) (q0 := 0) rfl rfl, fun U hU hW => ⟨rfl, pr.call hU hW hPc hKc hDc⟩⟩ rfl rfl hl.1 rfl (lv_room (Nat.le_of_ble_eq_true rfl)) dX5_turn_41 ⟨Nat.le_of_ble_eq_true rfl, Nat.le_of_ble_eq_true rfl⟩) hS (fun q _ h => hFc q h) hFc (fun u t H1 locs ht hvm hw hB hz1 hk1 hS => ?_)
    obtain ⟨hP, hD⟩ := po.join (wr := []) hP hD [0] [] rfl rfl (by decide) (by decide) hk1 hFc ht hB
    generalize H1 = H at hP hS ⊢
    clear ht hvm hB hz1 hk1 hPc hDc hKc hFc
    have hP : va_P (dC, dI) vwCl [(h0, .inr (6, [.int 0, .long tl, .int ed, .long eg, .int aw, .long tk, .long un, .ref b1, .int sm, .ref b2, .int frs, .ref b3, .ref b4, .ref b5, .int bts, .ref b6, .int msn, .ref b7, .int (X5_fault_faults flt), .int (X5_fault_behind bh), .int (X5_fault_marked bh mkd), .int sta, .int lvl, .long snc, .long tld, .int pa, .int pb, .int stp]))] H := hP
    have hD : va_D A [(h0, .inr (6, [.int 0, .long tl, .int ed, .long eg, .int aw, .long tk, .long un, .ref b1, .int sm, .ref b2, .int frs, .ref b3, .ref b4, .ref b5, .int bts, .ref b6, .int msn, .ref b7, .int (X5_fault_faults flt), .int (X5_fault_behind bh), .int (X5_fault_marked bh mkd), .int sta, .int lvl, .long snc, .long tld, .int pa, .int pb, .int stp]))] := hD
    refine W.widen (k := 0) (n := 0) (Nat.le_of_ble_eq_true rfl) (Nat.le_of_ble_eq_true rfl) ?_
    refine lv_iload_n hx hb dX5_turn_44 rfl (lv_at hl 0 rfl) ?_
    refine lv_iconst (v := 1) hx hb dX5_turn_45 (by decide) ?_
    refine lv_icmp_ne (tgt := 59) hx hb dX5_turn_46 (by decide) (fun c_40 => ?_) (fun c_40 => ?_)
    · refine lv_iload_n hx hb dX5_turn_59 rfl (lv_at hl 0 rfl) ?_
      refine lv_iconst (v := 3) hx hb dX5_turn_60 (by decide) ?_
      refine lv_icmp_ne (tgt := 74) hx hb dX5_turn_61 (by decide) (fun c_41 => ?_) (fun c_41 => ?_)
      · refine lv_aload_n hx hb dX5_turn_74 rfl (lv_at hl 1 rfl) ?_
        refine va_get (D := (dC, dI)) (ci := 6) (v := .int stp) (C := RX5) (T := TX5) (N := 28) hx hb hts iX5 hown hK hP 0 rfl rfl 27 (by decide) (hts (.fieldLink RX5 130 "PulseRowsModel" "steps" "I") (List.mem_of_getElem? (i := 4) rfl)) (fun _ h9 => h9) rfl dX5_turn_75 ?_
        have e_43 : X5_fault_faults flt = X5_turn_faults flt fst snd pa pb := by rw [X5_turn_faults, if_pos c_3]
        have e_44 : X5_fault_behind bh = X5_turn_behind bh fst snd pa pb := by rw [X5_turn_behind, if_pos c_3]
        have e_45 : X5_fault_marked bh mkd = X5_turn_marked bh mkd fst snd pa pb := by rw [X5_turn_marked, if_pos c_3]
        have e_46 : pa = X5_turn_first pa := by rw [X5_turn_first]
        have e_47 : pb = X5_turn_second pb := by rw [X5_turn_second]
        have e_48 : stp = X5_turn_steps fst snd stp pa pb := by rw [X5_turn_steps, if_neg c_40, if_neg c_41]
        have hP9 : va_P (dC, dI) vwCl [(h0, .inr (6, [.int 0, .long tl, .int ed, .long eg, .int aw, .long tk, .long un, .ref b1, .int sm, .ref b2, .int frs, .ref b3, .ref b4, .ref b5, .int bts, .ref b6, .int msn, .ref b7, .int (X5_turn_faults flt fst snd pa pb), .int (X5_turn_behind bh fst snd pa pb), .int (X5_turn_marked bh mkd fst snd pa pb), .int sta, .int lvl, .long snc, .long tld, .int (X5_turn_first pa), .int (X5_turn_second pb), .int (X5_turn_steps fst snd stp pa pb)]))] H := by rw [← e_43, ← e_44, ← e_45, ← e_46, ← e_47, ← e_48]; exact hP.sub [0] rfl
        have hD9 : va_D A [(h0, .inr (6, [.int 0, .long tl, .int ed, .long eg, .int aw, .long tk, .long un, .ref b1, .int sm, .ref b2, .int frs, .ref b3, .ref b4, .ref b5, .int bts, .ref b6, .int msn, .ref b7, .int (X5_turn_faults flt fst snd pa pb), .int (X5_turn_behind bh fst snd pa pb), .int (X5_turn_marked bh mkd fst snd pa pb), .int sta, .int lvl, .long snc, .long tld, .int (X5_turn_first pa), .int (X5_turn_second pb), .int (X5_turn_steps fst snd stp pa pb)]))] := by rw [← e_43, ← e_44, ← e_45, ← e_46, ← e_47, ← e_48]; exact hD.sub [0] (by decide) rfl
        have e_49 : stp = X5_turn_r fst snd stp pa pb := by rw [X5_turn_r, if_neg c_40, if_neg c_41]
        exact W.iret (v := stp) hx hb hr (fun t ht hW => ⟨⟨_, (), rfl, e_49, po.ret ht hW hP9 hK hD9⟩, hS.F ht⟩) hS.2.2 dX5_turn_78
      · refine lv_aload_n hx hb dX5_turn_64 rfl (lv_at hl 1 rfl) ?_
        refine lv_dup hx hb dX5_turn_65 rfl ?_
        refine va_get (D := (dC, dI)) (ci := 6) (v := .int stp) (C := RX5) (T := TX5) (N := 28) hx hb hts iX5 hown hK hP 0 rfl rfl 27 (by decide) (hts (.fieldLink RX5 130 "PulseRowsModel" "steps" "I") (List.mem_of_getElem? (i := 4) rfl)) (fun _ h9 => h9) rfl dX5_turn_66 ?_
        refine lv_iconst (v := 1) hx hb dX5_turn_69 (by decide) ?_
        refine lv_isub hx hb dX5_turn_70 ?_
        refine va_put (D := (dC, dI)) (ci := 6) (v := .int (stp - 1)) (ty := .int) (C := RX5) (T := TX5) (N := 28) hx hb hts iX5 tyX5 tyX5_ok nmX5 hown hK hP hD hS 0 rfl rfl 27 (by decide) (hts (.fieldLink RX5 130 "PulseRowsModel" "steps" "I") (List.mem_of_getElem? (i := 4) rfl)) (fun _ h9 => h9) rfl (by decide +kernel) rfl rfl (Nat.le_of_ble_eq_true rfl) dX5_turn_71 (fun H locs hP hD hS => ?_)
        have hP : va_P (dC, dI) vwCl [(h0, .inr (6, [.int 0, .long tl, .int ed, .long eg, .int aw, .long tk, .long un, .ref b1, .int sm, .ref b2, .int frs, .ref b3, .ref b4, .ref b5, .int bts, .ref b6, .int msn, .ref b7, .int (X5_fault_faults flt), .int (X5_fault_behind bh), .int (X5_fault_marked bh mkd), .int sta, .int lvl, .long snc, .long tld, .int pa, .int pb, .int (stp - 1)]))] H := hP
        have hD : va_D A [(h0, .inr (6, [.int 0, .long tl, .int ed, .long eg, .int aw, .long tk, .long un, .ref b1, .int sm, .ref b2, .int frs, .ref b3, .ref b4, .ref b5, .int bts, .ref b6, .int msn, .ref b7, .int (X5_fault_faults flt), .int (X5_fault_behind bh), .int (X5_fault_marked bh mkd), .int sta, .int lvl, .long snc, .long tld, .int pa, .int pb, .int (stp - 1)]))] := hD
        refine lv_aload_n hx hb dX5_turn_74 rfl (lv_at hl 1 rfl) ?_
        refine va_get (D := (dC, dI)) (ci := 6) (v := .int (stp - 1)) (C := RX5) (T := TX5) (N := 28) hx hb hts iX5 hown hK hP 0 rfl rfl 27 (by decide) (hts (.fieldLink RX5 130 "PulseRowsModel" "steps" "I") (List.mem_of_getElem? (i := 4) rfl)) (fun _ h9 => h9) rfl dX5_turn_75 ?_
        have e_51 : X5_fault_faults flt = X5_turn_faults flt fst snd pa pb := by rw [X5_turn_faults, if_pos c_3]
        have e_52 : X5_fault_behind bh = X5_turn_behind bh fst snd pa pb := by rw [X5_turn_behind, if_pos c_3]
        have e_53 : X5_fault_marked bh mkd = X5_turn_marked bh mkd fst snd pa pb := by rw [X5_turn_marked, if_pos c_3]
        have e_54 : pa = X5_turn_first pa := by rw [X5_turn_first]
        have e_55 : pb = X5_turn_second pb := by rw [X5_turn_second]
        have e_56 : stp - 1 = X5_turn_steps fst snd stp pa pb := by rw [X5_turn_steps, if_neg c_40, if_pos c_41]
        have hP9 : va_P (dC, dI) vwCl [(h0, .inr (6, [.int 0, .long tl, .int ed, .long eg, .int aw, .long tk, .long un, .ref b1, .int sm, .ref b2, .int frs, .ref b3, .ref b4, .ref b5, .int bts, .ref b6, .int msn, .ref b7, .int (X5_turn_faults flt fst snd pa pb), .int (X5_turn_behind bh fst snd pa pb), .int (X5_turn_marked bh mkd fst snd pa pb), .int sta, .int lvl, .long snc, .long tld, .int (X5_turn_first pa), .int (X5_turn_second pb), .int (X5_turn_steps fst snd stp pa pb)]))] H := by rw [← e_51, ← e_52, ← e_53, ← e_54, ← e_55, ← e_56]; exact hP.sub [0] rfl
        have hD9 : va_D A [(h0, .inr (6, [.int 0, .long tl, .int ed, .long eg, .int aw, .long tk, .long un, .ref b1, .int sm, .ref b2, .int frs, .ref b3, .ref b4, .ref b5, .int bts, .ref b6, .int msn, .ref b7, .int (X5_turn_faults flt fst snd pa pb), .int (X5_turn_behind bh fst snd pa pb), .int (X5_turn_marked bh mkd fst snd pa pb), .int sta, .int lvl, .long snc, .long tld, .int (X5_turn_first pa), .int (X5_turn_second pb), .int (X5_turn_steps fst snd stp pa pb)]))] := by rw [← e_51, ← e_52, ← e_53, ← e_54, ← e_55, ← e_56]; exact hD.sub [0] (by decide) rfl
        have e_57 : stp - 1 = X5_turn_r fst snd stp pa pb := by rw [X5_turn_r, if_neg c_40, if_pos c_41]
        exact W.iret (v := stp - 1) hx hb hr (fun t ht hW => ⟨⟨_, (), rfl, e_57, po.ret ht hW hP9 hK hD9⟩, hS.F ht⟩) hS.2.2 dX5_turn_78
    · refine lv_aload_n hx hb dX5_turn_49 rfl (lv_at hl 1 rfl) ?_
      refine lv_dup hx hb dX5_turn_50 rfl ?_
      refine va_get (D := (dC, dI)) (ci := 6) (v := .int stp) (C := RX5) (T := TX5) (N := 28) hx hb hts iX5 hown hK hP 0 rfl rfl 27 (by decide) (hts (.fieldLink RX5 130 "PulseRowsModel" "steps" "I") (List.mem_of_getElem? (i := 4) rfl)) (fun _ h9 => h9) rfl dX5_turn_51 ?_
      refine lv_iconst (v := 1) hx hb dX5_turn_54 (by decide) ?_
      refine lv_iadd hx hb dX5_turn_55 ?_
      refine va_put (D := (dC, dI)) (ci := 6) (v := .int (stp + 1)) (ty := .int) (C := RX5) (T := TX5) (N := 28) hx hb hts iX5 tyX5 tyX5_ok nmX5 hown hK hP hD hS 0 rfl rfl 27 (by decide) (hts (.fieldLink RX5 130 "PulseRowsModel" "steps" "I") (List.mem_of_getElem? (i := 4) rfl)) (fun _ h9 => h9) rfl (by decide +kernel) rfl rfl (Nat.le_of_ble_eq_true rfl) dX5_turn_56 (fun H locs hP hD hS => ?_)
      have hP : va_P (dC, dI) vwCl [(h0, .inr (6, [.int 0, .long tl, .int ed, .long eg, .int aw, .long tk, .long un, .ref b1, .int sm, .ref b2, .int frs, .ref b3, .ref b4, .ref b5, .int bts, .ref b6, .int msn, .ref b7, .int (X5_fault_faults flt), .int (X5_fault_behind bh), .int (X5_fault_marked bh mkd), .int sta, .int lvl, .long snc, .long tld, .int pa, .int pb, .int (stp + 1)]))] H := hP
      have hD : va_D A [(h0, .inr (6, [.int 0, .long tl, .int ed, .long eg, .int aw, .long tk, .long un, .ref b1, .int sm, .ref b2, .int frs, .ref b3, .ref b4, .ref b5, .int bts, .ref b6, .int msn, .ref b7, .int (X5_fault_faults flt), .int (X5_fault_behind bh), .int (X5_fault_marked bh mkd), .int sta, .int lvl, .long snc, .long tld, .int pa, .int pb, .int (stp + 1)]))] := hD
      refine lv_iload_n hx hb dX5_turn_59 rfl (lv_at hl 0 rfl) ?_
      refine lv_iconst (v := 3) hx hb dX5_turn_60 (by decide) ?_
      refine lv_icmp_ne (tgt := 74) hx hb dX5_turn_61 (by decide) (fun c_58 => ?_) (fun c_58 => ?_)
      · refine lv_aload_n hx hb dX5_turn_74 rfl (lv_at hl 1 rfl) ?_
        refine va_get (D := (dC, dI)) (ci := 6) (v := .int (stp + 1)) (C := RX5) (T := TX5) (N := 28) hx hb hts iX5 hown hK hP 0 rfl rfl 27 (by decide) (hts (.fieldLink RX5 130 "PulseRowsModel" "steps" "I") (List.mem_of_getElem? (i := 4) rfl)) (fun _ h9 => h9) rfl dX5_turn_75 ?_
        have e_60 : X5_fault_faults flt = X5_turn_faults flt fst snd pa pb := by rw [X5_turn_faults, if_pos c_3]
        have e_61 : X5_fault_behind bh = X5_turn_behind bh fst snd pa pb := by rw [X5_turn_behind, if_pos c_3]
        have e_62 : X5_fault_marked bh mkd = X5_turn_marked bh mkd fst snd pa pb := by rw [X5_turn_marked, if_pos c_3]
        have e_63 : pa = X5_turn_first pa := by rw [X5_turn_first]
        have e_64 : pb = X5_turn_second pb := by rw [X5_turn_second]
        have e_65 : stp + 1 = X5_turn_steps fst snd stp pa pb := by rw [X5_turn_steps, if_pos c_40, if_neg c_58]
        have hP9 : va_P (dC, dI) vwCl [(h0, .inr (6, [.int 0, .long tl, .int ed, .long eg, .int aw, .long tk, .long un, .ref b1, .int sm, .ref b2, .int frs, .ref b3, .ref b4, .ref b5, .int bts, .ref b6, .int msn, .ref b7, .int (X5_turn_faults flt fst snd pa pb), .int (X5_turn_behind bh fst snd pa pb), .int (X5_turn_marked bh mkd fst snd pa pb), .int sta, .int lvl, .long snc, .long tld, .int (X5_turn_first pa), .int (X5_turn_second pb), .int (X5_turn_steps fst snd stp pa pb)]))] H := by rw [← e_60, ← e_61, ← e_62, ← e_63, ← e_64, ← e_65]; exact hP.sub [0] rfl
        have hD9 : va_D A [(h0, .inr (6, [.int 0, .long tl, .int ed, .long eg, .int aw, .long tk, .long un, .ref b1, .int sm, .ref b2, .int frs, .ref b3, .ref b4, .ref b5, .int bts, .ref b6, .int msn, .ref b7, .int (X5_turn_faults flt fst snd pa pb), .int (X5_turn_behind bh fst snd pa pb), .int (X5_turn_marked bh mkd fst snd pa pb), .int sta, .int lvl, .long snc, .long tld, .int (X5_turn_first pa), .int (X5_turn_second pb), .int (X5_turn_steps fst snd stp pa pb)]))] := by rw [← e_60, ← e_61, ← e_62, ← e_63, ← e_64, ← e_65]; exact hD.sub [0] (by decide) rfl
        have e_66 : stp + 1 = X5_turn_r fst snd stp pa pb := by rw [X5_turn_r, if_pos c_40, if_neg c_58]
        exact W.iret (v := stp + 1) hx hb hr (fun t ht hW => ⟨⟨_, (), rfl, e_66, po.ret ht hW hP9 hK hD9⟩, hS.F ht⟩) hS.2.2 dX5_turn_78
      · refine lv_aload_n hx hb dX5_turn_64 rfl (lv_at hl 1 rfl) ?_
        refine lv_dup hx hb dX5_turn_65 rfl ?_
        refine va_get (D := (dC, dI)) (ci := 6) (v := .int (stp + 1)) (C := RX5) (T := TX5) (N := 28) hx hb hts iX5 hown hK hP 0 rfl rfl 27 (by decide) (hts (.fieldLink RX5 130 "PulseRowsModel" "steps" "I") (List.mem_of_getElem? (i := 4) rfl)) (fun _ h9 => h9) rfl dX5_turn_66 ?_
        refine lv_iconst (v := 1) hx hb dX5_turn_69 (by decide) ?_
        refine lv_isub hx hb dX5_turn_70 ?_
        refine va_put (D := (dC, dI)) (ci := 6) (v := .int ((stp + 1) - 1)) (ty := .int) (C := RX5) (T := TX5) (N := 28) hx hb hts iX5 tyX5 tyX5_ok nmX5 hown hK hP hD hS 0 rfl rfl 27 (by decide) (hts (.fieldLink RX5 130 "PulseRowsModel" "steps" "I") (List.mem_of_getElem? (i := 4) rfl)) (fun _ h9 => h9) rfl (by decide +kernel) rfl rfl (Nat.le_of_ble_eq_true rfl) dX5_turn_71 (fun H locs hP hD hS => ?_)
        have hP : va_P (dC, dI) vwCl [(h0, .inr (6, [.int 0, .long tl, .int ed, .long eg, .int aw, .long tk, .long un, .ref b1, .int sm, .ref b2, .int frs, .ref b3, .ref b4, .ref b5, .int bts, .ref b6, .int msn, .ref b7, .int (X5_fault_faults flt), .int (X5_fault_behind bh), .int (X5_fault_marked bh mkd), .int sta, .int lvl, .long snc, .long tld, .int pa, .int pb, .int ((stp + 1) - 1)]))] H := hP
        have hD : va_D A [(h0, .inr (6, [.int 0, .long tl, .int ed, .long eg, .int aw, .long tk, .long un, .ref b1, .int sm, .ref b2, .int frs, .ref b3, .ref b4, .ref b5, .int bts, .ref b6, .int msn, .ref b7, .int (X5_fault_faults flt), .int (X5_fault_behind bh), .int (X5_fault_marked bh mkd), .int sta, .int lvl, .long snc, .long tld, .int pa, .int pb, .int ((stp + 1) - 1)]))] := hD
        refine lv_aload_n hx hb dX5_turn_74 rfl (lv_at hl 1 rfl) ?_
        refine va_get (D := (dC, dI)) (ci := 6) (v := .int ((stp + 1) - 1)) (C := RX5) (T := TX5) (N := 28) hx hb hts iX5 hown hK hP 0 rfl rfl 27 (by decide) (hts (.fieldLink RX5 130 "PulseRowsModel" "steps" "I") (List.mem_of_getElem? (i := 4) rfl)) (fun _ h9 => h9) rfl dX5_turn_75 ?_
        have e_68 : X5_fault_faults flt = X5_turn_faults flt fst snd pa pb := by rw [X5_turn_faults, if_pos c_3]
        have e_69 : X5_fault_behind bh = X5_turn_behind bh fst snd pa pb := by rw [X5_turn_behind, if_pos c_3]
        have e_70 : X5_fault_marked bh mkd = X5_turn_marked bh mkd fst snd pa pb := by rw [X5_turn_marked, if_pos c_3]
        have e_71 : pa = X5_turn_first pa := by rw [X5_turn_first]
        have e_72 : pb = X5_turn_second pb := by rw [X5_turn_second]
        have e_73 : (stp + 1) - 1 = X5_turn_steps fst snd stp pa pb := by rw [X5_turn_steps, if_pos c_40, if_pos c_58]
        have hP9 : va_P (dC, dI) vwCl [(h0, .inr (6, [.int 0, .long tl, .int ed, .long eg, .int aw, .long tk, .long un, .ref b1, .int sm, .ref b2, .int frs, .ref b3, .ref b4, .ref b5, .int bts, .ref b6, .int msn, .ref b7, .int (X5_turn_faults flt fst snd pa pb), .int (X5_turn_behind bh fst snd pa pb), .int (X5_turn_marked bh mkd fst snd pa pb), .int sta, .int lvl, .long snc, .long tld, .int (X5_turn_first pa), .int (X5_turn_second pb), .int (X5_turn_steps fst snd stp pa pb)]))] H := by rw [← e_68, ← e_69, ← e_70, ← e_71, ← e_72, ← e_73]; exact hP.sub [0] rfl
        have hD9 : va_D A [(h0, .inr (6, [.int 0, .long tl, .int ed, .long eg, .int aw, .long tk, .long un, .ref b1, .int sm, .ref b2, .int frs, .ref b3, .ref b4, .ref b5, .int bts, .ref b6, .int msn, .ref b7, .int (X5_turn_faults flt fst snd pa pb), .int (X5_turn_behind bh fst snd pa pb), .int (X5_turn_marked bh mkd fst snd pa pb), .int sta, .int lvl, .long snc, .long tld, .int (X5_turn_first pa), .int (X5_turn_second pb), .int (X5_turn_steps fst snd stp pa pb)]))] := by rw [← e_68, ← e_69, ← e_70, ← e_71, ← e_72, ← e_73]; exact hD.sub [0] (by decide) rfl
        have e_74 : (stp + 1) - 1 = X5_turn_r fst snd stp pa pb := by rw [X5_turn_r, if_pos c_40, if_pos c_58]
        exact W.iret (v := (stp + 1) - 1) hx hb hr (fun t ht hW => ⟨⟨_, (), rfl, e_74, po.ret ht hW hP9 hK hD9⟩, hS.F ht⟩) hS.2.2 dX5_turn_78
def X5_faults_r (flt : Int32) : Int32 := flt
set_option maxHeartbeats 4000000 in
set_option maxRecDepth 100000 in
theorem k_X5_faults (l : Launch) (dC : Nat → ClassId) (dI : Nat → Nat → Nat) (sz : Nat) (h0 : Nat) (cd : Int32) (tl : Int64) (ed : Int32) (eg : Int64) (aw : Int32) (tk : Int64) (un : Int64) (b1 : Nat) (sm : Int32) (b2 : Nat) (frs : Int32) (b3 : Nat) (b4 : Nat) (b5 : Nat) (bts : Int32) (b6 : Nat) (msn : Int32) (b7 : Nat) (flt : Int32) (bh : Int32) (mkd : Int32) (sta : Int32) (lvl : Int32) (snc : Int64) (tld : Int64) (fst : Int32) (snd : Int32) (stp : Int32)  : Met l yX5_faults wsX5_faults ({ frames := 0, cells := 0, slots := 0, locals := 0 }) (va_Pc [.ref h0] (pr (dC, dI) [] [(h0, .inr (6, [.int cd, .long tl, .int ed, .long eg, .int aw, .long tk, .long un, .ref b1, .int sm, .ref b2, .int frs, .ref b3, .ref b4, .ref b5, .int bts, .ref b6, .int msn, .ref b7, .int flt, .int bh, .int mkd, .int sta, .int lvl, .long snc, .long tld, .int fst, .int snd, .int stp]))] sz)) (va_Qi (fun (r : Int32) (_ : Unit) => r = X5_faults_r flt) (fun _ t => po (dC, dI) [] (va_A [(h0, .inr (6, [.int cd, .long tl, .int ed, .long eg, .int aw, .long tk, .long un, .ref b1, .int sm, .ref b2, .int frs, .ref b3, .ref b4, .ref b5, .int bts, .ref b6, .int msn, .ref b7, .int flt, .int bh, .int mkd, .int sta, .int lvl, .long snc, .long tld, .int fst, .int snd, .int stp]))] sz) [(h0, .inr (6, [.int 0, .long tl, .int ed, .long eg, .int aw, .long tk, .long un, .ref b1, .int sm, .ref b2, .int frs, .ref b3, .ref b4, .ref b5, .int bts, .ref b6, .int msn, .ref b7, .int flt, .int bh, .int mkd, .int sta, .int lvl, .long snc, .long tld, .int fst, .int snd, .int stp]))] t) (va_A [(h0, .inr (6, [.int cd, .long tl, .int ed, .long eg, .int aw, .long tk, .long un, .ref b1, .int sm, .ref b2, .int frs, .ref b3, .ref b4, .ref b5, .int bts, .ref b6, .int msn, .ref b7, .int flt, .int bh, .int mkd, .int sta, .int lvl, .long snc, .long tld, .int fst, .int snd, .int stp]))] sz)) 0 0 (va_A [(h0, .inr (6, [.int cd, .long tl, .int ed, .long eg, .int aw, .long tk, .long un, .ref b1, .int sm, .ref b2, .int frs, .ref b3, .ref b4, .ref b5, .int bts, .ref b6, .int msn, .ref b7, .int flt, .int bh, .int mkd, .int sta, .int lvl, .long snc, .long tld, .int fst, .int snd, .int stp]))] sz) := by
  refine Met.ofW (cc := cX5_faults) (maxL := 1) (ret := (some .int)) (by decide) rfl ?_
  intro p e s m args below meth c s₁ B hml hv
  obtain ⟨rfl, hsz, hP, hK, hD0⟩ := hv
  have hx := B.exec
  have hb := B.bytes
  have hr := B.returns
  have hts := atoms_spec (ws := wsX5_faults) B.pre
  have hown : s.vm.findClass RX5 = some m.cls := findClass_of_methodNamed B.named
  have hlocks := B.notSynchronized
  subst hsz
  have hD := hD0.self (sz := s.heap.size)
  generalize hAe : va_A [(h0, .inr (6, [.int cd, .long tl, .int ed, .long eg, .int aw, .long tk, .long un, .ref b1, .int sm, .ref b2, .int frs, .ref b3, .ref b4, .ref b5, .int bts, .ref b6, .int msn, .ref b7, .int flt, .int bh, .int mkd, .int sta, .int lvl, .long snc, .long tld, .int fst, .int snd, .int stp]))] s.heap.size = A at hD ⊢
  have hA : ∀ q : Nat, s.heap.size ≤ q → A q := fun q h => by rw [← hAe]; exact Or.inr h
  have hS : va_S A s.heap s.heap [] := va_S.rf
  have hP : va_P (dC, dI) vwCl [(h0, .inr (6, [.int cd, .long tl, .int ed, .long eg, .int aw, .long tk, .long un, .ref b1, .int sm, .ref b2, .int frs, .ref b3, .ref b4, .ref b5, .int bts, .ref b6, .int msn, .ref b7, .int flt, .int bh, .int mkd, .int sta, .int lvl, .long snc, .long tld, .int fst, .int snd, .int stp]))] s.heap := hP
  have iX5 : ∀ w ∈ wsX50, w ∈ wsX5_faults := by decide +kernel
  have hl := lv_entry ([.ref h0]) (n := 1) (Nat.le_of_ble_eq_true rfl)
  rw [lg_entry_eq]
  generalize (lg_sl ([.ref h0]) ++ List.replicate (1 - (lg_sl ([.ref h0])).length) Slot.unset).toArray = ls at hl ⊢
  have hl : lv_has ls 1 [(0, .ref h0)] := hl
  refine lv_aload_n hx hb dX5_faults_0 rfl (lv_at hl 0 rfl) ?_
  refine lv_iconst (v := 0) hx hb dX5_faults_1 (by decide) ?_
  refine va_put (D := (dC, dI)) (ci := 6) (v := .int 0) (ty := .int) (C := RX5) (T := TX5) (N := 28) hx hb hts iX5 tyX5 tyX5_ok nmX5 hown hK hP hD hS 0 rfl rfl 0 (by decide) (hts (.fieldLink RX5 42 "PulseRowsModel" "code" "I") (List.mem_of_getElem? (i := 1) rfl)) (fun _ h9 => h9) rfl (by decide +kernel) rfl rfl (Nat.le_of_ble_eq_true rfl) dX5_faults_2 (fun H locs hP hD hS => ?_)
  have hP : va_P (dC, dI) vwCl [(h0, .inr (6, [.int 0, .long tl, .int ed, .long eg, .int aw, .long tk, .long un, .ref b1, .int sm, .ref b2, .int frs, .ref b3, .ref b4, .ref b5, .int bts, .ref b6, .int msn, .ref b7, .int flt, .int bh, .int mkd, .int sta, .int lvl, .long snc, .long tld, .int fst, .int snd, .int stp]))] H := hP
  have hD : va_D A [(h0, .inr (6, [.int 0, .long tl, .int ed, .long eg, .int aw, .long tk, .long un, .ref b1, .int sm, .ref b2, .int frs, .ref b3, .ref b4, .ref b5, .int bts, .ref b6, .int msn, .ref b7, .int flt, .int bh, .int mkd, .int sta, .int lvl, .long snc, .long tld, .int fst, .int snd, .int stp]))] := hD
  refine lv_aload_n hx hb dX5_faults_5 rfl (lv_at hl 0 rfl) ?_
  refine va_get (D := (dC, dI)) (ci := 6) (v := .int flt) (C := RX5) (T := TX5) (N := 28) hx hb hts iX5 hown hK hP 0 rfl rfl 18 (by decide) (hts (.fieldLink RX5 54 "PulseRowsModel" "faults" "I") (List.mem_of_getElem? (i := 2) rfl)) (fun _ h9 => h9) rfl dX5_faults_6 ?_
  have hP9 : va_P (dC, dI) vwCl [(h0, .inr (6, [.int 0, .long tl, .int ed, .long eg, .int aw, .long tk, .long un, .ref b1, .int sm, .ref b2, .int frs, .ref b3, .ref b4, .ref b5, .int bts, .ref b6, .int msn, .ref b7, .int flt, .int bh, .int mkd, .int sta, .int lvl, .long snc, .long tld, .int fst, .int snd, .int stp]))] H := by exact hP.sub [0] rfl
  have hD9 : va_D A [(h0, .inr (6, [.int 0, .long tl, .int ed, .long eg, .int aw, .long tk, .long un, .ref b1, .int sm, .ref b2, .int frs, .ref b3, .ref b4, .ref b5, .int bts, .ref b6, .int msn, .ref b7, .int flt, .int bh, .int mkd, .int sta, .int lvl, .long snc, .long tld, .int fst, .int snd, .int stp]))] := by exact hD.sub [0] (by decide) rfl
  have e_2 : flt = X5_faults_r flt := by rw [X5_faults_r]
  exact W.iret (v := flt) hx hb hr (fun t ht hW => ⟨⟨_, (), rfl, e_2, po.ret ht hW hP9 hK hD9⟩, hS.F ht⟩) hS.2.2 dX5_faults_9
def X5_marked_r (mkd : Int32) : Int32 := mkd
theorem X5_marked_r_z (mkd : Int32) (hz_mkd : z01 mkd) : z01 (X5_marked_r mkd) := by unfold X5_marked_r; repeat (first | split | with_reducible assumption | with_reducible exact z01_0 | with_reducible exact z01_1 | with_reducible exact X0_tell_r_z _ _ _ _ _ (by assumption) | with_reducible exact X1_hasMark_r_z _ (by assumption) | with_reducible exact X3_moveTo_trackA_z _ (by assumption) | with_reducible exact X3_moveTo_trackB_z _ (by assumption) | with_reducible exact X3_moveTo_r_z _ _ _ _ (by assumption) (by assumption) | with_reducible exact X4_isOutsideTime_r_z _ | with_reducible exact X2_finishRow_r_z _ | with_reducible exact X2_take_r_z _ _ _ | with_reducible exact X4_isRight_r_z _ | with_reducible exact X4_isTaken_r_z _ _ _ | with_reducible exact X4_hasFrame_r_z _ _ | with_reducible exact X4_marked_r_z _ (by assumption) | with_reducible exact X5_fits_r_z _ _ _ | with_reducible exact X5_fault_marked_z _ _ | with_reducible exact X5_bounce_state_z _ _ _ _ _ _ (by assumption) (by assumption) | with_reducible exact X5_turn_first_z _ (by assumption) | with_reducible exact X5_turn_second_z _ (by assumption))
set_option maxHeartbeats 4000000 in
set_option maxRecDepth 100000 in
theorem k_X5_marked (l : Launch) (dC : Nat → ClassId) (dI : Nat → Nat → Nat) (sz : Nat) (h0 : Nat) (cd : Int32) (tl : Int64) (ed : Int32) (eg : Int64) (aw : Int32) (tk : Int64) (un : Int64) (b1 : Nat) (sm : Int32) (b2 : Nat) (frs : Int32) (b3 : Nat) (b4 : Nat) (b5 : Nat) (bts : Int32) (b6 : Nat) (msn : Int32) (b7 : Nat) (flt : Int32) (bh : Int32) (mkd : Int32) (sta : Int32) (lvl : Int32) (snc : Int64) (tld : Int64) (fst : Int32) (snd : Int32) (stp : Int32) (hz_mkd : z01 mkd) : Met l yX5_marked wsX5_marked ({ frames := 0, cells := 0, slots := 0, locals := 0 }) (va_Pc [.ref h0] (pr (dC, dI) [] [(h0, .inr (6, [.int cd, .long tl, .int ed, .long eg, .int aw, .long tk, .long un, .ref b1, .int sm, .ref b2, .int frs, .ref b3, .ref b4, .ref b5, .int bts, .ref b6, .int msn, .ref b7, .int flt, .int bh, .int mkd, .int sta, .int lvl, .long snc, .long tld, .int fst, .int snd, .int stp]))] sz)) (va_Qi (fun (r : Int32) (_ : Unit) => r = X5_marked_r mkd) (fun _ t => po (dC, dI) [] (va_A [(h0, .inr (6, [.int cd, .long tl, .int ed, .long eg, .int aw, .long tk, .long un, .ref b1, .int sm, .ref b2, .int frs, .ref b3, .ref b4, .ref b5, .int bts, .ref b6, .int msn, .ref b7, .int flt, .int bh, .int mkd, .int sta, .int lvl, .long snc, .long tld, .int fst, .int snd, .int stp]))] sz) [(h0, .inr (6, [.int 0, .long tl, .int ed, .long eg, .int aw, .long tk, .long un, .ref b1, .int sm, .ref b2, .int frs, .ref b3, .ref b4, .ref b5, .int bts, .ref b6, .int msn, .ref b7, .int flt, .int bh, .int mkd, .int sta, .int lvl, .long snc, .long tld, .int fst, .int snd, .int stp]))] t) (va_A [(h0, .inr (6, [.int cd, .long tl, .int ed, .long eg, .int aw, .long tk, .long un, .ref b1, .int sm, .ref b2, .int frs, .ref b3, .ref b4, .ref b5, .int bts, .ref b6, .int msn, .ref b7, .int flt, .int bh, .int mkd, .int sta, .int lvl, .long snc, .long tld, .int fst, .int snd, .int stp]))] sz)) 0 0 (va_A [(h0, .inr (6, [.int cd, .long tl, .int ed, .long eg, .int aw, .long tk, .long un, .ref b1, .int sm, .ref b2, .int frs, .ref b3, .ref b4, .ref b5, .int bts, .ref b6, .int msn, .ref b7, .int flt, .int bh, .int mkd, .int sta, .int lvl, .long snc, .long tld, .int fst, .int snd, .int stp]))] sz) := by
  refine Met.ofW (cc := cX5_marked) (maxL := 1) (ret := (some .boolean)) (by decide) rfl ?_
  intro p e s m args below meth c s₁ B hml hv
  obtain ⟨rfl, hsz, hP, hK, hD0⟩ := hv
  have hx := B.exec
  have hb := B.bytes
  have hr := B.returns
  have hts := atoms_spec (ws := wsX5_marked) B.pre
  have hown : s.vm.findClass RX5 = some m.cls := findClass_of_methodNamed B.named
  have hlocks := B.notSynchronized
  subst hsz
  have hD := hD0.self (sz := s.heap.size)
  generalize hAe : va_A [(h0, .inr (6, [.int cd, .long tl, .int ed, .long eg, .int aw, .long tk, .long un, .ref b1, .int sm, .ref b2, .int frs, .ref b3, .ref b4, .ref b5, .int bts, .ref b6, .int msn, .ref b7, .int flt, .int bh, .int mkd, .int sta, .int lvl, .long snc, .long tld, .int fst, .int snd, .int stp]))] s.heap.size = A at hD ⊢
  have hA : ∀ q : Nat, s.heap.size ≤ q → A q := fun q h => by rw [← hAe]; exact Or.inr h
  have hS : va_S A s.heap s.heap [] := va_S.rf
  have hP : va_P (dC, dI) vwCl [(h0, .inr (6, [.int cd, .long tl, .int ed, .long eg, .int aw, .long tk, .long un, .ref b1, .int sm, .ref b2, .int frs, .ref b3, .ref b4, .ref b5, .int bts, .ref b6, .int msn, .ref b7, .int flt, .int bh, .int mkd, .int sta, .int lvl, .long snc, .long tld, .int fst, .int snd, .int stp]))] s.heap := hP
  have iX5 : ∀ w ∈ wsX50, w ∈ wsX5_marked := by decide +kernel
  have hl := lv_entry ([.ref h0]) (n := 1) (Nat.le_of_ble_eq_true rfl)
  rw [lg_entry_eq]
  generalize (lg_sl ([.ref h0]) ++ List.replicate (1 - (lg_sl ([.ref h0])).length) Slot.unset).toArray = ls at hl ⊢
  have hl : lv_has ls 1 [(0, .ref h0)] := hl
  refine lv_aload_n hx hb dX5_marked_0 rfl (lv_at hl 0 rfl) ?_
  refine lv_iconst (v := 0) hx hb dX5_marked_1 (by decide) ?_
  refine va_put (D := (dC, dI)) (ci := 6) (v := .int 0) (ty := .int) (C := RX5) (T := TX5) (N := 28) hx hb hts iX5 tyX5 tyX5_ok nmX5 hown hK hP hD hS 0 rfl rfl 0 (by decide) (hts (.fieldLink RX5 42 "PulseRowsModel" "code" "I") (List.mem_of_getElem? (i := 1) rfl)) (fun _ h9 => h9) rfl (by decide +kernel) rfl rfl (Nat.le_of_ble_eq_true rfl) dX5_marked_2 (fun H locs hP hD hS => ?_)
  have hP : va_P (dC, dI) vwCl [(h0, .inr (6, [.int 0, .long tl, .int ed, .long eg, .int aw, .long tk, .long un, .ref b1, .int sm, .ref b2, .int frs, .ref b3, .ref b4, .ref b5, .int bts, .ref b6, .int msn, .ref b7, .int flt, .int bh, .int mkd, .int sta, .int lvl, .long snc, .long tld, .int fst, .int snd, .int stp]))] H := hP
  have hD : va_D A [(h0, .inr (6, [.int 0, .long tl, .int ed, .long eg, .int aw, .long tk, .long un, .ref b1, .int sm, .ref b2, .int frs, .ref b3, .ref b4, .ref b5, .int bts, .ref b6, .int msn, .ref b7, .int flt, .int bh, .int mkd, .int sta, .int lvl, .long snc, .long tld, .int fst, .int snd, .int stp]))] := hD
  refine lv_aload_n hx hb dX5_marked_5 rfl (lv_at hl 0 rfl) ?_
  refine va_get (D := (dC, dI)) (ci := 6) (v := .int mkd) (C := RX5) (T := TX5) (N := 28) hx hb hts iX5 hown hK hP 0 rfl rfl 20 (by decide) (hts (.fieldLink RX5 60 "PulseRowsModel" "marked" "Z") (List.mem_of_getElem? (i := 2) rfl)) (fun _ h9 => h9) rfl dX5_marked_6 ?_
  have hP9 : va_P (dC, dI) vwCl [(h0, .inr (6, [.int 0, .long tl, .int ed, .long eg, .int aw, .long tk, .long un, .ref b1, .int sm, .ref b2, .int frs, .ref b3, .ref b4, .ref b5, .int bts, .ref b6, .int msn, .ref b7, .int flt, .int bh, .int mkd, .int sta, .int lvl, .long snc, .long tld, .int fst, .int snd, .int stp]))] H := by exact hP.sub [0] rfl
  have hD9 : va_D A [(h0, .inr (6, [.int 0, .long tl, .int ed, .long eg, .int aw, .long tk, .long un, .ref b1, .int sm, .ref b2, .int frs, .ref b3, .ref b4, .ref b5, .int bts, .ref b6, .int msn, .ref b7, .int flt, .int bh, .int mkd, .int sta, .int lvl, .long snc, .long tld, .int fst, .int snd, .int stp]))] := by exact hD.sub [0] (by decide) rfl
  have e_2 : mkd = X5_marked_r mkd := by rw [X5_marked_r]
  exact W.zret (v := mkd) hx hb hr (hz_mkd).nar (fun t ht hW => ⟨⟨_, (), rfl, e_2, po.ret ht hW hP9 hK hD9⟩, hS.F ht⟩) hS.2.2 dX5_marked_9
def X5_check_r (row : Int32) : Int32 := if ((row >>> ((28 : Int32) &&& 31)) &&& 15) ≤ 0 then (if ((row >>> ((24 : Int32) &&& 31)) &&& 15) ≤ 0 then (if ((row >>> ((20 : Int32) &&& 31)) &&& 15) ≤ 0 then (if ((row >>> ((16 : Int32) &&& 31)) &&& 15) ≤ 0 then (if ((row >>> ((12 : Int32) &&& 31)) &&& 15) ≤ 0 then (if ((row >>> ((8 : Int32) &&& 31)) &&& 15) ≤ 0 then (if ((row >>> ((4 : Int32) &&& 31)) &&& 15) ≤ 0 then (if ((row >>> ((0 : Int32) &&& 31)) &&& 15) ≤ 0 then (X5_turned_r 5) else (X5_turned_r ((X5_turned_r 5) ^^^ ((row >>> ((0 : Int32) &&& 31)) &&& 15)))) else (X5_turned_r ((X5_turned_r ((X5_turned_r 5) ^^^ ((row >>> ((4 : Int32) &&& 31)) &&& 15))) ^^^ ((row >>> ((0 : Int32) &&& 31)) &&& 15)))) else (X5_turned_r ((X5_turned_r ((X5_turned_r ((X5_turned_r 5) ^^^ ((row >>> ((8 : Int32) &&& 31)) &&& 15))) ^^^ ((row >>> ((4 : Int32) &&& 31)) &&& 15))) ^^^ ((row >>> ((0 : Int32) &&& 31)) &&& 15)))) else (X5_turned_r ((X5_turned_r ((X5_turned_r ((X5_turned_r ((X5_turned_r 5) ^^^ ((row >>> ((12 : Int32) &&& 31)) &&& 15))) ^^^ ((row >>> ((8 : Int32) &&& 31)) &&& 15))) ^^^ ((row >>> ((4 : Int32) &&& 31)) &&& 15))) ^^^ ((row >>> ((0 : Int32) &&& 31)) &&& 15)))) else (X5_turned_r ((X5_turned_r ((X5_turned_r ((X5_turned_r ((X5_turned_r ((X5_turned_r 5) ^^^ ((row >>> ((16 : Int32) &&& 31)) &&& 15))) ^^^ ((row >>> ((12 : Int32) &&& 31)) &&& 15))) ^^^ ((row >>> ((8 : Int32) &&& 31)) &&& 15))) ^^^ ((row >>> ((4 : Int32) &&& 31)) &&& 15))) ^^^ ((row >>> ((0 : Int32) &&& 31)) &&& 15)))) else (X5_turned_r ((X5_turned_r ((X5_turned_r ((X5_turned_r ((X5_turned_r ((X5_turned_r ((X5_turned_r 5) ^^^ ((row >>> ((20 : Int32) &&& 31)) &&& 15))) ^^^ ((row >>> ((16 : Int32) &&& 31)) &&& 15))) ^^^ ((row >>> ((12 : Int32) &&& 31)) &&& 15))) ^^^ ((row >>> ((8 : Int32) &&& 31)) &&& 15))) ^^^ ((row >>> ((4 : Int32) &&& 31)) &&& 15))) ^^^ ((row >>> ((0 : Int32) &&& 31)) &&& 15)))) else (X5_turned_r ((X5_turned_r ((X5_turned_r ((X5_turned_r ((X5_turned_r ((X5_turned_r ((X5_turned_r ((X5_turned_r 5) ^^^ ((row >>> ((24 : Int32) &&& 31)) &&& 15))) ^^^ ((row >>> ((20 : Int32) &&& 31)) &&& 15))) ^^^ ((row >>> ((16 : Int32) &&& 31)) &&& 15))) ^^^ ((row >>> ((12 : Int32) &&& 31)) &&& 15))) ^^^ ((row >>> ((8 : Int32) &&& 31)) &&& 15))) ^^^ ((row >>> ((4 : Int32) &&& 31)) &&& 15))) ^^^ ((row >>> ((0 : Int32) &&& 31)) &&& 15)))) else (X5_turned_r ((X5_turned_r ((X5_turned_r ((X5_turned_r ((X5_turned_r ((X5_turned_r ((X5_turned_r ((X5_turned_r ((X5_turned_r 5) ^^^ ((row >>> ((28 : Int32) &&& 31)) &&& 15))) ^^^ ((row >>> ((24 : Int32) &&& 31)) &&& 15))) ^^^ ((row >>> ((20 : Int32) &&& 31)) &&& 15))) ^^^ ((row >>> ((16 : Int32) &&& 31)) &&& 15))) ^^^ ((row >>> ((12 : Int32) &&& 31)) &&& 15))) ^^^ ((row >>> ((8 : Int32) &&& 31)) &&& 15))) ^^^ ((row >>> ((4 : Int32) &&& 31)) &&& 15))) ^^^ ((row >>> ((0 : Int32) &&& 31)) &&& 15)))
set_option maxHeartbeats 4000000 in
set_option maxRecDepth 100000 in
theorem k_X5_check (l : Launch) (dC : Nat → ClassId) (dI : Nat → Nat → Nat) (sz : Nat) (h0 : Nat) (cd : Int32) (tl : Int64) (ed : Int32) (eg : Int64) (aw : Int32) (tk : Int64) (un : Int64) (b1 : Nat) (sm : Int32) (b2 : Nat) (frs : Int32) (b3 : Nat) (b4 : Nat) (b5 : Nat) (bts : Int32) (b6 : Nat) (msn : Int32) (b7 : Nat) (flt : Int32) (bh : Int32) (mkd : Int32) (sta : Int32) (lvl : Int32) (snc : Int64) (tld : Int64) (fst : Int32) (snd : Int32) (stp : Int32) (row : Int32)  : Met l yX5_check wsX5_check ({ frames := 1, cells := 0, slots := 0, locals := 21 }) (va_Pc [.ref h0, .int row] (pr (dC, dI) [] [(h0, .inr (6, [.int cd, .long tl, .int ed, .long eg, .int aw, .long tk, .long un, .ref b1, .int sm, .ref b2, .int frs, .ref b3, .ref b4, .ref b5, .int bts, .ref b6, .int msn, .ref b7, .int flt, .int bh, .int mkd, .int sta, .int lvl, .long snc, .long tld, .int fst, .int snd, .int stp]))] sz)) (va_Qi (fun (r : Int32) (_ : Unit) => r = X5_check_r row) (fun _ t => po (dC, dI) [] (va_A [(h0, .inr (6, [.int cd, .long tl, .int ed, .long eg, .int aw, .long tk, .long un, .ref b1, .int sm, .ref b2, .int frs, .ref b3, .ref b4, .ref b5, .int bts, .ref b6, .int msn, .ref b7, .int flt, .int bh, .int mkd, .int sta, .int lvl, .long snc, .long tld, .int fst, .int snd, .int stp]))] sz) [(h0, .inr (6, [.int 0, .long tl, .int ed, .long eg, .int aw, .long tk, .long un, .ref b1, .int sm, .ref b2, .int frs, .ref b3, .ref b4, .ref b5, .int bts, .ref b6, .int msn, .ref b7, .int flt, .int bh, .int mkd, .int sta, .int lvl, .long snc, .long tld, .int fst, .int snd, .int stp]))] t) (va_A [(h0, .inr (6, [.int cd, .long tl, .int ed, .long eg, .int aw, .long tk, .long un, .ref b1, .int sm, .ref b2, .int frs, .ref b3, .ref b4, .ref b5, .int bts, .ref b6, .int msn, .ref b7, .int flt, .int bh, .int mkd, .int sta, .int lvl, .long snc, .long tld, .int fst, .int snd, .int stp]))] sz)) 0 0 (va_A [(h0, .inr (6, [.int cd, .long tl, .int ed, .long eg, .int aw, .long tk, .long un, .ref b1, .int sm, .ref b2, .int frs, .ref b3, .ref b4, .ref b5, .int bts, .ref b6, .int msn, .ref b7, .int flt, .int bh, .int mkd, .int sta, .int lvl, .long snc, .long tld, .int fst, .int snd, .int stp]))] sz) := by
  refine Met.ofW (cc := cX5_check) (maxL := 6) (ret := (some .int)) (by decide) rfl ?_
  intro p e s m args below meth c s₁ B hml hv
  obtain ⟨rfl, hsz, hP, hK, hD0⟩ := hv
  have hx := B.exec
  have hb := B.bytes
  have hr := B.returns
  have hts := atoms_spec (ws := wsX5_check) B.pre
  have hown : s.vm.findClass RX5 = some m.cls := findClass_of_methodNamed B.named
  have hlocks := B.notSynchronized
  subst hsz
  have hD := hD0.self (sz := s.heap.size)
  generalize hAe : va_A [(h0, .inr (6, [.int cd, .long tl, .int ed, .long eg, .int aw, .long tk, .long un, .ref b1, .int sm, .ref b2, .int frs, .ref b3, .ref b4, .ref b5, .int bts, .ref b6, .int msn, .ref b7, .int flt, .int bh, .int mkd, .int sta, .int lvl, .long snc, .long tld, .int fst, .int snd, .int stp]))] s.heap.size = A at hD ⊢
  have hA : ∀ q : Nat, s.heap.size ≤ q → A q := fun q h => by rw [← hAe]; exact Or.inr h
  have hS : va_S A s.heap s.heap [] := va_S.rf
  have hP : va_P (dC, dI) vwCl [(h0, .inr (6, [.int cd, .long tl, .int ed, .long eg, .int aw, .long tk, .long un, .ref b1, .int sm, .ref b2, .int frs, .ref b3, .ref b4, .ref b5, .int bts, .ref b6, .int msn, .ref b7, .int flt, .int bh, .int mkd, .int sta, .int lvl, .long snc, .long tld, .int fst, .int snd, .int stp]))] s.heap := hP
  have iX5 : ∀ w ∈ wsX50, w ∈ wsX5_check := by decide +kernel
  have hl := lv_entry ([.ref h0, .int row]) (n := 6) (Nat.le_of_ble_eq_true rfl)
  rw [lg_entry_eq]
  generalize (lg_sl ([.ref h0, .int row]) ++ List.replicate (6 - (lg_sl ([.ref h0, .int row])).length) Slot.unset).toArray = ls at hl ⊢
  have hl : lv_has ls 6 [(0, .ref h0), (1, .int row)] := hl
  refine lv_aload_n hx hb dX5_check_0 rfl (lv_at hl 0 rfl) ?_
  refine lv_iconst (v := 0) hx hb dX5_check_1 (by decide) ?_
  refine va_put (D := (dC, dI)) (ci := 6) (v := .int 0) (ty := .int) (C := RX5) (T := TX5) (N := 28) hx hb hts iX5 tyX5 tyX5_ok nmX5 hown hK hP hD hS 0 rfl rfl 0 (by decide) (hts (.fieldLink RX5 42 "PulseRowsModel" "code" "I") (List.mem_of_getElem? (i := 1) rfl)) (fun _ h9 => h9) rfl (by decide +kernel) rfl rfl (Nat.le_of_ble_eq_true rfl) dX5_check_2 (fun H locs hP hD hS => ?_)
  have hP : va_P (dC, dI) vwCl [(h0, .inr (6, [.int 0, .long tl, .int ed, .long eg, .int aw, .long tk, .long un, .ref b1, .int sm, .ref b2, .int frs, .ref b3, .ref b4, .ref b5, .int bts, .ref b6, .int msn, .ref b7, .int flt, .int bh, .int mkd, .int sta, .int lvl, .long snc, .long tld, .int fst, .int snd, .int stp]))] H := hP
  have hD : va_D A [(h0, .inr (6, [.int 0, .long tl, .int ed, .long eg, .int aw, .long tk, .long un, .ref b1, .int sm, .ref b2, .int frs, .ref b3, .ref b4, .ref b5, .int bts, .ref b6, .int msn, .ref b7, .int flt, .int bh, .int mkd, .int sta, .int lvl, .long snc, .long tld, .int fst, .int snd, .int stp]))] := hD
  refine lv_iconst (v := 5) hx hb dX5_check_5 (by decide) ?_
  refine lv_istore_n (lv' := [(2, .int 5), (0, .ref h0), (1, .int row)]) hx hb dX5_check_6 rfl hl (by decide) rfl (fun ls hl => ?_)
  refine lv_iconst (v := 0) hx hb dX5_check_7 (by decide) ?_
  refine lv_istore_n (lv' := [(3, .int 0), (2, .int 5), (0, .ref h0), (1, .int row)]) hx hb dX5_check_8 rfl hl (by decide) rfl (fun ls hl => ?_)
  refine lv_bipush (v := 7) hx hb dX5_check_9 (by decide) ?_
  refine lv_istore (lv' := [(4, .int 7), (3, .int 0), (2, .int 5), (0, .ref h0), (1, .int row)]) hx hb dX5_check_11 hl (by decide) rfl (fun ls hl => ?_)
  refine lv_iload hx hb dX5_check_13 (lv_at hl 0 rfl) ?_
  refine lv_if_lt (tgt := 62) hx hb dX5_check_15 (by decide) (fun c9 => absurd c9 (by decide)) (fun _ => ?_)
  refine lv_iload_n hx hb dX5_check_18 rfl (lv_at hl 4 rfl) ?_
  refine lv_iconst (v := 4) hx hb dX5_check_19 (by decide) ?_
  refine lv_iload hx hb dX5_check_20 (lv_at hl 0 rfl) ?_
  refine lv_imul hx hb dX5_check_22 ?_
  refine lv_topi (fun y_2 ey_2 => ?_)
  obtain rfl : y_2 = 28 := ey_2.trans (by decide)
  refine lv_ishr hx hb dX5_check_23 ?_
  refine lv_bipush (v := 15) hx hb dX5_check_24 (by decide) ?_
  refine lv_iand hx hb dX5_check_26 ?_
  refine lv_istore (lv' := [(5, .int ((row >>> ((28 : Int32) &&& 31)) &&& 15)), (4, .int 7), (3, .int 0), (2, .int 5), (0, .ref h0), (1, .int row)]) hx hb dX5_check_27 hl (by decide) rfl (fun ls hl => ?_)
  refine lv_iload_n hx hb dX5_check_29 rfl (lv_at hl 2 rfl) ?_
  refine lv_if_ne (tgt := 38) hx hb dX5_check_30 (by decide) (fun c9 => absurd c9 (by decide)) (fun _ => ?_)
  refine lv_iload hx hb dX5_check_33 (lv_at hl 0 rfl) ?_
  refine lv_if_le (tgt := 42) hx hb dX5_check_35 (by decide) (fun c_4 => ?_) (fun c_4 => ?_)
  · refine lv_iconst (v := 0) hx hb dX5_check_42 (by decide) ?_
    refine lv_istore_n (lv' := [(3, .int 0), (5, .int ((row >>> ((28 : Int32) &&& 31)) &&& 15)), (4, .int 7), (2, .int 5), (0, .ref h0), (1, .int row)]) hx hb dX5_check_43 rfl hl (by decide) rfl (fun ls hl => ?_)
    refine lv_iload_n hx hb dX5_check_44 rfl (lv_at hl 0 rfl) ?_
    refine lv_if_eq (tgt := 56) hx hb dX5_check_45 (by decide) (fun _ => ?_) (fun c9 => absurd c9 (by decide))
    refine lv_iinc (v := 6) (lv' := [(4, .int 6), (3, .int 0), (5, .int ((row >>> ((28 : Int32) &&& 31)) &&& 15)), (2, .int 5), (0, .ref h0), (1, .int row)]) hx hb dX5_check_56 hl (k := 2) rfl (by decide) (by decide) rfl (fun ls hl => ?_)
    refine lv_goto (tgt := 13) hx hb dX5_check_59 (by decide) ?_
    refine lv_iload hx hb dX5_check_13 (lv_at hl 0 rfl) ?_
    refine lv_if_lt (tgt := 62) hx hb dX5_check_15 (by decide) (fun c9 => absurd c9 (by decide)) (fun _ => ?_)
    refine lv_iload_n hx hb dX5_check_18 rfl (lv_at hl 5 rfl) ?_
    refine lv_iconst (v := 4) hx hb dX5_check_19 (by decide) ?_
    refine lv_iload hx hb dX5_check_20 (lv_at hl 0 rfl) ?_
    refine lv_imul hx hb dX5_check_22 ?_
    refine lv_topi (fun y_7 ey_7 => ?_)
    obtain rfl : y_7 = 24 := ey_7.trans (by decide)
    refine lv_ishr hx hb dX5_check_23 ?_
    refine lv_bipush (v := 15) hx hb dX5_check_24 (by decide) ?_
    refine lv_iand hx hb dX5_check_26 ?_
    refine lv_istore (lv' := [(5, .int ((row >>> ((24 : Int32) &&& 31)) &&& 15)), (4, .int 6), (3, .int 0), (2, .int 5), (0, .ref h0), (1, .int row)]) hx hb dX5_check_27 hl (by decide) rfl (fun ls hl => ?_)
    refine lv_iload_n hx hb dX5_check_29 rfl (lv_at hl 2 rfl) ?_
    refine lv_if_ne (tgt := 38) hx hb dX5_check_30 (by decide) (fun c9 => absurd c9 (by decide)) (fun _ => ?_)
    refine lv_iload hx hb dX5_check_33 (lv_at hl 0 rfl) ?_
    refine lv_if_le (tgt := 42) hx hb dX5_check_35 (by decide) (fun c_9 => ?_) (fun c_9 => ?_)
    · refine lv_iconst (v := 0) hx hb dX5_check_42 (by decide) ?_
      refine lv_istore_n (lv' := [(3, .int 0), (5, .int ((row >>> ((24 : Int32) &&& 31)) &&& 15)), (4, .int 6), (2, .int 5), (0, .ref h0), (1, .int row)]) hx hb dX5_check_43 rfl hl (by decide) rfl (fun ls hl => ?_)
      refine lv_iload_n hx hb dX5_check_44 rfl (lv_at hl 0 rfl) ?_
      refine lv_if_eq (tgt := 56) hx hb dX5_check_45 (by decide) (fun _ => ?_) (fun c9 => absurd c9 (by decide))
      refine lv_iinc (v := 5) (lv' := [(4, .int 5), (3, .int 0), (5, .int ((row >>> ((24 : Int32) &&& 31)) &&& 15)), (2, .int 5), (0, .ref h0), (1, .int row)]) hx hb dX5_check_56 hl (k := 2) rfl (by decide) (by decide) rfl (fun ls hl => ?_)
      refine lv_goto (tgt := 13) hx hb dX5_check_59 (by decide) ?_
      refine lv_iload hx hb dX5_check_13 (lv_at hl 0 rfl) ?_
      refine lv_if_lt (tgt := 62) hx hb dX5_check_15 (by decide) (fun c9 => absurd c9 (by decide)) (fun _ => ?_)
      refine lv_iload_n hx hb dX5_check_18 rfl (lv_at hl 5 rfl) ?_
      refine lv_iconst (v := 4) hx hb dX5_check_19 (by decide) ?_
      refine lv_iload hx hb dX5_check_20 (lv_at hl 0 rfl) ?_
      refine lv_imul hx hb dX5_check_22 ?_
      refine lv_topi (fun y_12 ey_12 => ?_)
      obtain rfl : y_12 = 20 := ey_12.trans (by decide)
      refine lv_ishr hx hb dX5_check_23 ?_
      refine lv_bipush (v := 15) hx hb dX5_check_24 (by decide) ?_
      refine lv_iand hx hb dX5_check_26 ?_
      refine lv_istore (lv' := [(5, .int ((row >>> ((20 : Int32) &&& 31)) &&& 15)), (4, .int 5), (3, .int 0), (2, .int 5), (0, .ref h0), (1, .int row)]) hx hb dX5_check_27 hl (by decide) rfl (fun ls hl => ?_)
      refine lv_iload_n hx hb dX5_check_29 rfl (lv_at hl 2 rfl) ?_
      refine lv_if_ne (tgt := 38) hx hb dX5_check_30 (by decide) (fun c9 => absurd c9 (by decide)) (fun _ => ?_)
      refine lv_iload hx hb dX5_check_33 (lv_at hl 0 rfl) ?_
      refine lv_if_le (tgt := 42) hx hb dX5_check_35 (by decide) (fun c_14 => ?_) (fun c_14 => ?_)
      · refine lv_iconst (v := 0) hx hb dX5_check_42 (by decide) ?_
        refine lv_istore_n (lv' := [(3, .int 0), (5, .int ((row >>> ((20 : Int32) &&& 31)) &&& 15)), (4, .int 5), (2, .int 5), (0, .ref h0), (1, .int row)]) hx hb dX5_check_43 rfl hl (by decide) rfl (fun ls hl => ?_)
        refine lv_iload_n hx hb dX5_check_44 rfl (lv_at hl 0 rfl) ?_
        refine lv_if_eq (tgt := 56) hx hb dX5_check_45 (by decide) (fun _ => ?_) (fun c9 => absurd c9 (by decide))
        refine lv_iinc (v := 4) (lv' := [(4, .int 4), (3, .int 0), (5, .int ((row >>> ((20 : Int32) &&& 31)) &&& 15)), (2, .int 5), (0, .ref h0), (1, .int row)]) hx hb dX5_check_56 hl (k := 2) rfl (by decide) (by decide) rfl (fun ls hl => ?_)
        refine lv_goto (tgt := 13) hx hb dX5_check_59 (by decide) ?_
        refine lv_iload hx hb dX5_check_13 (lv_at hl 0 rfl) ?_
        refine lv_if_lt (tgt := 62) hx hb dX5_check_15 (by decide) (fun c9 => absurd c9 (by decide)) (fun _ => ?_)
        refine lv_iload_n hx hb dX5_check_18 rfl (lv_at hl 5 rfl) ?_
        refine lv_iconst (v := 4) hx hb dX5_check_19 (by decide) ?_
        refine lv_iload hx hb dX5_check_20 (lv_at hl 0 rfl) ?_
        refine lv_imul hx hb dX5_check_22 ?_
        refine lv_topi (fun y_17 ey_17 => ?_)
        obtain rfl : y_17 = 16 := ey_17.trans (by decide)
        refine lv_ishr hx hb dX5_check_23 ?_
        refine lv_bipush (v := 15) hx hb dX5_check_24 (by decide) ?_
        refine lv_iand hx hb dX5_check_26 ?_
        refine lv_istore (lv' := [(5, .int ((row >>> ((16 : Int32) &&& 31)) &&& 15)), (4, .int 4), (3, .int 0), (2, .int 5), (0, .ref h0), (1, .int row)]) hx hb dX5_check_27 hl (by decide) rfl (fun ls hl => ?_)
        refine lv_iload_n hx hb dX5_check_29 rfl (lv_at hl 2 rfl) ?_
        refine lv_if_ne (tgt := 38) hx hb dX5_check_30 (by decide) (fun c9 => absurd c9 (by decide)) (fun _ => ?_)
        refine lv_iload hx hb dX5_check_33 (lv_at hl 0 rfl) ?_
        refine lv_if_le (tgt := 42) hx hb dX5_check_35 (by decide) (fun c_19 => ?_) (fun c_19 => ?_)
        · refine lv_iconst (v := 0) hx hb dX5_check_42 (by decide) ?_
          refine lv_istore_n (lv' := [(3, .int 0), (5, .int ((row >>> ((16 : Int32) &&& 31)) &&& 15)), (4, .int 4), (2, .int 5), (0, .ref h0), (1, .int row)]) hx hb dX5_check_43 rfl hl (by decide) rfl (fun ls hl => ?_)
          refine lv_iload_n hx hb dX5_check_44 rfl (lv_at hl 0 rfl) ?_
          refine lv_if_eq (tgt := 56) hx hb dX5_check_45 (by decide) (fun _ => ?_) (fun c9 => absurd c9 (by decide))
          refine lv_iinc (v := 3) (lv' := [(4, .int 3), (3, .int 0), (5, .int ((row >>> ((16 : Int32) &&& 31)) &&& 15)), (2, .int 5), (0, .ref h0), (1, .int row)]) hx hb dX5_check_56 hl (k := 2) rfl (by decide) (by decide) rfl (fun ls hl => ?_)
          refine lv_goto (tgt := 13) hx hb dX5_check_59 (by decide) ?_
          refine lv_iload hx hb dX5_check_13 (lv_at hl 0 rfl) ?_
          refine lv_if_lt (tgt := 62) hx hb dX5_check_15 (by decide) (fun c9 => absurd c9 (by decide)) (fun _ => ?_)
          refine lv_iload_n hx hb dX5_check_18 rfl (lv_at hl 5 rfl) ?_
          refine lv_iconst (v := 4) hx hb dX5_check_19 (by decide) ?_
          refine lv_iload hx hb dX5_check_20 (lv_at hl 0 rfl) ?_
          refine lv_imul hx hb dX5_check_22 ?_
          refine lv_topi (fun y_22 ey_22 => ?_)
          obtain rfl : y_22 = 12 := ey_22.trans (by decide)
          refine lv_ishr hx hb dX5_check_23 ?_
          refine lv_bipush (v := 15) hx hb dX5_check_24 (by decide) ?_
          refine lv_iand hx hb dX5_check_26 ?_
          refine lv_istore (lv' := [(5, .int ((row >>> ((12 : Int32) &&& 31)) &&& 15)), (4, .int 3), (3, .int 0), (2, .int 5), (0, .ref h0), (1, .int row)]) hx hb dX5_check_27 hl (by decide) rfl (fun ls hl => ?_)
          refine lv_iload_n hx hb dX5_check_29 rfl (lv_at hl 2 rfl) ?_
          refine lv_if_ne (tgt := 38) hx hb dX5_check_30 (by decide) (fun c9 => absurd c9 (by decide)) (fun _ => ?_)
          refine lv_iload hx hb dX5_check_33 (lv_at hl 0 rfl) ?_
          refine lv_if_le (tgt := 42) hx hb dX5_check_35 (by decide) (fun c_24 => ?_) (fun c_24 => ?_)
          · refine lv_iconst (v := 0) hx hb dX5_check_42 (by decide) ?_
            refine lv_istore_n (lv' := [(3, .int 0), (5, .int ((row >>> ((12 : Int32) &&& 31)) &&& 15)), (4, .int 3), (2, .int 5), (0, .ref h0), (1, .int row)]) hx hb dX5_check_43 rfl hl (by decide) rfl (fun ls hl => ?_)
            refine lv_iload_n hx hb dX5_check_44 rfl (lv_at hl 0 rfl) ?_
            refine lv_if_eq (tgt := 56) hx hb dX5_check_45 (by decide) (fun _ => ?_) (fun c9 => absurd c9 (by decide))
            refine lv_iinc (v := 2) (lv' := [(4, .int 2), (3, .int 0), (5, .int ((row >>> ((12 : Int32) &&& 31)) &&& 15)), (2, .int 5), (0, .ref h0), (1, .int row)]) hx hb dX5_check_56 hl (k := 2) rfl (by decide) (by decide) rfl (fun ls hl => ?_)
            refine lv_goto (tgt := 13) hx hb dX5_check_59 (by decide) ?_
            refine lv_iload hx hb dX5_check_13 (lv_at hl 0 rfl) ?_
            refine lv_if_lt (tgt := 62) hx hb dX5_check_15 (by decide) (fun c9 => absurd c9 (by decide)) (fun _ => ?_)
            refine lv_iload_n hx hb dX5_check_18 rfl (lv_at hl 5 rfl) ?_
            refine lv_iconst (v := 4) hx hb dX5_check_19 (by decide) ?_
            refine lv_iload hx hb dX5_check_20 (lv_at hl 0 rfl) ?_
            refine lv_imul hx hb dX5_check_22 ?_
            refine lv_topi (fun y_27 ey_27 => ?_)
            obtain rfl : y_27 = 8 := ey_27.trans (by decide)
            refine lv_ishr hx hb dX5_check_23 ?_
            refine lv_bipush (v := 15) hx hb dX5_check_24 (by decide) ?_
            refine lv_iand hx hb dX5_check_26 ?_
            refine lv_istore (lv' := [(5, .int ((row >>> ((8 : Int32) &&& 31)) &&& 15)), (4, .int 2), (3, .int 0), (2, .int 5), (0, .ref h0), (1, .int row)]) hx hb dX5_check_27 hl (by decide) rfl (fun ls hl => ?_)
            refine lv_iload_n hx hb dX5_check_29 rfl (lv_at hl 2 rfl) ?_
            refine lv_if_ne (tgt := 38) hx hb dX5_check_30 (by decide) (fun c9 => absurd c9 (by decide)) (fun _ => ?_)
            refine lv_iload hx hb dX5_check_33 (lv_at hl 0 rfl) ?_
            refine lv_if_le (tgt := 42) hx hb dX5_check_35 (by decide) (fun c_29 => ?_) (fun c_29 => ?_)
            · refine lv_iconst (v := 0) hx hb dX5_check_42 (by decide) ?_
              refine lv_istore_n (lv' := [(3, .int 0), (5, .int ((row >>> ((8 : Int32) &&& 31)) &&& 15)), (4, .int 2), (2, .int 5), (0, .ref h0), (1, .int row)]) hx hb dX5_check_43 rfl hl (by decide) rfl (fun ls hl => ?_)
              refine lv_iload_n hx hb dX5_check_44 rfl (lv_at hl 0 rfl) ?_
              refine lv_if_eq (tgt := 56) hx hb dX5_check_45 (by decide) (fun _ => ?_) (fun c9 => absurd c9 (by decide))
              refine lv_iinc (v := 1) (lv' := [(4, .int 1), (3, .int 0), (5, .int ((row >>> ((8 : Int32) &&& 31)) &&& 15)), (2, .int 5), (0, .ref h0), (1, .int row)]) hx hb dX5_check_56 hl (k := 2) rfl (by decide) (by decide) rfl (fun ls hl => ?_)
              refine lv_goto (tgt := 13) hx hb dX5_check_59 (by decide) ?_
              refine lv_iload hx hb dX5_check_13 (lv_at hl 0 rfl) ?_
              refine lv_if_lt (tgt := 62) hx hb dX5_check_15 (by decide) (fun c9 => absurd c9 (by decide)) (fun _ => ?_)
              refine lv_iload_n hx hb dX5_check_18 rfl (lv_at hl 5 rfl) ?_
              refine lv_iconst (v := 4) hx hb dX5_check_19 (by decide) ?_
              refine lv_iload hx hb dX5_check_20 (lv_at hl 0 rfl) ?_
              refine lv_imul hx hb dX5_check_22 ?_
              refine lv_topi (fun y_32 ey_32 => ?_)
              obtain rfl : y_32 = 4 := ey_32.trans (by decide)
              refine lv_ishr hx hb dX5_check_23 ?_
              refine lv_bipush (v := 15) hx hb dX5_check_24 (by decide) ?_
              refine lv_iand hx hb dX5_check_26 ?_
              refine lv_istore (lv' := [(5, .int ((row >>> ((4 : Int32) &&& 31)) &&& 15)), (4, .int 1), (3, .int 0), (2, .int 5), (0, .ref h0), (1, .int row)]) hx hb dX5_check_27 hl (by decide) rfl (fun ls hl => ?_)
              refine lv_iload_n hx hb dX5_check_29 rfl (lv_at hl 2 rfl) ?_
              refine lv_if_ne (tgt := 38) hx hb dX5_check_30 (by decide) (fun c9 => absurd c9 (by decide)) (fun _ => ?_)
              refine lv_iload hx hb dX5_check_33 (lv_at hl 0 rfl) ?_
              refine lv_if_le (tgt := 42) hx hb dX5_check_35 (by decide) (fun c_34 => ?_) (fun c_34 => ?_)
              · refine lv_iconst (v := 0) hx hb dX5_check_42 (by decide) ?_
                refine lv_istore_n (lv' := [(3, .int 0), (5, .int ((row >>> ((4 : Int32) &&& 31)) &&& 15)), (4, .int 1), (2, .int 5), (0, .ref h0), (1, .int row)]) hx hb dX5_check_43 rfl hl (by decide) rfl (fun ls hl => ?_)
                refine lv_iload_n hx hb dX5_check_44 rfl (lv_at hl 0 rfl) ?_
                refine lv_if_eq (tgt := 56) hx hb dX5_check_45 (by decide) (fun _ => ?_) (fun c9 => absurd c9 (by decide))
                refine lv_iinc (v := 0) (lv' := [(4, .int 0), (3, .int 0), (5, .int ((row >>> ((4 : Int32) &&& 31)) &&& 15)), (2, .int 5), (0, .ref h0), (1, .int row)]) hx hb dX5_check_56 hl (k := 2) rfl (by decide) (by decide) rfl (fun ls hl => ?_)
                refine lv_goto (tgt := 13) hx hb dX5_check_59 (by decide) ?_
                refine lv_iload hx hb dX5_check_13 (lv_at hl 0 rfl) ?_
                refine lv_if_lt (tgt := 62) hx hb dX5_check_15 (by decide) (fun c9 => absurd c9 (by decide)) (fun _ => ?_)
                refine lv_iload_n hx hb dX5_check_18 rfl (lv_at hl 5 rfl) ?_
                refine lv_iconst (v := 4) hx hb dX5_check_19 (by decide) ?_
                refine lv_iload hx hb dX5_check_20 (lv_at hl 0 rfl) ?_
                refine lv_imul hx hb dX5_check_22 ?_
                refine lv_topi (fun y_37 ey_37 => ?_)
                obtain rfl : y_37 = 0 := ey_37.trans (by decide)
                refine lv_ishr hx hb dX5_check_23 ?_
                refine lv_bipush (v := 15) hx hb dX5_check_24 (by decide) ?_
                refine lv_iand hx hb dX5_check_26 ?_
                refine lv_istore (lv' := [(5, .int ((row >>> ((0 : Int32) &&& 31)) &&& 15)), (4, .int 0), (3, .int 0), (2, .int 5), (0, .ref h0), (1, .int row)]) hx hb dX5_check_27 hl (by decide) rfl (fun ls hl => ?_)
                refine lv_iload_n hx hb dX5_check_29 rfl (lv_at hl 2 rfl) ?_
                refine lv_if_ne (tgt := 38) hx hb dX5_check_30 (by decide) (fun c9 => absurd c9 (by decide)) (fun _ => ?_)
                refine lv_iload hx hb dX5_check_33 (lv_at hl 0 rfl) ?_
                refine lv_if_le (tgt := 42) hx hb dX5_check_35 (by decide) (fun c_39 => ?_) (fun c_39 => ?_)
                · refine lv_iconst (v := 0) hx hb dX5_check_42 (by decide) ?_
                  refine lv_istore_n (lv' := [(3, .int 0), (5, .int ((row >>> ((0 : Int32) &&& 31)) &&& 15)), (4, .int 0), (2, .int 5), (0, .ref h0), (1, .int row)]) hx hb dX5_check_43 rfl hl (by decide) rfl (fun ls hl => ?_)
                  refine lv_iload_n hx hb dX5_check_44 rfl (lv_at hl 0 rfl) ?_
                  refine lv_if_eq (tgt := 56) hx hb dX5_check_45 (by decide) (fun _ => ?_) (fun c9 => absurd c9 (by decide))
                  refine lv_iinc (v := (-1)) (lv' := [(4, .int (-1)), (3, .int 0), (5, .int ((row >>> ((0 : Int32) &&& 31)) &&& 15)), (2, .int 5), (0, .ref h0), (1, .int row)]) hx hb dX5_check_56 hl (k := 2) rfl (by decide) (by decide) rfl (fun ls hl => ?_)
                  refine lv_goto (tgt := 13) hx hb dX5_check_59 (by decide) ?_
                  refine lv_iload hx hb dX5_check_13 (lv_at hl 0 rfl) ?_
                  refine lv_if_lt (tgt := 62) hx hb dX5_check_15 (by decide) (fun _ => ?_) (fun c9 => absurd c9 (by decide))
                  refine lv_iload_n hx hb dX5_check_62 rfl (lv_at hl 3 rfl) ?_
                  have hPc := hP.sub (ws' := []) [] rfl
                  have hDc := hD.sub (ws' := []) [] (by decide) rfl
                  have hKc := hK.sub (tys' := []) [] rfl
                  have hFc := va_free (wc := []) hD hS hA [] rfl
                  refine va_calli (va_runS (As := [.int 5]) (rest := []) ⟨hx, hb, hml, hown, hts⟩ (k_X5_turned l dC dI H.size 5) (va_cwS 1 hts gX5_check_X5_turned rfl rfl rfl (by decide +kernel) ⟨Nat.le_of_ble_eq_true rfl, Nat.le_of_ble_eq_true rfl⟩) ⟨pr.blind, fun U hU hW => ⟨rfl, pr.call hU hW hPc hKc hDc⟩⟩ rfl rfl hl.1 rfl (lv_room (Nat.le_of_ble_eq_true rfl)) dX5_check_63 ⟨Nat.le_of_ble_eq_true rfl, Nat.le_of_ble_eq_true rfl⟩) hS (fun q _ h => hFc q h) hFc (fun r_42 u t H1 locs ht hvm hw hB hz1 hk1 hS => ?_)
                  subst r_42
                  obtain ⟨hP, hD⟩ := po.join (wr := [(h0, .inr (6, [.int 0, .long tl, .int ed, .long eg, .int aw, .long tk, .long un, .ref b1, .int sm, .ref b2, .int frs, .ref b3, .ref b4, .ref b5, .int bts, .ref b6, .int msn, .ref b7, .int flt, .int bh, .int mkd, .int sta, .int lvl, .long snc, .long tld, .int fst, .int snd, .int stp]))]) hP hD [] [0] rfl rfl (by decide) (by decide) hk1 hFc ht hB
                  generalize H1 = H at hP hS ⊢
                  clear ht hvm hB hz1 hk1 hPc hDc hKc hFc
                  have hP : va_P (dC, dI) vwCl [(h0, .inr (6, [.int 0, .long tl, .int ed, .long eg, .int aw, .long tk, .long un, .ref b1, .int sm, .ref b2, .int frs, .ref b3, .ref b4, .ref b5, .int bts, .ref b6, .int msn, .ref b7, .int flt, .int bh, .int mkd, .int sta, .int lvl, .long snc, .long tld, .int fst, .int snd, .int stp]))] H := hP
                  have hD : va_D A [(h0, .inr (6, [.int 0, .long tl, .int ed, .long eg, .int aw, .long tk, .long un, .ref b1, .int sm, .ref b2, .int frs, .ref b3, .ref b4, .ref b5, .int bts, .ref b6, .int msn, .ref b7, .int flt, .int bh, .int mkd, .int sta, .int lvl, .long snc, .long tld, .int fst, .int snd, .int stp]))] := hD
                  refine W.widen (k := 0) (n := 0) (Nat.le_of_ble_eq_true rfl) (Nat.le_of_ble_eq_true rfl) ?_
                  have hP9 : va_P (dC, dI) vwCl [(h0, .inr (6, [.int 0, .long tl, .int ed, .long eg, .int aw, .long tk, .long un, .ref b1, .int sm, .ref b2, .int frs, .ref b3, .ref b4, .ref b5, .int bts, .ref b6, .int msn, .ref b7, .int flt, .int bh, .int mkd, .int sta, .int lvl, .long snc, .long tld, .int fst, .int snd, .int stp]))] H := by exact hP.sub [0] rfl
                  have hD9 : va_D A [(h0, .inr (6, [.int 0, .long tl, .int ed, .long eg, .int aw, .long tk, .long un, .ref b1, .int sm, .ref b2, .int frs, .ref b3, .ref b4, .ref b5, .int bts, .ref b6, .int msn, .ref b7, .int flt, .int bh, .int mkd, .int sta, .int lvl, .long snc, .long tld, .int fst, .int snd, .int stp]))] := by exact hD.sub [0] (by decide) rfl
                  have e_44 : X5_turned_r 5 = X5_check_r row := by rw [X5_check_r, if_pos c_4, if_pos c_9, if_pos c_14, if_pos c_19, if_pos c_24, if_pos c_29, if_pos c_34, if_pos c_39]
                  exact W.iret (v := X5_turned_r 5) hx hb hr (fun t ht hW => ⟨⟨_, (), rfl, e_44, po.ret ht hW hP9 hK hD9⟩, hS.F ht⟩) hS.2.2 dX5_check_66
                · refine lv_iconst (v := 1) hx hb dX5_check_38 (by decide) ?_
                  refine lv_goto (tgt := 43) hx hb dX5_check_39 (by decide) ?_
                  refine lv_istore_n (lv' := [(3, .int 1), (5, .int ((row >>> ((0 : Int32) &&& 31)) &&& 15)), (4, .int 0), (2, .int 5), (0, .ref h0), (1, .int row)]) hx hb dX5_check_43 rfl hl (by decide) rfl (fun ls hl => ?_)
                  refine lv_iload_n hx hb dX5_check_44 rfl (lv_at hl 0 rfl) ?_
                  refine lv_if_eq (tgt := 56) hx hb dX5_check_45 (by decide) (fun c9 => absurd c9 (by decide)) (fun _ => ?_)
                  refine lv_iload_n hx hb dX5_check_48 rfl (lv_at hl 3 rfl) ?_
                  have hPc := hP.sub (ws' := []) [] rfl
                  have hDc := hD.sub (ws' := []) [] (by decide) rfl
                  have hKc := hK.sub (tys' := []) [] rfl
                  have hFc := va_free (wc := []) hD hS hA [] rfl
                  refine va_calli (va_runS (As := [.int 5]) (rest := []) ⟨hx, hb, hml, hown, hts⟩ (k_X5_turned l dC dI H.size 5) (va_cwS 1 hts gX5_check_X5_turned rfl rfl rfl (by decide +kernel) ⟨Nat.le_of_ble_eq_true rfl, Nat.le_of_ble_eq_true rfl⟩) ⟨pr.blind, fun U hU hW => ⟨rfl, pr.call hU hW hPc hKc hDc⟩⟩ rfl rfl hl.1 rfl (lv_room (Nat.le_of_ble_eq_true rfl)) dX5_check_49 ⟨Nat.le_of_ble_eq_true rfl, Nat.le_of_ble_eq_true rfl⟩) hS (fun q _ h => hFc q h) hFc (fun r_46 u t H1 locs ht hvm hw hB hz1 hk1 hS => ?_)
                  subst r_46
                  obtain ⟨hP, hD⟩ := po.join (wr := [(h0, .inr (6, [.int 0, .long tl, .int ed, .long eg, .int aw, .long tk, .long un, .ref b1, .int sm, .ref b2, .int frs, .ref b3, .ref b4, .ref b5, .int bts, .ref b6, .int msn, .ref b7, .int flt, .int bh, .int mkd, .int sta, .int lvl, .long snc, .long tld, .int fst, .int snd, .int stp]))]) hP hD [] [0] rfl rfl (by decide) (by decide) hk1 hFc ht hB
                  generalize H1 = H at hP hS ⊢
                  clear ht hvm hB hz1 hk1 hPc hDc hKc hFc
                  have hP : va_P (dC, dI) vwCl [(h0, .inr (6, [.int 0, .long tl, .int ed, .long eg, .int aw, .long tk, .long un, .ref b1, .int sm, .ref b2, .int frs, .ref b3, .ref b4, .ref b5, .int bts, .ref b6, .int msn, .ref b7, .int flt, .int bh, .int mkd, .int sta, .int lvl, .long snc, .long tld, .int fst, .int snd, .int stp]))] H := hP
                  have hD : va_D A [(h0, .inr (6, [.int 0, .long tl, .int ed, .long eg, .int aw, .long tk, .long un, .ref b1, .int sm, .ref b2, .int frs, .ref b3, .ref b4, .ref b5, .int bts, .ref b6, .int msn, .ref b7, .int flt, .int bh, .int mkd, .int sta, .int lvl, .long snc, .long tld, .int fst, .int snd, .int stp]))] := hD
                  refine W.widen (k := 0) (n := 0) (Nat.le_of_ble_eq_true rfl) (Nat.le_of_ble_eq_true rfl) ?_
                  refine lv_iload hx hb dX5_check_52 (lv_at hl 1 rfl) ?_
                  refine lv_ixor hx hb dX5_check_54 ?_
                  refine lv_istore_n (lv' := [(2, .int ((X5_turned_r 5) ^^^ ((row >>> ((0 : Int32) &&& 31)) &&& 15))), (3, .int 1), (5, .int ((row >>> ((0 : Int32) &&& 31)) &&& 15)), (4, .int 0), (0, .ref h0), (1, .int row)]) hx hb dX5_check_55 rfl hl (by decide) rfl (fun ls hl => ?_)
                  refine lv_iinc (v := (-1)) (lv' := [(4, .int (-1)), (2, .int ((X5_turned_r 5) ^^^ ((row >>> ((0 : Int32) &&& 31)) &&& 15))), (3, .int 1), (5, .int ((row >>> ((0 : Int32) &&& 31)) &&& 15)), (0, .ref h0), (1, .int row)]) hx hb dX5_check_56 hl (k := 3) rfl (by decide) (by decide) rfl (fun ls hl => ?_)
                  refine lv_goto (tgt := 13) hx hb dX5_check_59 (by decide) ?_
                  refine lv_iload hx hb dX5_check_13 (lv_at hl 0 rfl) ?_
                  refine lv_if_lt (tgt := 62) hx hb dX5_check_15 (by decide) (fun _ => ?_) (fun c9 => absurd c9 (by decide))
                  refine lv_iload_n hx hb dX5_check_62 rfl (lv_at hl 1 rfl) ?_
                  have hPc := hP.sub (ws' := []) [] rfl
                  have hDc := hD.sub (ws' := []) [] (by decide) rfl
                  have hKc := hK.sub (tys' := []) [] rfl
                  have hFc := va_free (wc := []) hD hS hA [] rfl
                  refine va_calli (va_runS (As := [.int ((X5_turned_r 5) ^^^ ((row >>> ((0 : Int32) &&& 31)) &&& 15))]) (rest := []) ⟨hx, hb, hml, hown, hts⟩ (k_X5_turned l dC dI H.size ((X5_turned_r 5) ^^^ ((row >>> ((0 : Int32) &&& 31)) &&& 15))) (va_cwS 1 hts gX5_check_X5_turned rfl rfl rfl (by decide +kernel) ⟨Nat.le_of_ble_eq_true rfl, Nat.le_of_ble_eq_true rfl⟩) ⟨pr.blind, fun U hU hW => ⟨rfl, pr.call hU hW hPc hKc hDc⟩⟩ rfl rfl hl.1 rfl (lv_room (Nat.le_of_ble_eq_true rfl)) dX5_check_63 ⟨Nat.le_of_ble_eq_true rfl, Nat.le_of_ble_eq_true rfl⟩) hS (fun q _ h => hFc q h) hFc (fun r_48 u t H1 locs ht hvm hw hB hz1 hk1 hS => ?_)
                  subst r_48
                  obtain ⟨hP, hD⟩ := po.join (wr := [(h0, .inr (6, [.int 0, .long tl, .int ed, .long eg, .int aw, .long tk, .long un, .ref b1, .int sm, .ref b2, .int frs, .ref b3, .ref b4, .ref b5, .int bts, .ref b6, .int msn, .ref b7, .int flt, .int bh, .int mkd, .int sta, .int lvl, .long snc, .long tld, .int fst, .int snd, .int stp]))]) hP hD [] [0] rfl rfl (by decide) (by decide) hk1 hFc ht hB
                  generalize H1 = H at hP hS ⊢
                  clear ht hvm hB hz1 hk1 hPc hDc hKc hFc
                  have hP : va_P (dC, dI) vwCl [(h0, .inr (6, [.int 0, .long tl, .int ed, .long eg, .int aw, .long tk, .long un, .ref b1, .int sm, .ref b2, .int frs, .ref b3, .ref b4, .ref b5, .int bts, .ref b6, .int msn, .ref b7, .int flt, .int bh, .int mkd, .int sta, .int lvl, .long snc, .long tld, .int fst, .int snd, .int stp]))] H := hP
                  have hD : va_D A [(h0, .inr (6, [.int 0, .long tl, .int ed, .long eg, .int aw, .long tk, .long un, .ref b1, .int sm, .ref b2, .int frs, .ref b3, .ref b4, .ref b5, .int bts, .ref b6, .int msn, .ref b7, .int flt, .int bh, .int mkd, .int sta, .int lvl, .long snc, .long tld, .int fst, .int snd, .int stp]))] := hD
                  refine W.widen (k := 0) (n := 0) (Nat.le_of_ble_eq_true rfl) (Nat.le_of_ble_eq_true rfl) ?_
                  have hP9 : va_P (dC, dI) vwCl [(h0, .inr (6, [.int 0, .long tl, .int ed, .long eg, .int aw, .long tk, .long un, .ref b1, .int sm, .ref b2, .int frs, .ref b3, .ref b4, .ref b5, .int bts, .ref b6, .int msn, .ref b7, .int flt, .int bh, .int mkd, .int sta, .int lvl, .long snc, .long tld, .int fst, .int snd, .int stp]))] H := by exact hP.sub [0] rfl
                  have hD9 : va_D A [(h0, .inr (6, [.int 0, .long tl, .int ed, .long eg, .int aw, .long tk, .long un, .ref b1, .int sm, .ref b2, .int frs, .ref b3, .ref b4, .ref b5, .int bts, .ref b6, .int msn, .ref b7, .int flt, .int bh, .int mkd, .int sta, .int lvl, .long snc, .long tld, .int fst, .int snd, .int stp]))] := by exact hD.sub [0] (by decide) rfl
                  have e_50 : X5_turned_r ((X5_turned_r 5) ^^^ ((row >>> ((0 : Int32) &&& 31)) &&& 15)) = X5_check_r row := by rw [X5_check_r, if_pos c_4, if_pos c_9, if_pos c_14, if_pos c_19, if_pos c_24, if_pos c_29, if_pos c_34, if_neg c_39]
                  exact W.iret (v := X5_turned_r ((X5_turned_r 5) ^^^ ((row >>> ((0 : Int32) &&& 31)) &&& 15))) hx hb hr (fun t ht hW => ⟨⟨_, (), rfl, e_50, po.ret ht hW hP9 hK hD9⟩, hS.F ht⟩) hS.2.2 dX5_check_66
              · refine lv_iconst (v := 1) hx hb dX5_check_38 (by decide) ?_
                refine lv_goto (tgt := 43) hx hb dX5_check_39 (by decide) ?_
                refine lv_istore_n (lv' := [(3, .int 1), (5, .int ((row >>> ((4 : Int32) &&& 31)) &&& 15)), (4, .int 1), (2, .int 5), (0, .ref h0), (1, .int row)]) hx hb dX5_check_43 rfl hl (by decide) rfl (fun ls hl => ?_)
                refine lv_iload_n hx hb dX5_check_44 rfl (lv_at hl 0 rfl) ?_
                refine lv_if_eq (tgt := 56) hx hb dX5_check_45 (by decide) (fun c9 => absurd c9 (by decide)) (fun _ => ?_)
                refine lv_iload_n hx hb dX5_check_48 rfl (lv_at hl 3 rfl) ?_
                have hPc := hP.sub (ws' := []) [] rfl
                have hDc := hD.sub (ws' := []) [] (by decide) rfl
                have hKc := hK.sub (tys' := []) [] rfl
                have hFc := va_free (wc := []) hD hS hA [] rfl
                refine va_calli (va_runS (As := [.int 5]) (rest := []) ⟨hx, hb, hml, hown, hts⟩ (k_X5_turned l dC dI H.size 5) (va_cwS 1 hts gX5_check_X5_turned rfl rfl rfl (by decide +kernel) ⟨Nat.le_of_ble_eq_true rfl, Nat.le_of_ble_eq_true rfl⟩) ⟨pr.blind, fun U hU hW => ⟨rfl, pr.call hU hW hPc hKc hDc⟩⟩ rfl rfl hl.1 rfl (lv_room (Nat.le_of_ble_eq_true rfl)) dX5_check_49 ⟨Nat.le_of_ble_eq_true rfl, Nat.le_of_ble_eq_true rfl⟩) hS (fun q _ h => hFc q h) hFc (fun r_52 u t H1 locs ht hvm hw hB hz1 hk1 hS => ?_)
                subst r_52
                obtain ⟨hP, hD⟩ := po.join (wr := [(h0, .inr (6, [.int 0, .long tl, .int ed, .long eg, .int aw, .long tk, .long un, .ref b1, .int sm, .ref b2, .int frs, .ref b3, .ref b4, .ref b5, .int bts, .ref b6, .int msn, .ref b7, .int flt, .int bh, .int mkd, .int sta, .int lvl, .long snc, .long tld, .int fst, .int snd, .int stp]))]) hP hD [] [0] rfl rfl (by decide) (by decide) hk1 hFc ht hB
                generalize H1 = H at hP hS ⊢
                clear ht hvm hB hz1 hk1 hPc hDc hKc hFc
                have hP : va_P (dC, dI) vwCl [(h0, .inr (6, [.int 0, .long tl, .int ed, .long eg, .int aw, .long tk, .long un, .ref b1, .int sm, .ref b2, .int frs, .ref b3, .ref b4, .ref b5, .int bts, .ref b6, .int msn, .ref b7, .int flt, .int bh, .int mkd, .int sta, .int lvl, .long snc, .long tld, .int fst, .int snd, .int stp]))] H := hP
                have hD : va_D A [(h0, .inr (6, [.int 0, .long tl, .int ed, .long eg, .int aw, .long tk, .long un, .ref b1, .int sm, .ref b2, .int frs, .ref b3, .ref b4, .ref b5, .int bts, .ref b6, .int msn, .ref b7, .int flt, .int bh, .int mkd, .int sta, .int lvl, .long snc, .long tld, .int fst, .int snd, .int stp]))] := hD
                refine W.widen (k := 0) (n := 0) (Nat.le_of_ble_eq_true rfl) (Nat.le_of_ble_eq_true rfl) ?_
                refine lv_iload hx hb dX5_check_52 (lv_at hl 1 rfl) ?_
                refine lv_ixor hx hb dX5_check_54 ?_
                refine lv_istore_n (lv' := [(2, .int ((X5_turned_r 5) ^^^ ((row >>> ((4 : Int32) &&& 31)) &&& 15))), (3, .int 1), (5, .int ((row >>> ((4 : Int32) &&& 31)) &&& 15)), (4, .int 1), (0, .ref h0), (1, .int row)]) hx hb dX5_check_55 rfl hl (by decide) rfl (fun ls hl => ?_)
                refine lv_iinc (v := 0) (lv' := [(4, .int 0), (2, .int ((X5_turned_r 5) ^^^ ((row >>> ((4 : Int32) &&& 31)) &&& 15))), (3, .int 1), (5, .int ((row >>> ((4 : Int32) &&& 31)) &&& 15)), (0, .ref h0), (1, .int row)]) hx hb dX5_check_56 hl (k := 3) rfl (by decide) (by decide) rfl (fun ls hl => ?_)
                refine lv_goto (tgt := 13) hx hb dX5_check_59 (by decide) ?_
                refine lv_iload hx hb dX5_check_13 (lv_at hl 0 rfl) ?_
                refine lv_if_lt (tgt := 62) hx hb dX5_check_15 (by decide) (fun c9 => absurd c9 (by decide)) (fun _ => ?_)
                refine lv_iload_n hx hb dX5_check_18 rfl (lv_at hl 5 rfl) ?_
                refine lv_iconst (v := 4) hx hb dX5_check_19 (by decide) ?_
                refine lv_iload hx hb dX5_check_20 (lv_at hl 0 rfl) ?_
                refine lv_imul hx hb dX5_check_22 ?_
                refine lv_topi (fun y_54 ey_54 => ?_)
                obtain rfl : y_54 = 0 := ey_54.trans (by decide)
                refine lv_ishr hx hb dX5_check_23 ?_
                refine lv_bipush (v := 15) hx hb dX5_check_24 (by decide) ?_
                refine lv_iand hx hb dX5_check_26 ?_
                refine lv_istore (lv' := [(5, .int ((row >>> ((0 : Int32) &&& 31)) &&& 15)), (4, .int 0), (2, .int ((X5_turned_r 5) ^^^ ((row >>> ((4 : Int32) &&& 31)) &&& 15))), (3, .int 1), (0, .ref h0), (1, .int row)]) hx hb dX5_check_27 hl (by decide) rfl (fun ls hl => ?_)
                refine lv_iload_n hx hb dX5_check_29 rfl (lv_at hl 3 rfl) ?_
                refine lv_if_ne (tgt := 38) hx hb dX5_check_30 (by decide) (fun _ => ?_) (fun c9 => absurd c9 (by decide))
                refine lv_iconst (v := 1) hx hb dX5_check_38 (by decide) ?_
                refine lv_goto (tgt := 43) hx hb dX5_check_39 (by decide) ?_
                refine lv_istore_n (lv' := [(3, .int 1), (5, .int ((row >>> ((0 : Int32) &&& 31)) &&& 15)), (4, .int 0), (2, .int ((X5_turned_r 5) ^^^ ((row >>> ((4 : Int32) &&& 31)) &&& 15))), (0, .ref h0), (1, .int row)]) hx hb dX5_check_43 rfl hl (by decide) rfl (fun ls hl => ?_)
                refine lv_iload_n hx hb dX5_check_44 rfl (lv_at hl 0 rfl) ?_
                refine lv_if_eq (tgt := 56) hx hb dX5_check_45 (by decide) (fun c9 => absurd c9 (by decide)) (fun _ => ?_)
                refine lv_iload_n hx hb dX5_check_48 rfl (lv_at hl 3 rfl) ?_
                have hPc := hP.sub (ws' := []) [] rfl
                have hDc := hD.sub (ws' := []) [] (by decide) rfl
                have hKc := hK.sub (tys' := []) [] rfl
                have hFc := va_free (wc := []) hD hS hA [] rfl
                refine va_calli (va_runS (As := [.int ((X5_turned_r 5) ^^^ ((row >>> ((4 : Int32) &&& 31)) &&& 15))]) (rest := []) ⟨hx, hb, hml, hown, hts⟩ (k_X5_turned l dC dI H.size ((X5_turned_r 5) ^^^ ((row >>> ((4 : Int32) &&& 31)) &&& 15))) (va_cwS 1 hts gX5_check_X5_turned rfl rfl rfl (by decide +kernel) ⟨Nat.le_of_ble_eq_true rfl, Nat.le_of_ble_eq_true rfl⟩) ⟨pr.blind, fun U hU hW => ⟨rfl, pr.call hU hW hPc hKc hDc⟩⟩ rfl rfl hl.1 rfl (lv_room (Nat.le_of_ble_eq_true rfl)) dX5_check_49 ⟨Nat.le_of_ble_eq_true rfl, Nat.le_of_ble_eq_true rfl⟩) hS (fun q _ h => hFc q h) hFc (fun r_57 u t H1 locs ht hvm hw hB hz1 hk1 hS => ?_)
                subst r_57
                obtain ⟨hP, hD⟩ := po.join (wr := [(h0, .inr (6, [.int 0, .long tl, .int ed, .long eg, .int aw, .long tk, .long un, .ref b1, .int sm, .ref b2, .int frs, .ref b3, .ref b4, .ref b5, .int bts, .ref b6, .int msn, .ref b7, .int flt, .int bh, .int mkd, .int sta, .int lvl, .long snc, .long tld, .int fst, .int snd, .int stp]))]) hP hD [] [0] rfl rfl (by decide) (by decide) hk1 hFc ht hB
                generalize H1 = H at hP hS ⊢
                clear ht hvm hB hz1 hk1 hPc hDc hKc hFc
                have hP : va_P (dC, dI) vwCl [(h0, .inr (6, [.int 0, .long tl, .int ed, .long eg, .int aw, .long tk, .long un, .ref b1, .int sm, .ref b2, .int frs, .ref b3, .ref b4, .ref b5, .int bts, .ref b6, .int msn, .ref b7, .int flt, .int bh, .int mkd, .int sta, .int lvl, .long snc, .long tld, .int fst, .int snd, .int stp]))] H := hP
                have hD : va_D A [(h0, .inr (6, [.int 0, .long tl, .int ed, .long eg, .int aw, .long tk, .long un, .ref b1, .int sm, .ref b2, .int frs, .ref b3, .ref b4, .ref b5, .int bts, .ref b6, .int msn, .ref b7, .int flt, .int bh, .int mkd, .int sta, .int lvl, .long snc, .long tld, .int fst, .int snd, .int stp]))] := hD
                refine W.widen (k := 0) (n := 0) (Nat.le_of_ble_eq_true rfl) (Nat.le_of_ble_eq_true rfl) ?_
                refine lv_iload hx hb dX5_check_52 (lv_at hl 1 rfl) ?_
                refine lv_ixor hx hb dX5_check_54 ?_
                refine lv_istore_n (lv' := [(2, .int ((X5_turned_r ((X5_turned_r 5) ^^^ ((row >>> ((4 : Int32) &&& 31)) &&& 15))) ^^^ ((row >>> ((0 : Int32) &&& 31)) &&& 15))), (3, .int 1), (5, .int ((row >>> ((0 : Int32) &&& 31)) &&& 15)), (4, .int 0), (0, .ref h0), (1, .int row)]) hx hb dX5_check_55 rfl hl (by decide) rfl (fun ls hl => ?_)
                refine lv_iinc (v := (-1)) (lv' := [(4, .int (-1)), (2, .int ((X5_turned_r ((X5_turned_r 5) ^^^ ((row >>> ((4 : Int32) &&& 31)) &&& 15))) ^^^ ((row >>> ((0 : Int32) &&& 31)) &&& 15))), (3, .int 1), (5, .int ((row >>> ((0 : Int32) &&& 31)) &&& 15)), (0, .ref h0), (1, .int row)]) hx hb dX5_check_56 hl (k := 3) rfl (by decide) (by decide) rfl (fun ls hl => ?_)
                refine lv_goto (tgt := 13) hx hb dX5_check_59 (by decide) ?_
                refine lv_iload hx hb dX5_check_13 (lv_at hl 0 rfl) ?_
                refine lv_if_lt (tgt := 62) hx hb dX5_check_15 (by decide) (fun _ => ?_) (fun c9 => absurd c9 (by decide))
                refine lv_iload_n hx hb dX5_check_62 rfl (lv_at hl 1 rfl) ?_
                have hPc := hP.sub (ws' := []) [] rfl
                have hDc := hD.sub (ws' := []) [] (by decide) rfl
                have hKc := hK.sub (tys' := []) [] rfl
                have hFc := va_free (wc := []) hD hS hA [] rfl
                refine va_calli (va_runS (As := [.int ((X5_turned_r ((X5_turned_r 5) ^^^ ((row >>> ((4 : Int32) &&& 31)) &&& 15))) ^^^ ((row >>> ((0 : Int32) &&& 31)) &&& 15))]) (rest := []) ⟨hx, hb, hml, hown, hts⟩ (k_X5_turned l dC dI H.size ((X5_turned_r ((X5_turned_r 5) ^^^ ((row >>> ((4 : Int32) &&& 31)) &&& 15))) ^^^ ((row >>> ((0 : Int32) &&& 31)) &&& 15))) (va_cwS 1 hts gX5_check_X5_turned rfl rfl rfl (by decide +kernel) ⟨Nat.le_of_ble_eq_true rfl, Nat.le_of_ble_eq_true rfl⟩) ⟨pr.blind, fun U hU hW => ⟨rfl, pr.call hU hW hPc hKc hDc⟩⟩ rfl rfl hl.1 rfl (lv_room (Nat.le_of_ble_eq_true rfl)) dX5_check_63 ⟨Nat.le_of_ble_eq_true rfl, Nat.le_of_ble_eq_true rfl⟩) hS (fun q _ h => hFc q h) hFc (fun r_59 u t H1 locs ht hvm hw hB hz1 hk1 hS => ?_)
                subst r_59
                obtain ⟨hP, hD⟩ := po.join (wr := [(h0, .inr (6, [.int 0, .long tl, .int ed, .long eg, .int aw, .long tk, .long un, .ref b1, .int sm, .ref b2, .int frs, .ref b3, .ref b4, .ref b5, .int bts, .ref b6, .int msn, .ref b7, .int flt, .int bh, .int mkd, .int sta, .int lvl, .long snc, .long tld, .int fst, .int snd, .int stp]))]) hP hD [] [0] rfl rfl (by decide) (by decide) hk1 hFc ht hB
                generalize H1 = H at hP hS ⊢
                clear ht hvm hB hz1 hk1 hPc hDc hKc hFc
                have hP : va_P (dC, dI) vwCl [(h0, .inr (6, [.int 0, .long tl, .int ed, .long eg, .int aw, .long tk, .long un, .ref b1, .int sm, .ref b2, .int frs, .ref b3, .ref b4, .ref b5, .int bts, .ref b6, .int msn, .ref b7, .int flt, .int bh, .int mkd, .int sta, .int lvl, .long snc, .long tld, .int fst, .int snd, .int stp]))] H := hP
                have hD : va_D A [(h0, .inr (6, [.int 0, .long tl, .int ed, .long eg, .int aw, .long tk, .long un, .ref b1, .int sm, .ref b2, .int frs, .ref b3, .ref b4, .ref b5, .int bts, .ref b6, .int msn, .ref b7, .int flt, .int bh, .int mkd, .int sta, .int lvl, .long snc, .long tld, .int fst, .int snd, .int stp]))] := hD
                refine W.widen (k := 0) (n := 0) (Nat.le_of_ble_eq_true rfl) (Nat.le_of_ble_eq_true rfl) ?_
                have hP9 : va_P (dC, dI) vwCl [(h0, .inr (6, [.int 0, .long tl, .int ed, .long eg, .int aw, .long tk, .long un, .ref b1, .int sm, .ref b2, .int frs, .ref b3, .ref b4, .ref b5, .int bts, .ref b6, .int msn, .ref b7, .int flt, .int bh, .int mkd, .int sta, .int lvl, .long snc, .long tld, .int fst, .int snd, .int stp]))] H := by exact hP.sub [0] rfl
                have hD9 : va_D A [(h0, .inr (6, [.int 0, .long tl, .int ed, .long eg, .int aw, .long tk, .long un, .ref b1, .int sm, .ref b2, .int frs, .ref b3, .ref b4, .ref b5, .int bts, .ref b6, .int msn, .ref b7, .int flt, .int bh, .int mkd, .int sta, .int lvl, .long snc, .long tld, .int fst, .int snd, .int stp]))] := by exact hD.sub [0] (by decide) rfl
                have e_61 : X5_turned_r ((X5_turned_r ((X5_turned_r 5) ^^^ ((row >>> ((4 : Int32) &&& 31)) &&& 15))) ^^^ ((row >>> ((0 : Int32) &&& 31)) &&& 15)) = X5_check_r row := by rw [X5_check_r, if_pos c_4, if_pos c_9, if_pos c_14, if_pos c_19, if_pos c_24, if_pos c_29, if_neg c_34]
                exact W.iret (v := X5_turned_r ((X5_turned_r ((X5_turned_r 5) ^^^ ((row >>> ((4 : Int32) &&& 31)) &&& 15))) ^^^ ((row >>> ((0 : Int32) &&& 31)) &&& 15))) hx hb hr (fun t ht hW => ⟨⟨_, (), rfl, e_61, po.ret ht hW hP9 hK hD9⟩, hS.F ht⟩) hS.2.2 dX5_check_66
            · refine lv_iconst (v := 1) hx hb dX5_check_38 (by decide) ?_
              refine lv_goto (tgt := 43) hx hb dX5_check_39 (by decide) ?_
              refine lv_istore_n (lv' := [(3, .int 1), (5, .int ((row >>> ((8 : Int32) &&& 31)) &&& 15)), (4, .int 2), (2, .int 5), (0, .ref h0), (1, .int row)]) hx hb dX5_check_43 rfl hl (by decide) rfl (fun ls hl => ?_)
              refine lv_iload_n hx hb dX5_check_44 rfl (lv_at hl 0 rfl) ?_
              refine lv_if_eq (tgt := 56) hx hb dX5_check_45 (by decide) (fun c9 => absurd c9 (by decide)) (fun _ => ?_)
              refine lv_iload_n hx hb dX5_check_48 rfl (lv_at hl 3 rfl) ?_
              have hPc := hP.sub (ws' := []) [] rfl
              have hDc := hD.sub (ws' := []) [] (by decide) rfl
              have hKc := hK.sub (tys' := []) [] rfl
              have hFc := va_free (wc := []) hD hS hA [] rfl
              refine va_calli (va_runS (As := [.int 5]) (rest := []) ⟨hx, hb, hml, hown, hts⟩ (k_X5_turned l dC dI H.size 5) (va_cwS 1 hts gX5_check_X5_turned rfl rfl rfl (by decide +kernel) ⟨Nat.le_of_ble_eq_true rfl, Nat.le_of_ble_eq_true rfl⟩) ⟨pr.blind, fun U hU hW => ⟨rfl, pr.call hU hW hPc hKc hDc⟩⟩ rfl rfl hl.1 rfl (lv_room (Nat.le_of_ble_eq_true rfl)) dX5_check_49 ⟨Nat.le_of_ble_eq_true rfl, Nat.le_of_ble_eq_true rfl⟩) hS (fun q _ h => hFc q h) hFc (fun r_63 u t H1 locs ht hvm hw hB hz1 hk1 hS => ?_)
              subst r_63
              obtain ⟨hP, hD⟩ := po.join (wr := [(h0, .inr (6, [.int 0, .long tl, .int ed, .long eg, .int aw, .long tk, .long un, .ref b1, .int sm, .ref b2, .int frs, .ref b3, .ref b4, .ref b5, .int bts, .ref b6, .int msn, .ref b7, .int flt, .int bh, .int mkd, .int sta, .int lvl, .long snc, .long tld, .int fst, .int snd, .int stp]))]) hP hD [] [0] rfl rfl (by decide) (by decide) hk1 hFc ht hB
              generalize H1 = H at hP hS ⊢
              clear ht hvm hB hz1 hk1 hPc hDc hKc hFc
              have hP : va_P (dC, dI) vwCl [(h0, .inr (6, [.int 0, .long tl, .int ed, .long eg, .int aw, .long tk, .long un, .ref b1, .int sm, .ref b2, .int frs, .ref b3, .ref b4, .ref b5, .int bts, .ref b6, .int msn, .ref b7, .int flt, .int bh, .int mkd, .int sta, .int lvl, .long snc, .long tld, .int fst, .int snd, .int stp]))] H := hP
              have hD : va_D A [(h0, .inr (6, [.int 0, .long tl, .int ed, .long eg, .int aw, .long tk, .long un, .ref b1, .int sm, .ref b2, .int frs, .ref b3, .ref b4, .ref b5, .int bts, .ref b6, .int msn, .ref b7, .int flt, .int bh, .int mkd, .int sta, .int lvl, .long snc, .long tld, .int fst, .int snd, .int stp]))] := hD
              refine W.widen (k := 0) (n := 0) (Nat.le_of_ble_eq_true rfl) (Nat.le_of_ble_eq_true rfl) ?_
              refine lv_iload hx hb dX5_check_52 (lv_at hl 1 rfl) ?_
              refine lv_ixor hx hb dX5_check_54 ?_
              refine lv_istore_n (lv' := [(2, .int ((X5_turned_r 5) ^^^ ((row >>> ((8 : Int32) &&& 31)) &&& 15))), (3, .int 1), (5, .int ((row >>> ((8 : Int32) &&& 31)) &&& 15)), (4, .int 2), (0, .ref h0), (1, .int row)]) hx hb dX5_check_55 rfl hl (by decide) rfl (fun ls hl => ?_)
              refine lv_iinc (v := 1) (lv' := [(4, .int 1), (2, .int ((X5_turned_r 5) ^^^ ((row >>> ((8 : Int32) &&& 31)) &&& 15))), (3, .int 1), (5, .int ((row >>> ((8 : Int32) &&& 31)) &&& 15)), (0, .ref h0), (1, .int row)]) hx hb dX5_check_56 hl (k := 3) rfl (by decide) (by decide) rfl (fun ls hl => ?_)
              refine lv_goto (tgt := 13) hx hb dX5_check_59 (by decide) ?_
              refine lv_iload hx hb dX5_check_13 (lv_at hl 0 rfl) ?_
              refine lv_if_lt (tgt := 62) hx hb dX5_check_15 (by decide) (fun c9 => absurd c9 (by decide)) (fun _ => ?_)
              refine lv_iload_n hx hb dX5_check_18 rfl (lv_at hl 5 rfl) ?_
              refine lv_iconst (v := 4) hx hb dX5_check_19 (by decide) ?_
              refine lv_iload hx hb dX5_check_20 (lv_at hl 0 rfl) ?_
              refine lv_imul hx hb dX5_check_22 ?_
              refine lv_topi (fun y_65 ey_65 => ?_)
              obtain rfl : y_65 = 4 := ey_65.trans (by decide)
              refine lv_ishr hx hb dX5_check_23 ?_
              refine lv_bipush (v := 15) hx hb dX5_check_24 (by decide) ?_
              refine lv_iand hx hb dX5_check_26 ?_
              refine lv_istore (lv' := [(5, .int ((row >>> ((4 : Int32) &&& 31)) &&& 15)), (4, .int 1), (2, .int ((X5_turned_r 5) ^^^ ((row >>> ((8 : Int32) &&& 31)) &&& 15))), (3, .int 1), (0, .ref h0), (1, .int row)]) hx hb dX5_check_27 hl (by decide) rfl (fun ls hl => ?_)
              refine lv_iload_n hx hb dX5_check_29 rfl (lv_at hl 3 rfl) ?_
              refine lv_if_ne (tgt := 38) hx hb dX5_check_30 (by decide) (fun _ => ?_) (fun c9 => absurd c9 (by decide))
              refine lv_iconst (v := 1) hx hb dX5_check_38 (by decide) ?_
              refine lv_goto (tgt := 43) hx hb dX5_check_39 (by decide) ?_
              refine lv_istore_n (lv' := [(3, .int 1), (5, .int ((row >>> ((4 : Int32) &&& 31)) &&& 15)), (4, .int 1), (2, .int ((X5_turned_r 5) ^^^ ((row >>> ((8 : Int32) &&& 31)) &&& 15))), (0, .ref h0), (1, .int row)]) hx hb dX5_check_43 rfl hl (by decide) rfl (fun ls hl => ?_)
              refine lv_iload_n hx hb dX5_check_44 rfl (lv_at hl 0 rfl) ?_
              refine lv_if_eq (tgt := 56) hx hb dX5_check_45 (by decide) (fun c9 => absurd c9 (by decide)) (fun _ => ?_)
              refine lv_iload_n hx hb dX5_check_48 rfl (lv_at hl 3 rfl) ?_
              have hPc := hP.sub (ws' := []) [] rfl
              have hDc := hD.sub (ws' := []) [] (by decide) rfl
              have hKc := hK.sub (tys' := []) [] rfl
              have hFc := va_free (wc := []) hD hS hA [] rfl
              refine va_calli (va_runS (As := [.int ((X5_turned_r 5) ^^^ ((row >>> ((8 : Int32) &&& 31)) &&& 15))]) (rest := []) ⟨hx, hb, hml, hown, hts⟩ (k_X5_turned l dC dI H.size ((X5_turned_r 5) ^^^ ((row >>> ((8 : Int32) &&& 31)) &&& 15))) (va_cwS 1 hts gX5_check_X5_turned rfl rfl rfl (by decide +kernel) ⟨Nat.le_of_ble_eq_true rfl, Nat.le_of_ble_eq_true rfl⟩) ⟨pr.blind, fun U hU hW => ⟨rfl, pr.call hU hW hPc hKc hDc⟩⟩ rfl rfl hl.1 rfl (lv_room (Nat.le_of_ble_eq_true rfl)) dX5_check_49 ⟨Nat.le_of_ble_eq_true rfl, Nat.le_of_ble_eq_true rfl⟩) hS (fun q _ h => hFc q h) hFc (fun r_68 u t H1 locs ht hvm hw hB hz1 hk1 hS => ?_)
              subst r_68
              obtain ⟨hP, hD⟩ := po.join (wr := [(h0, .inr (6, [.int 0, .long tl, .int ed, .long eg, .int aw, .long tk, .long un, .ref b1, .int sm, .ref b2, .int frs, .ref b3, .ref b4, .ref b5, .int bts, .ref b6, .int msn, .ref b7, .int flt, .int bh, .int mkd, .int sta, .int lvl, .long snc, .long tld, .int fst, .int snd, .int stp]))]) hP hD [] [0] rfl rfl (by decide) (by decide) hk1 hFc ht hB
              generalize H1 = H at hP hS ⊢
              clear ht hvm hB hz1 hk1 hPc hDc hKc hFc
              have hP : va_P (dC, dI) vwCl [(h0, .inr (6, [.int 0, .long tl, .int ed, .long eg, .int aw, .long tk, .long un, .ref b1, .int sm, .ref b2, .int frs, .ref b3, .ref b4, .ref b5, .int bts, .ref b6, .int msn, .ref b7, .int flt, .int bh, .int mkd, .int sta, .int lvl, .long snc, .long tld, .int fst, .int snd, .int stp]))] H := hP
              have hD : va_D A [(h0, .inr (6, [.int 0, .long tl, .int ed, .long eg, .int aw, .long tk, .long un, .ref b1, .int sm, .ref b2, .int frs, .ref b3, .ref b4, .ref b5, .int bts, .ref b6, .int msn, .ref b7, .int flt, .int bh, .int mkd, .int sta, .int lvl, .long snc, .long tld, .int fst, .int snd, .int stp]))] := hD
              refine W.widen (k := 0) (n := 0) (Nat.le_of_ble_eq_true rfl) (Nat.le_of_ble_eq_true rfl) ?_
              refine lv_iload hx hb dX5_check_52 (lv_at hl 1 rfl) ?_
              refine lv_ixor hx hb dX5_check_54 ?_
              refine lv_istore_n (lv' := [(2, .int ((X5_turned_r ((X5_turned_r 5) ^^^ ((row >>> ((8 : Int32) &&& 31)) &&& 15))) ^^^ ((row >>> ((4 : Int32) &&& 31)) &&& 15))), (3, .int 1), (5, .int ((row >>> ((4 : Int32) &&& 31)) &&& 15)), (4, .int 1), (0, .ref h0), (1, .int row)]) hx hb dX5_check_55 rfl hl (by decide) rfl (fun ls hl => ?_)
              refine lv_iinc (v := 0) (lv' := [(4, .int 0), (2, .int ((X5_turned_r ((X5_turned_r 5) ^^^ ((row >>> ((8 : Int32) &&& 31)) &&& 15))) ^^^ ((row >>> ((4 : Int32) &&& 31)) &&& 15))), (3, .int 1), (5, .int ((row >>> ((4 : Int32) &&& 31)) &&& 15)), (0, .ref h0), (1, .int row)]) hx hb dX5_check_56 hl (k := 3) rfl (by decide) (by decide) rfl (fun ls hl => ?_)
              refine lv_goto (tgt := 13) hx hb dX5_check_59 (by decide) ?_
              refine lv_iload hx hb dX5_check_13 (lv_at hl 0 rfl) ?_
              refine lv_if_lt (tgt := 62) hx hb dX5_check_15 (by decide) (fun c9 => absurd c9 (by decide)) (fun _ => ?_)
              refine lv_iload_n hx hb dX5_check_18 rfl (lv_at hl 5 rfl) ?_
              refine lv_iconst (v := 4) hx hb dX5_check_19 (by decide) ?_
              refine lv_iload hx hb dX5_check_20 (lv_at hl 0 rfl) ?_
              refine lv_imul hx hb dX5_check_22 ?_
              refine lv_topi (fun y_70 ey_70 => ?_)
              obtain rfl : y_70 = 0 := ey_70.trans (by decide)
              refine lv_ishr hx hb dX5_check_23 ?_
              refine lv_bipush (v := 15) hx hb dX5_check_24 (by decide) ?_
              refine lv_iand hx hb dX5_check_26 ?_
              refine lv_istore (lv' := [(5, .int ((row >>> ((0 : Int32) &&& 31)) &&& 15)), (4, .int 0), (2, .int ((X5_turned_r ((X5_turned_r 5) ^^^ ((row >>> ((8 : Int32) &&& 31)) &&& 15))) ^^^ ((row >>> ((4 : Int32) &&& 31)) &&& 15))), (3, .int 1), (0, .ref h0), (1, .int row)]) hx hb dX5_check_27 hl (by decide) rfl (fun ls hl => ?_)
              refine lv_iload_n hx hb dX5_check_29 rfl (lv_at hl 3 rfl) ?_
              refine lv_if_ne (tgt := 38) hx hb dX5_check_30 (by decide) (fun _ => ?_) (fun c9 => absurd c9 (by decide))
              refine lv_iconst (v := 1) hx hb dX5_check_38 (by decide) ?_
              refine lv_goto (tgt := 43) hx hb dX5_check_39 (by decide) ?_
              refine lv_istore_n (lv' := [(3, .int 1), (5, .int ((row >>> ((0 : Int32) &&& 31)) &&& 15)), (4, .int 0), (2, .int ((X5_turned_r ((X5_turned_r 5) ^^^ ((row >>> ((8 : Int32) &&& 31)) &&& 15))) ^^^ ((row >>> ((4 : Int32) &&& 31)) &&& 15))), (0, .ref h0), (1, .int row)]) hx hb dX5_check_43 rfl hl (by decide) rfl (fun ls hl => ?_)
              refine lv_iload_n hx hb dX5_check_44 rfl (lv_at hl 0 rfl) ?_
              refine lv_if_eq (tgt := 56) hx hb dX5_check_45 (by decide) (fun c9 => absurd c9 (by decide)) (fun _ => ?_)
              refine lv_iload_n hx hb dX5_check_48 rfl (lv_at hl 3 rfl) ?_
              have hPc := hP.sub (ws' := []) [] rfl
              have hDc := hD.sub (ws' := []) [] (by decide) rfl
              have hKc := hK.sub (tys' := []) [] rfl
              have hFc := va_free (wc := []) hD hS hA [] rfl
              refine va_calli (va_runS (As := [.int ((X5_turned_r ((X5_turned_r 5) ^^^ ((row >>> ((8 : Int32) &&& 31)) &&& 15))) ^^^ ((row >>> ((4 : Int32) &&& 31)) &&& 15))]) (rest := []) ⟨hx, hb, hml, hown, hts⟩ (k_X5_turned l dC dI H.size ((X5_turned_r ((X5_turned_r 5) ^^^ ((row >>> ((8 : Int32) &&& 31)) &&& 15))) ^^^ ((row >>> ((4 : Int32) &&& 31)) &&& 15))) (va_cwS 1 hts gX5_check_X5_turned rfl rfl rfl (by decide +kernel) ⟨Nat.le_of_ble_eq_true rfl, Nat.le_of_ble_eq_true rfl⟩) ⟨pr.blind, fun U hU hW => ⟨rfl, pr.call hU hW hPc hKc hDc⟩⟩ rfl rfl hl.1 rfl (lv_room (Nat.le_of_ble_eq_true rfl)) dX5_check_49 ⟨Nat.le_of_ble_eq_true rfl, Nat.le_of_ble_eq_true rfl⟩) hS (fun q _ h => hFc q h) hFc (fun r_73 u t H1 locs ht hvm hw hB hz1 hk1 hS => ?_)
              subst r_73
              obtain ⟨hP, hD⟩ := po.join (wr := [(h0, .inr (6, [.int 0, .long tl, .int ed, .long eg, .int aw, .long tk, .long un, .ref b1, .int sm, .ref b2, .int frs, .ref b3, .ref b4, .ref b5, .int bts, .ref b6, .int msn, .ref b7, .int flt, .int bh, .int mkd, .int sta, .int lvl, .long snc, .long tld, .int fst, .int snd, .int stp]))]) hP hD [] [0] rfl rfl (by decide) (by decide) hk1 hFc ht hB
              generalize H1 = H at hP hS ⊢
              clear ht hvm hB hz1 hk1 hPc hDc hKc hFc
              have hP : va_P (dC, dI) vwCl [(h0, .inr (6, [.int 0, .long tl, .int ed, .long eg, .int aw, .long tk, .long un, .ref b1, .int sm, .ref b2, .int frs, .ref b3, .ref b4, .ref b5, .int bts, .ref b6, .int msn, .ref b7, .int flt, .int bh, .int mkd, .int sta, .int lvl, .long snc, .long tld, .int fst, .int snd, .int stp]))] H := hP
              have hD : va_D A [(h0, .inr (6, [.int 0, .long tl, .int ed, .long eg, .int aw, .long tk, .long un, .ref b1, .int sm, .ref b2, .int frs, .ref b3, .ref b4, .ref b5, .int bts, .ref b6, .int msn, .ref b7, .int flt, .int bh, .int mkd, .int sta, .int lvl, .long snc, .long tld, .int fst, .int snd, .int stp]))] := hD
              refine W.widen (k := 0) (n := 0) (Nat.le_of_ble_eq_true rfl) (Nat.le_of_ble_eq_true rfl) ?_
              refine lv_iload hx hb dX5_check_52 (lv_at hl 1 rfl) ?_
              refine lv_ixor hx hb dX5_check_54 ?_
              refine lv_istore_n (lv' := [(2, .int ((X5_turned_r ((X5_turned_r ((X5_turned_r 5) ^^^ ((row >>> ((8 : Int32) &&& 31)) &&& 15))) ^^^ ((row >>> ((4 : Int32) &&& 31)) &&& 15))) ^^^ ((row >>> ((0 : Int32) &&& 31)) &&& 15))), (3, .int 1), (5, .int ((row >>> ((0 : Int32) &&& 31)) &&& 15)), (4, .int 0), (0, .ref h0), (1, .int row)]) hx hb dX5_check_55 rfl hl (by decide) rfl (fun ls hl => ?_)
              refine lv_iinc (v := (-1)) (lv' := [(4, .int (-1)), (2, .int ((X5_turned_r ((X5_turned_r ((X5_turned_r 5) ^^^ ((row >>> ((8 : Int32) &&& 31)) &&& 15))) ^^^ ((row >>> ((4 : Int32) &&& 31)) &&& 15))) ^^^ ((row >>> ((0 : Int32) &&& 31)) &&& 15))), (3, .int 1), (5, .int ((row >>> ((0 : Int32) &&& 31)) &&& 15)), (0, .ref h0), (1, .int row)]) hx hb dX5_check_56 hl (k := 3) rfl (by decide) (by decide) rfl (fun ls hl => ?_)
              refine lv_goto (tgt := 13) hx hb dX5_check_59 (by decide) ?_
              refine lv_iload hx hb dX5_check_13 (lv_at hl 0 rfl) ?_
              refine lv_if_lt (tgt := 62) hx hb dX5_check_15 (by decide) (fun _ => ?_) (fun c9 => absurd c9 (by decide))
              refine lv_iload_n hx hb dX5_check_62 rfl (lv_at hl 1 rfl) ?_
              have hPc := hP.sub (ws' := []) [] rfl
              have hDc := hD.sub (ws' := []) [] (by decide) rfl
              have hKc := hK.sub (tys' := []) [] rfl
              have hFc := va_free (wc := []) hD hS hA [] rfl
              refine va_calli (va_runS (As := [.int ((X5_turned_r ((X5_turned_r ((X5_turned_r 5) ^^^ ((row >>> ((8 : Int32) &&& 31)) &&& 15))) ^^^ ((row >>> ((4 : Int32) &&& 31)) &&& 15))) ^^^ ((row >>> ((0 : Int32) &&& 31)) &&& 15))]) (rest := []) ⟨hx, hb, hml, hown, hts⟩ (k_X5_turned l dC dI H.size ((X5_turned_r ((X5_turned_r ((X5_turned_r 5) ^^^ ((row >>> ((8 : Int32) &&& 31)) &&& 15))) ^^^ ((row >>> ((4 : Int32) &&& 31)) &&& 15))) ^^^ ((row >>> ((0 : Int32) &&& 31)) &&& 15))) (va_cwS 1 hts gX5_check_X5_turned rfl rfl rfl (by decide +kernel) ⟨Nat.le_of_ble_eq_true rfl, Nat.le_of_ble_eq_true rfl⟩) ⟨pr.blind, fun U hU hW => ⟨rfl, pr.call hU hW hPc hKc hDc⟩⟩ rfl rfl hl.1 rfl (lv_room (Nat.le_of_ble_eq_true rfl)) dX5_check_63 ⟨Nat.le_of_ble_eq_true rfl, Nat.le_of_ble_eq_true rfl⟩) hS (fun q _ h => hFc q h) hFc (fun r_75 u t H1 locs ht hvm hw hB hz1 hk1 hS => ?_)
              subst r_75
              obtain ⟨hP, hD⟩ := po.join (wr := [(h0, .inr (6, [.int 0, .long tl, .int ed, .long eg, .int aw, .long tk, .long un, .ref b1, .int sm, .ref b2, .int frs, .ref b3, .ref b4, .ref b5, .int bts, .ref b6, .int msn, .ref b7, .int flt, .int bh, .int mkd, .int sta, .int lvl, .long snc, .long tld, .int fst, .int snd, .int stp]))]) hP hD [] [0] rfl rfl (by decide) (by decide) hk1 hFc ht hB
              generalize H1 = H at hP hS ⊢
              clear ht hvm hB hz1 hk1 hPc hDc hKc hFc
              have hP : va_P (dC, dI) vwCl [(h0, .inr (6, [.int 0, .long tl, .int ed, .long eg, .int aw, .long tk, .long un, .ref b1, .int sm, .ref b2, .int frs, .ref b3, .ref b4, .ref b5, .int bts, .ref b6, .int msn, .ref b7, .int flt, .int bh, .int mkd, .int sta, .int lvl, .long snc, .long tld, .int fst, .int snd, .int stp]))] H := hP
              have hD : va_D A [(h0, .inr (6, [.int 0, .long tl, .int ed, .long eg, .int aw, .long tk, .long un, .ref b1, .int sm, .ref b2, .int frs, .ref b3, .ref b4, .ref b5, .int bts, .ref b6, .int msn, .ref b7, .int flt, .int bh, .int mkd, .int sta, .int lvl, .long snc, .long tld, .int fst, .int snd, .int stp]))] := hD
              refine W.widen (k := 0) (n := 0) (Nat.le_of_ble_eq_true rfl) (Nat.le_of_ble_eq_true rfl) ?_
              have hP9 : va_P (dC, dI) vwCl [(h0, .inr (6, [.int 0, .long tl, .int ed, .long eg, .int aw, .long tk, .long un, .ref b1, .int sm, .ref b2, .int frs, .ref b3, .ref b4, .ref b5, .int bts, .ref b6, .int msn, .ref b7, .int flt, .int bh, .int mkd, .int sta, .int lvl, .long snc, .long tld, .int fst, .int snd, .int stp]))] H := by exact hP.sub [0] rfl
              have hD9 : va_D A [(h0, .inr (6, [.int 0, .long tl, .int ed, .long eg, .int aw, .long tk, .long un, .ref b1, .int sm, .ref b2, .int frs, .ref b3, .ref b4, .ref b5, .int bts, .ref b6, .int msn, .ref b7, .int flt, .int bh, .int mkd, .int sta, .int lvl, .long snc, .long tld, .int fst, .int snd, .int stp]))] := by exact hD.sub [0] (by decide) rfl
              have e_77 : X5_turned_r ((X5_turned_r ((X5_turned_r ((X5_turned_r 5) ^^^ ((row >>> ((8 : Int32) &&& 31)) &&& 15))) ^^^ ((row >>> ((4 : Int32) &&& 31)) &&& 15))) ^^^ ((row >>> ((0 : Int32) &&& 31)) &&& 15)) = X5_check_r row := by rw [X5_check_r, if_pos c_4, if_pos c_9, if_pos c_14, if_pos c_19, if_pos c_24, if_neg c_29]
              exact W.iret (v := X5_turned_r ((X5_turned_r ((X5_turned_r ((X5_turned_r 5) ^^^ ((row >>> ((8 : Int32) &&& 31)) &&& 15))) ^^^ ((row >>> ((4 : Int32) &&& 31)) &&& 15))) ^^^ ((row >>> ((0 : Int32) &&& 31)) &&& 15))) hx hb hr (fun t ht hW => ⟨⟨_, (), rfl, e_77, po.ret ht hW hP9 hK hD9⟩, hS.F ht⟩) hS.2.2 dX5_check_66
          · refine lv_iconst (v := 1) hx hb dX5_check_38 (by decide) ?_
            refine lv_goto (tgt := 43) hx hb dX5_check_39 (by decide) ?_
            refine lv_istore_n (lv' := [(3, .int 1), (5, .int ((row >>> ((12 : Int32) &&& 31)) &&& 15)), (4, .int 3), (2, .int 5), (0, .ref h0), (1, .int row)]) hx hb dX5_check_43 rfl hl (by decide) rfl (fun ls hl => ?_)
            refine lv_iload_n hx hb dX5_check_44 rfl (lv_at hl 0 rfl) ?_
            refine lv_if_eq (tgt := 56) hx hb dX5_check_45 (by decide) (fun c9 => absurd c9 (by decide)) (fun _ => ?_)
            refine lv_iload_n hx hb dX5_check_48 rfl (lv_at hl 3 rfl) ?_
            have hPc := hP.sub (ws' := []) [] rfl
            have hDc := hD.sub (ws' := []) [] (by decide) rfl
            have hKc := hK.sub (tys' := []) [] rfl
            have hFc := va_free (wc := []) hD hS hA [] rfl
            refine va_calli (va_runS (As := [.int 5]) (rest := []) ⟨hx, hb, hml, hown, hts⟩ (k_X5_turned l dC dI H.size 5) (va_cwS 1 hts gX5_check_X5_turned rfl rfl rfl (by decide +kernel) ⟨Nat.le_of_ble_eq_true rfl, Nat.le_of_ble_eq_true rfl⟩) ⟨pr.blind, fun U hU hW => ⟨rfl, pr.call hU hW hPc hKc hDc⟩⟩ rfl rfl hl.1 rfl (lv_room (Nat.le_of_ble_eq_true rfl)) dX5_check_49 ⟨Nat.le_of_ble_eq_true rfl, Nat.le_of_ble_eq_true rfl⟩) hS (fun q _ h => hFc q h) hFc (fun r_79 u t H1 locs ht hvm hw hB hz1 hk1 hS => ?_)
            subst r_79
            obtain ⟨hP, hD⟩ := po.join (wr := [(h0, .inr (6, [.int 0, .long tl, .int ed, .long eg, .int aw, .long tk, .long un, .ref b1, .int sm, .ref b2, .int frs, .ref b3, .ref b4, .ref b5, .int bts, .ref b6, .int msn, .ref b7, .int flt, .int bh, .int mkd, .int sta, .int lvl, .long snc, .long tld, .int fst, .int snd, .int stp]))]) hP hD [] [0] rfl rfl (by decide) (by decide) hk1 hFc ht hB
            generalize H1 = H at hP hS ⊢
            clear ht hvm hB hz1 hk1 hPc hDc hKc hFc
            have hP : va_P (dC, dI) vwCl [(h0, .inr (6, [.int 0, .long tl, .int ed, .long eg, .int aw, .long tk, .long un, .ref b1, .int sm, .ref b2, .int frs, .ref b3, .ref b4, .ref b5, .int bts, .ref b6, .int msn, .ref b7, .int flt, .int bh, .int mkd, .int sta, .int lvl, .long snc, .long tld, .int fst, .int snd, .int stp]))] H := hP
            have hD : va_D A [(h0, .inr (6, [.int 0, .long tl, .int ed, .long eg, .int aw, .long tk, .long un, .ref b1, .int sm, .ref b2, .int frs, .ref b3, .ref b4, .ref b5, .int bts, .ref b6, .int msn, .ref b7, .int flt, .int bh, .int mkd, .int sta, .int lvl, .long snc, .long tld, .int fst, .int snd, .int stp]))] := hD
            refine W.widen (k := 0) (n := 0) (Nat.le_of_ble_eq_true rfl) (Nat.le_of_ble_eq_true rfl) ?_
            refine lv_iload hx hb dX5_check_52 (lv_at hl 1 rfl) ?_
            refine lv_ixor hx hb dX5_check_54 ?_
            refine lv_istore_n (lv' := [(2, .int ((X5_turned_r 5) ^^^ ((row >>> ((12 : Int32) &&& 31)) &&& 15))), (3, .int 1), (5, .int ((row >>> ((12 : Int32) &&& 31)) &&& 15)), (4, .int 3), (0, .ref h0), (1, .int row)]) hx hb dX5_check_55 rfl hl (by decide) rfl (fun ls hl => ?_)
            refine lv_iinc (v := 2) (lv' := [(4, .int 2), (2, .int ((X5_turned_r 5) ^^^ ((row >>> ((12 : Int32) &&& 31)) &&& 15))), (3, .int 1), (5, .int ((row >>> ((12 : Int32) &&& 31)) &&& 15)), (0, .ref h0), (1, .int row)]) hx hb dX5_check_56 hl (k := 3) rfl (by decide) (by decide) rfl (fun ls hl => ?_)
            refine lv_goto (tgt := 13) hx hb dX5_check_59 (by decide) ?_
            refine lv_iload hx hb dX5_check_13 (lv_at hl 0 rfl) ?_
            refine lv_if_lt (tgt := 62) hx hb dX5_check_15 (by decide) (fun c9 => absurd c9 (by decide)) (fun _ => ?_)
            refine lv_iload_n hx hb dX5_check_18 rfl (lv_at hl 5 rfl) ?_
            refine lv_iconst (v := 4) hx hb dX5_check_19 (by decide) ?_
            refine lv_iload hx hb dX5_check_20 (lv_at hl 0 rfl) ?_
            refine lv_imul hx hb dX5_check_22 ?_
            refine lv_topi (fun y_81 ey_81 => ?_)
            obtain rfl : y_81 = 8 := ey_81.trans (by decide)
            refine lv_ishr hx hb dX5_check_23 ?_
            refine lv_bipush (v := 15) hx hb dX5_check_24 (by decide) ?_
            refine lv_iand hx hb dX5_check_26 ?_
            refine lv_istore (lv' := [(5, .int ((row >>> ((8 : Int32) &&& 31)) &&& 15)), (4, .int 2), (2, .int ((X5_turned_r 5) ^^^ ((row >>> ((12 : Int32) &&& 31)) &&& 15))), (3, .int 1), (0, .ref h0), (1, .int row)]) hx hb dX5_check_27 hl (by decide) rfl (fun ls hl => ?_)
            refine lv_iload_n hx hb dX5_check_29 rfl (lv_at hl 3 rfl) ?_
            refine lv_if_ne (tgt := 38) hx hb dX5_check_30 (by decide) (fun _ => ?_) (fun c9 => absurd c9 (by decide))
            refine lv_iconst (v := 1) hx hb dX5_check_38 (by decide) ?_
            refine lv_goto (tgt := 43) hx hb dX5_check_39 (by decide) ?_
            refine lv_istore_n (lv' := [(3, .int 1), (5, .int ((row >>> ((8 : Int32) &&& 31)) &&& 15)), (4, .int 2), (2, .int ((X5_turned_r 5) ^^^ ((row >>> ((12 : Int32) &&& 31)) &&& 15))), (0, .ref h0), (1, .int row)]) hx hb dX5_check_43 rfl hl (by decide) rfl (fun ls hl => ?_)
            refine lv_iload_n hx hb dX5_check_44 rfl (lv_at hl 0 rfl) ?_
            refine lv_if_eq (tgt := 56) hx hb dX5_check_45 (by decide) (fun c9 => absurd c9 (by decide)) (fun _ => ?_)
            refine lv_iload_n hx hb dX5_check_48 rfl (lv_at hl 3 rfl) ?_
            have hPc := hP.sub (ws' := []) [] rfl
            have hDc := hD.sub (ws' := []) [] (by decide) rfl
            have hKc := hK.sub (tys' := []) [] rfl
            have hFc := va_free (wc := []) hD hS hA [] rfl
            refine va_calli (va_runS (As := [.int ((X5_turned_r 5) ^^^ ((row >>> ((12 : Int32) &&& 31)) &&& 15))]) (rest := []) ⟨hx, hb, hml, hown, hts⟩ (k_X5_turned l dC dI H.size ((X5_turned_r 5) ^^^ ((row >>> ((12 : Int32) &&& 31)) &&& 15))) (va_cwS 1 hts gX5_check_X5_turned rfl rfl rfl (by decide +kernel) ⟨Nat.le_of_ble_eq_true rfl, Nat.le_of_ble_eq_true rfl⟩) ⟨pr.blind, fun U hU hW => ⟨rfl, pr.call hU hW hPc hKc hDc⟩⟩ rfl rfl hl.1 rfl (lv_room (Nat.le_of_ble_eq_true rfl)) dX5_check_49 ⟨Nat.le_of_ble_eq_true rfl, Nat.le_of_ble_eq_true rfl⟩) hS (fun q _ h => hFc q h) hFc (fun r_84 u t H1 locs ht hvm hw hB hz1 hk1 hS => ?_)
            subst r_84
            obtain ⟨hP, hD⟩ := po.join (wr := [(h0, .inr (6, [.int 0, .long tl, .int ed, .long eg, .int aw, .long tk, .long un, .ref b1, .int sm, .ref b2, .int frs, .ref b3, .ref b4, .ref b5, .int bts, .ref b6, .int msn, .ref b7, .int flt, .int bh, .int mkd, .int sta, .int lvl, .long snc, .long tld, .int fst, .int snd, .int stp]))]) hP hD [] [0] rfl rfl (by decide) (by decide) hk1 hFc ht hB
            generalize H1 = H at hP hS ⊢
            clear ht hvm hB hz1 hk1 hPc hDc hKc hFc
            have hP : va_P (dC, dI) vwCl [(h0, .inr (6, [.int 0, .long tl, .int ed, .long eg, .int aw, .long tk, .long un, .ref b1, .int sm, .ref b2, .int frs, .ref b3, .ref b4, .ref b5, .int bts, .ref b6, .int msn, .ref b7, .int flt, .int bh, .int mkd, .int sta, .int lvl, .long snc, .long tld, .int fst, .int snd, .int stp]))] H := hP
            have hD : va_D A [(h0, .inr (6, [.int 0, .long tl, .int ed, .long eg, .int aw, .long tk, .long un, .ref b1, .int sm, .ref b2, .int frs, .ref b3, .ref b4, .ref b5, .int bts, .ref b6, .int msn, .ref b7, .int flt, .int bh, .int mkd, .int sta, .int lvl, .long snc, .long tld, .int fst, .int snd, .int stp]))] := hD
            refine W.widen (k := 0) (n := 0) (Nat.le_of_ble_eq_true rfl) (Nat.le_of_ble_eq_true rfl) ?_
            refine lv_iload hx hb dX5_check_52 (lv_at hl 1 rfl) ?_
            refine lv_ixor hx hb dX5_check_54 ?_
            refine lv_istore_n (lv' := [(2, .int ((X5_turned_r ((X5_turned_r 5) ^^^ ((row >>> ((12 : Int32) &&& 31)) &&& 15))) ^^^ ((row >>> ((8 : Int32) &&& 31)) &&& 15))), (3, .int 1), (5, .int ((row >>> ((8 : Int32) &&& 31)) &&& 15)), (4, .int 2), (0, .ref h0), (1, .int row)]) hx hb dX5_check_55 rfl hl (by decide) rfl (fun ls hl => ?_)
            refine lv_iinc (v := 1) (lv' := [(4, .int 1), (2, .int ((X5_turned_r ((X5_turned_r 5) ^^^ ((row >>> ((12 : Int32) &&& 31)) &&& 15))) ^^^ ((row >>> ((8 : Int32) &&& 31)) &&& 15))), (3, .int 1), (5, .int ((row >>> ((8 : Int32) &&& 31)) &&& 15)), (0, .ref h0), (1, .int row)]) hx hb dX5_check_56 hl (k := 3) rfl (by decide) (by decide) rfl (fun ls hl => ?_)
            refine lv_goto (tgt := 13) hx hb dX5_check_59 (by decide) ?_
            refine lv_iload hx hb dX5_check_13 (lv_at hl 0 rfl) ?_
            refine lv_if_lt (tgt := 62) hx hb dX5_check_15 (by decide) (fun c9 => absurd c9 (by decide)) (fun _ => ?_)
            refine lv_iload_n hx hb dX5_check_18 rfl (lv_at hl 5 rfl) ?_
            refine lv_iconst (v := 4) hx hb dX5_check_19 (by decide) ?_
            refine lv_iload hx hb dX5_check_20 (lv_at hl 0 rfl) ?_
            refine lv_imul hx hb dX5_check_22 ?_
            refine lv_topi (fun y_86 ey_86 => ?_)
            obtain rfl : y_86 = 4 := ey_86.trans (by decide)
            refine lv_ishr hx hb dX5_check_23 ?_
            refine lv_bipush (v := 15) hx hb dX5_check_24 (by decide) ?_
            refine lv_iand hx hb dX5_check_26 ?_
            refine lv_istore (lv' := [(5, .int ((row >>> ((4 : Int32) &&& 31)) &&& 15)), (4, .int 1), (2, .int ((X5_turned_r ((X5_turned_r 5) ^^^ ((row >>> ((12 : Int32) &&& 31)) &&& 15))) ^^^ ((row >>> ((8 : Int32) &&& 31)) &&& 15))), (3, .int 1), (0, .ref h0), (1, .int row)]) hx hb dX5_check_27 hl (by decide) rfl (fun ls hl => ?_)
            refine lv_iload_n hx hb dX5_check_29 rfl (lv_at hl 3 rfl) ?_
            refine lv_if_ne (tgt := 38) hx hb dX5_check_30 (by decide) (fun _ => ?_) (fun c9 => absurd c9 (by decide))
            refine lv_iconst (v := 1) hx hb dX5_check_38 (by decide) ?_
            refine lv_goto (tgt := 43) hx hb dX5_check_39 (by decide) ?_
            refine lv_istore_n (lv' := [(3, .int 1), (5, .int ((row >>> ((4 : Int32) &&& 31)) &&& 15)), (4, .int 1), (2, .int ((X5_turned_r ((X5_turned_r 5) ^^^ ((row >>> ((12 : Int32) &&& 31)) &&& 15))) ^^^ ((row >>> ((8 : Int32) &&& 31)) &&& 15))), (0, .ref h0), (1, .int row)]) hx hb dX5_check_43 rfl hl (by decide) rfl (fun ls hl => ?_)
            refine lv_iload_n hx hb dX5_check_44 rfl (lv_at hl 0 rfl) ?_
            refine lv_if_eq (tgt := 56) hx hb dX5_check_45 (by decide) (fun c9 => absurd c9 (by decide)) (fun _ => ?_)
            refine lv_iload_n hx hb dX5_check_48 rfl (lv_at hl 3 rfl) ?_
            have hPc := hP.sub (ws' := []) [] rfl
            have hDc := hD.sub (ws' := []) [] (by decide) rfl
            have hKc := hK.sub (tys' := []) [] rfl
            have hFc := va_free (wc := []) hD hS hA [] rfl
            refine va_calli (va_runS (As := [.int ((X5_turned_r ((X5_turned_r 5) ^^^ ((row >>> ((12 : Int32) &&& 31)) &&& 15))) ^^^ ((row >>> ((8 : Int32) &&& 31)) &&& 15))]) (rest := []) ⟨hx, hb, hml, hown, hts⟩ (k_X5_turned l dC dI H.size ((X5_turned_r ((X5_turned_r 5) ^^^ ((row >>> ((12 : Int32) &&& 31)) &&& 15))) ^^^ ((row >>> ((8 : Int32) &&& 31)) &&& 15))) (va_cwS 1 hts gX5_check_X5_turned rfl rfl rfl (by decide +kernel) ⟨Nat.le_of_ble_eq_true rfl, Nat.le_of_ble_eq_true rfl⟩) ⟨pr.blind, fun U hU hW => ⟨rfl, pr.call hU hW hPc hKc hDc⟩⟩ rfl rfl hl.1 rfl (lv_room (Nat.le_of_ble_eq_true rfl)) dX5_check_49 ⟨Nat.le_of_ble_eq_true rfl, Nat.le_of_ble_eq_true rfl⟩) hS (fun q _ h => hFc q h) hFc (fun r_89 u t H1 locs ht hvm hw hB hz1 hk1 hS => ?_)
            subst r_89
            obtain ⟨hP, hD⟩ := po.join (wr := [(h0, .inr (6, [.int 0, .long tl, .int ed, .long eg, .int aw, .long tk, .long un, .ref b1, .int sm, .ref b2, .int frs, .ref b3, .ref b4, .ref b5, .int bts, .ref b6, .int msn, .ref b7, .int flt, .int bh, .int mkd, .int sta, .int lvl, .long snc, .long tld, .int fst, .int snd, .int stp]))]) hP hD [] [0] rfl rfl (by decide) (by decide) hk1 hFc ht hB
            generalize H1 = H at hP hS ⊢
            clear ht hvm hB hz1 hk1 hPc hDc hKc hFc
            have hP : va_P (dC, dI) vwCl [(h0, .inr (6, [.int 0, .long tl, .int ed, .long eg, .int aw, .long tk, .long un, .ref b1, .int sm, .ref b2, .int frs, .ref b3, .ref b4, .ref b5, .int bts, .ref b6, .int msn, .ref b7, .int flt, .int bh, .int mkd, .int sta, .int lvl, .long snc, .long tld, .int fst, .int snd, .int stp]))] H := hP
            have hD : va_D A [(h0, .inr (6, [.int 0, .long tl, .int ed, .long eg, .int aw, .long tk, .long un, .ref b1, .int sm, .ref b2, .int frs, .ref b3, .ref b4, .ref b5, .int bts, .ref b6, .int msn, .ref b7, .int flt, .int bh, .int mkd, .int sta, .int lvl, .long snc, .long tld, .int fst, .int snd, .int stp]))] := hD
            refine W.widen (k := 0) (n := 0) (Nat.le_of_ble_eq_true rfl) (Nat.le_of_ble_eq_true rfl) ?_
            refine lv_iload hx hb dX5_check_52 (lv_at hl 1 rfl) ?_
            refine lv_ixor hx hb dX5_check_54 ?_
            refine lv_istore_n (lv' := [(2, .int ((X5_turned_r ((X5_turned_r ((X5_turned_r 5) ^^^ ((row >>> ((12 : Int32) &&& 31)) &&& 15))) ^^^ ((row >>> ((8 : Int32) &&& 31)) &&& 15))) ^^^ ((row >>> ((4 : Int32) &&& 31)) &&& 15))), (3, .int 1), (5, .int ((row >>> ((4 : Int32) &&& 31)) &&& 15)), (4, .int 1), (0, .ref h0), (1, .int row)]) hx hb dX5_check_55 rfl hl (by decide) rfl (fun ls hl => ?_)
            refine lv_iinc (v := 0) (lv' := [(4, .int 0), (2, .int ((X5_turned_r ((X5_turned_r ((X5_turned_r 5) ^^^ ((row >>> ((12 : Int32) &&& 31)) &&& 15))) ^^^ ((row >>> ((8 : Int32) &&& 31)) &&& 15))) ^^^ ((row >>> ((4 : Int32) &&& 31)) &&& 15))), (3, .int 1), (5, .int ((row >>> ((4 : Int32) &&& 31)) &&& 15)), (0, .ref h0), (1, .int row)]) hx hb dX5_check_56 hl (k := 3) rfl (by decide) (by decide) rfl (fun ls hl => ?_)
            refine lv_goto (tgt := 13) hx hb dX5_check_59 (by decide) ?_
            refine lv_iload hx hb dX5_check_13 (lv_at hl 0 rfl) ?_
            refine lv_if_lt (tgt := 62) hx hb dX5_check_15 (by decide) (fun c9 => absurd c9 (by decide)) (fun _ => ?_)
            refine lv_iload_n hx hb dX5_check_18 rfl (lv_at hl 5 rfl) ?_
            refine lv_iconst (v := 4) hx hb dX5_check_19 (by decide) ?_
            refine lv_iload hx hb dX5_check_20 (lv_at hl 0 rfl) ?_
            refine lv_imul hx hb dX5_check_22 ?_
            refine lv_topi (fun y_91 ey_91 => ?_)
            obtain rfl : y_91 = 0 := ey_91.trans (by decide)
            refine lv_ishr hx hb dX5_check_23 ?_
            refine lv_bipush (v := 15) hx hb dX5_check_24 (by decide) ?_
            refine lv_iand hx hb dX5_check_26 ?_
            refine lv_istore (lv' := [(5, .int ((row >>> ((0 : Int32) &&& 31)) &&& 15)), (4, .int 0), (2, .int ((X5_turned_r ((X5_turned_r ((X5_turned_r 5) ^^^ ((row >>> ((12 : Int32) &&& 31)) &&& 15))) ^^^ ((row >>> ((8 : Int32) &&& 31)) &&& 15))) ^^^ ((row >>> ((4 : Int32) &&& 31)) &&& 15))), (3, .int 1), (0, .ref h0), (1, .int row)]) hx hb dX5_check_27 hl (by decide) rfl (fun ls hl => ?_)
            refine lv_iload_n hx hb dX5_check_29 rfl (lv_at hl 3 rfl) ?_
            refine lv_if_ne (tgt := 38) hx hb dX5_check_30 (by decide) (fun _ => ?_) (fun c9 => absurd c9 (by decide))
            refine lv_iconst (v := 1) hx hb dX5_check_38 (by decide) ?_
            refine lv_goto (tgt := 43) hx hb dX5_check_39 (by decide) ?_
            refine lv_istore_n (lv' := [(3, .int 1), (5, .int ((row >>> ((0 : Int32) &&& 31)) &&& 15)), (4, .int 0), (2, .int ((X5_turned_r ((X5_turned_r ((X5_turned_r 5) ^^^ ((row >>> ((12 : Int32) &&& 31)) &&& 15))) ^^^ ((row >>> ((8 : Int32) &&& 31)) &&& 15))) ^^^ ((row >>> ((4 : Int32) &&& 31)) &&& 15))), (0, .ref h0), (1, .int row)]) hx hb dX5_check_43 rfl hl (by decide) rfl (fun ls hl => ?_)
            refine lv_iload_n hx hb dX5_check_44 rfl (lv_at hl 0 rfl) ?_
            refine lv_if_eq (tgt := 56) hx hb dX5_check_45 (by decide) (fun c9 => absurd c9 (by decide)) (fun _ => ?_)
            refine lv_iload_n hx hb dX5_check_48 rfl (lv_at hl 3 rfl) ?_
            have hPc := hP.sub (ws' := []) [] rfl
            have hDc := hD.sub (ws' := []) [] (by decide) rfl
            have hKc := hK.sub (tys' := []) [] rfl
            have hFc := va_free (wc := []) hD hS hA [] rfl
            refine va_calli (va_runS (As := [.int ((X5_turned_r ((X5_turned_r ((X5_turned_r 5) ^^^ ((row >>> ((12 : Int32) &&& 31)) &&& 15))) ^^^ ((row >>> ((8 : Int32) &&& 31)) &&& 15))) ^^^ ((row >>> ((4 : Int32) &&& 31)) &&& 15))]) (rest := []) ⟨hx, hb, hml, hown, hts⟩ (k_X5_turned l dC dI H.size ((X5_turned_r ((X5_turned_r ((X5_turned_r 5) ^^^ ((row >>> ((12 : Int32) &&& 31)) &&& 15))) ^^^ ((row >>> ((8 : Int32) &&& 31)) &&& 15))) ^^^ ((row >>> ((4 : Int32) &&& 31)) &&& 15))) (va_cwS 1 hts gX5_check_X5_turned rfl rfl rfl (by decide +kernel) ⟨Nat.le_of_ble_eq_true rfl, Nat.le_of_ble_eq_true rfl⟩) ⟨pr.blind, fun U hU hW => ⟨rfl, pr.call hU hW hPc hKc hDc⟩⟩ rfl rfl hl.1 rfl (lv_room (Nat.le_of_ble_eq_true rfl)) dX5_check_49 ⟨Nat.le_of_ble_eq_true rfl, Nat.le_of_ble_eq_true rfl⟩) hS (fun q _ h => hFc q h) hFc (fun r_94 u t H1 locs ht hvm hw hB hz1 hk1 hS => ?_)
            subst r_94
            obtain ⟨hP, hD⟩ := po.join (wr := [(h0, .inr (6, [.int 0, .long tl, .int ed, .long eg, .int aw, .long tk, .long un, .ref b1, .int sm, .ref b2, .int frs, .ref b3, .ref b4, .ref b5, .int bts, .ref b6, .int msn, .ref b7, .int flt, .int bh, .int mkd, .int sta, .int lvl, .long snc, .long tld, .int fst, .int snd, .int stp]))]) hP hD [] [0] rfl rfl (by decide) (by decide) hk1 hFc ht hB
            generalize H1 = H at hP hS ⊢
            clear ht hvm hB hz1 hk1 hPc hDc hKc hFc
            have hP : va_P (dC, dI) vwCl [(h0, .inr (6, [.int 0, .long tl, .int ed, .long eg, .int aw, .long tk, .long un, .ref b1, .int sm, .ref b2, .int frs, .ref b3, .ref b4, .ref b5, .int bts, .ref b6, .int msn, .ref b7, .int flt, .int bh, .int mkd, .int sta, .int lvl, .long snc, .long tld, .int fst, .int snd, .int stp]))] H := hP
            have hD : va_D A [(h0, .inr (6, [.int 0, .long tl, .int ed, .long eg, .int aw, .long tk, .long un, .ref b1, .int sm, .ref b2, .int frs, .ref b3, .ref b4, .ref b5, .int bts, .ref b6, .int msn, .ref b7, .int flt, .int bh, .int mkd, .int sta, .int lvl, .long snc, .long tld, .int fst, .int snd, .int stp]))] := hD
            refine W.widen (k := 0) (n := 0) (Nat.le_of_ble_eq_true rfl) (Nat.le_of_ble_eq_true rfl) ?_
            refine lv_iload hx hb dX5_check_52 (lv_at hl 1 rfl) ?_
            refine lv_ixor hx hb dX5_check_54 ?_
            refine lv_istore_n (lv' := [(2, .int ((X5_turned_r ((X5_turned_r ((X5_turned_r ((X5_turned_r 5) ^^^ ((row >>> ((12 : Int32) &&& 31)) &&& 15))) ^^^ ((row >>> ((8 : Int32) &&& 31)) &&& 15))) ^^^ ((row >>> ((4 : Int32) &&& 31)) &&& 15))) ^^^ ((row >>> ((0 : Int32) &&& 31)) &&& 15))), (3, .int 1), (5, .int ((row >>> ((0 : Int32) &&& 31)) &&& 15)), (4, .int 0), (0, .ref h0), (1, .int row)]) hx hb dX5_check_55 rfl hl (by decide) rfl (fun ls hl => ?_)
            refine lv_iinc (v := (-1)) (lv' := [(4, .int (-1)), (2, .int ((X5_turned_r ((X5_turned_r ((X5_turned_r ((X5_turned_r 5) ^^^ ((row >>> ((12 : Int32) &&& 31)) &&& 15))) ^^^ ((row >>> ((8 : Int32) &&& 31)) &&& 15))) ^^^ ((row >>> ((4 : Int32) &&& 31)) &&& 15))) ^^^ ((row >>> ((0 : Int32) &&& 31)) &&& 15))), (3, .int 1), (5, .int ((row >>> ((0 : Int32) &&& 31)) &&& 15)), (0, .ref h0), (1, .int row)]) hx hb dX5_check_56 hl (k := 3) rfl (by decide) (by decide) rfl (fun ls hl => ?_)
            refine lv_goto (tgt := 13) hx hb dX5_check_59 (by decide) ?_
            refine lv_iload hx hb dX5_check_13 (lv_at hl 0 rfl) ?_
            refine lv_if_lt (tgt := 62) hx hb dX5_check_15 (by decide) (fun _ => ?_) (fun c9 => absurd c9 (by decide))
            refine lv_iload_n hx hb dX5_check_62 rfl (lv_at hl 1 rfl) ?_
            have hPc := hP.sub (ws' := []) [] rfl
            have hDc := hD.sub (ws' := []) [] (by decide) rfl
            have hKc := hK.sub (tys' := []) [] rfl
            have hFc := va_free (wc := []) hD hS hA [] rfl
            refine va_calli (va_runS (As := [.int ((X5_turned_r ((X5_turned_r ((X5_turned_r ((X5_turned_r 5) ^^^ ((row >>> ((12 : Int32) &&& 31)) &&& 15))) ^^^ ((row >>> ((8 : Int32) &&& 31)) &&& 15))) ^^^ ((row >>> ((4 : Int32) &&& 31)) &&& 15))) ^^^ ((row >>> ((0 : Int32) &&& 31)) &&& 15))]) (rest := []) ⟨hx, hb, hml, hown, hts⟩ (k_X5_turned l dC dI H.size ((X5_turned_r ((X5_turned_r ((X5_turned_r ((X5_turned_r 5) ^^^ ((row >>> ((12 : Int32) &&& 31)) &&& 15))) ^^^ ((row >>> ((8 : Int32) &&& 31)) &&& 15))) ^^^ ((row >>> ((4 : Int32) &&& 31)) &&& 15))) ^^^ ((row >>> ((0 : Int32) &&& 31)) &&& 15))) (va_cwS 1 hts gX5_check_X5_turned rfl rfl rfl (by decide +kernel) ⟨Nat.le_of_ble_eq_true rfl, Nat.le_of_ble_eq_true rfl⟩) ⟨pr.blind, fun U hU hW => ⟨rfl, pr.call hU hW hPc hKc hDc⟩⟩ rfl rfl hl.1 rfl (lv_room (Nat.le_of_ble_eq_true rfl)) dX5_check_63 ⟨Nat.le_of_ble_eq_true rfl, Nat.le_of_ble_eq_true rfl⟩) hS (fun q _ h => hFc q h) hFc (fun r_96 u t H1 locs ht hvm hw hB hz1 hk1 hS => ?_)
            subst r_96
            obtain ⟨hP, hD⟩ := po.join (wr := [(h0, .inr (6, [.int 0, .long tl, .int ed, .long eg, .int aw, .long tk, .long un, .ref b1, .int sm, .ref b2, .int frs, .ref b3, .ref b4, .ref b5, .int bts, .ref b6, .int msn, .ref b7, .int flt, .int bh, .int mkd, .int sta, .int lvl, .long snc, .long tld, .int fst, .int snd, .int stp]))]) hP hD [] [0] rfl rfl (by decide) (by decide) hk1 hFc ht hB
            generalize H1 = H at hP hS ⊢
            clear ht hvm hB hz1 hk1 hPc hDc hKc hFc
            have hP : va_P (dC, dI) vwCl [(h0, .inr (6, [.int 0, .long tl, .int ed, .long eg, .int aw, .long tk, .long un, .ref b1, .int sm, .ref b2, .int frs, .ref b3, .ref b4, .ref b5, .int bts, .ref b6, .int msn, .ref b7, .int flt, .int bh, .int mkd, .int sta, .int lvl, .long snc, .long tld, .int fst, .int snd, .int stp]))] H := hP
            have hD : va_D A [(h0, .inr (6, [.int 0, .long tl, .int ed, .long eg, .int aw, .long tk, .long un, .ref b1, .int sm, .ref b2, .int frs, .ref b3, .ref b4, .ref b5, .int bts, .ref b6, .int msn, .ref b7, .int flt, .int bh, .int mkd, .int sta, .int lvl, .long snc, .long tld, .int fst, .int snd, .int stp]))] := hD
            refine W.widen (k := 0) (n := 0) (Nat.le_of_ble_eq_true rfl) (Nat.le_of_ble_eq_true rfl) ?_
            have hP9 : va_P (dC, dI) vwCl [(h0, .inr (6, [.int 0, .long tl, .int ed, .long eg, .int aw, .long tk, .long un, .ref b1, .int sm, .ref b2, .int frs, .ref b3, .ref b4, .ref b5, .int bts, .ref b6, .int msn, .ref b7, .int flt, .int bh, .int mkd, .int sta, .int lvl, .long snc, .long tld, .int fst, .int snd, .int stp]))] H := by exact hP.sub [0] rfl
            have hD9 : va_D A [(h0, .inr (6, [.int 0, .long tl, .int ed, .long eg, .int aw, .long tk, .long un, .ref b1, .int sm, .ref b2, .int frs, .ref b3, .ref b4, .ref b5, .int bts, .ref b6, .int msn, .ref b7, .int flt, .int bh, .int mkd, .int sta, .int lvl, .long snc, .long tld, .int fst, .int snd, .int stp]))] := by exact hD.sub [0] (by decide) rfl
            have e_98 : X5_turned_r ((X5_turned_r ((X5_turned_r ((X5_turned_r ((X5_turned_r 5) ^^^ ((row >>> ((12 : Int32) &&& 31)) &&& 15))) ^^^ ((row >>> ((8 : Int32) &&& 31)) &&& 15))) ^^^ ((row >>> ((4 : Int32) &&& 31)) &&& 15))) ^^^ ((row >>> ((0 : Int32) &&& 31)) &&& 15)) = X5_check_r row := by rw [X5_check_r, if_pos c_4, if_pos c_9, if_pos c_14, if_pos c_19, if_neg c_24]
            exact W.iret (v := X5_turned_r ((X5_turned_r ((X5_turned_r ((X5_turned_r ((X5_turned_r 5) ^^^ ((row >>> ((12 : Int32) &&& 31)) &&& 15))) ^^^ ((row >>> ((8 : Int32) &&& 31)) &&& 15))) ^^^ ((row >>> ((4 : Int32) &&& 31)) &&& 15))) ^^^ ((row >>> ((0 : Int32) &&& 31)) &&& 15))) hx hb hr (fun t ht hW => ⟨⟨_, (), rfl, e_98, po.ret ht hW hP9 hK hD9⟩, hS.F ht⟩) hS.2.2 dX5_check_66
        · refine lv_iconst (v := 1) hx hb dX5_check_38 (by decide) ?_
          refine lv_goto (tgt := 43) hx hb dX5_check_39 (by decide) ?_
          refine lv_istore_n (lv' := [(3, .int 1), (5, .int ((row >>> ((16 : Int32) &&& 31)) &&& 15)), (4, .int 4), (2, .int 5), (0, .ref h0), (1, .int row)]) hx hb dX5_check_43 rfl hl (by decide) rfl (fun ls hl => ?_)
          refine lv_iload_n hx hb dX5_check_44 rfl (lv_at hl 0 rfl) ?_
          refine lv_if_eq (tgt := 56) hx hb dX5_check_45 (by decide) (fun c9 => absurd c9 (by decide)) (fun _ => ?_)
          refine lv_iload_n hx hb dX5_check_48 rfl (lv_at hl 3 rfl) ?_
          have hPc := hP.sub (ws' := []) [] rfl
          have hDc := hD.sub (ws' := []) [] (by decide) rfl
          have hKc := hK.sub (tys' := []) [] rfl
          have hFc := va_free (wc := []) hD hS hA [] rfl
          refine va_calli (va_runS (As := [.int 5]) (rest := []) ⟨hx, hb, hml, hown, hts⟩ (k_X5_turned l dC dI H.size 5) (va_cwS 1 hts gX5_check_X5_turned rfl rfl rfl (by decide +kernel) ⟨Nat.le_of_ble_eq_true rfl, Nat.le_of_ble_eq_true rfl⟩) ⟨pr.blind, fun U hU hW => ⟨rfl, pr.call hU hW hPc hKc hDc⟩⟩ rfl rfl hl.1 rfl (lv_room (Nat.le_of_ble_eq_true rfl)) dX5_check_49 ⟨Nat.le_of_ble_eq_true rfl, Nat.le_of_ble_eq_true rfl⟩) hS (fun q _ h => hFc q h) hFc (fun r_100 u t H1 locs ht hvm hw hB hz1 hk1 hS => ?_)
          subst r_100
          obtain ⟨hP, hD⟩ := po.join (wr := [(h0, .inr (6, [.int 0, .long tl, .int ed, .long eg, .int aw, .long tk, .long un, .ref b1, .int sm, .ref b2, .int frs, .ref b3, .ref b4, .ref b5, .int bts, .ref b6, .int msn, .ref b7, .int flt, .int bh, .int mkd, .int sta, .int lvl, .long snc, .long tld, .int fst, .int snd, .int stp]))]) hP hD [] [0] rfl rfl (by decide) (by decide) hk1 hFc ht hB
          generalize H1 = H at hP hS ⊢
          clear ht hvm hB hz1 hk1 hPc hDc hKc hFc
          have hP : va_P (dC, dI) vwCl [(h0, .inr (6, [.int 0, .long tl, .int ed, .long eg, .int aw, .long tk, .long un, .ref b1, .int sm, .ref b2, .int frs, .ref b3, .ref b4, .ref b5, .int bts, .ref b6, .int msn, .ref b7, .int flt, .int bh, .int mkd, .int sta, .int lvl, .long snc, .long tld, .int fst, .int snd, .int stp]))] H := hP
          have hD : va_D A [(h0, .inr (6, [.int 0, .long tl, .int ed, .long eg, .int aw, .long tk, .long un, .ref b1, .int sm, .ref b2, .int frs, .ref b3, .ref b4, .ref b5, .int bts, .ref b6, .int msn, .ref b7, .int flt, .int bh, .int mkd, .int sta, .int lvl, .long snc, .long tld, .int fst, .int snd, .int stp]))] := hD
          refine W.widen (k := 0) (n := 0) (Nat.le_of_ble_eq_true rfl) (Nat.le_of_ble_eq_true rfl) ?_
          refine lv_iload hx hb dX5_check_52 (lv_at hl 1 rfl) ?_
          refine lv_ixor hx hb dX5_check_54 ?_
          refine lv_istore_n (lv' := [(2, .int ((X5_turned_r 5) ^^^ ((row >>> ((16 : Int32) &&& 31)) &&& 15))), (3, .int 1), (5, .int ((row >>> ((16 : Int32) &&& 31)) &&& 15)), (4, .int 4), (0, .ref h0), (1, .int row)]) hx hb dX5_check_55 rfl hl (by decide) rfl (fun ls hl => ?_)
          refine lv_iinc (v := 3) (lv' := [(4, .int 3), (2, .int ((X5_turned_r 5) ^^^ ((row >>> ((16 : Int32) &&& 31)) &&& 15))), (3, .int 1), (5, .int ((row >>> ((16 : Int32) &&& 31)) &&& 15)), (0, .ref h0), (1, .int row)]) hx hb dX5_check_56 hl (k := 3) rfl (by decide) (by decide) rfl (fun ls hl => ?_)
          refine lv_goto (tgt := 13) hx hb dX5_check_59 (by decide) ?_
          refine lv_iload hx hb dX5_check_13 (lv_at hl 0 rfl) ?_
          refine lv_if_lt (tgt := 62) hx hb dX5_check_15 (by decide) (fun c9 => absurd c9 (by decide)) (fun _ => ?_)
          refine lv_iload_n hx hb dX5_check_18 rfl (lv_at hl 5 rfl) ?_
          refine lv_iconst (v := 4) hx hb dX5_check_19 (by decide) ?_
          refine lv_iload hx hb dX5_check_20 (lv_at hl 0 rfl) ?_
          refine lv_imul hx hb dX5_check_22 ?_
          refine lv_topi (fun y_102 ey_102 => ?_)
          obtain rfl : y_102 = 12 := ey_102.trans (by decide)
          refine lv_ishr hx hb dX5_check_23 ?_
          refine lv_bipush (v := 15) hx hb dX5_check_24 (by decide) ?_
          refine lv_iand hx hb dX5_check_26 ?_
          refine lv_istore (lv' := [(5, .int ((row >>> ((12 : Int32) &&& 31)) &&& 15)), (4, .int 3), (2, .int ((X5_turned_r 5) ^^^ ((row >>> ((16 : Int32) &&& 31)) &&& 15))), (3, .int 1), (0, .ref h0), (1, .int row)]) hx hb dX5_check_27 hl (by decide) rfl (fun ls hl => ?_)
          refine lv_iload_n hx hb dX5_check_29 rfl (lv_at hl 3 rfl) ?_
          refine lv_if_ne (tgt := 38) hx hb dX5_check_30 (by decide) (fun _ => ?_) (fun c9 => absurd c9 (by decide))
          refine lv_iconst (v := 1) hx hb dX5_check_38 (by decide) ?_
          refine lv_goto (tgt := 43) hx hb dX5_check_39 (by decide) ?_
          refine lv_istore_n (lv' := [(3, .int 1), (5, .int ((row >>> ((12 : Int32) &&& 31)) &&& 15)), (4, .int 3), (2, .int ((X5_turned_r 5) ^^^ ((row >>> ((16 : Int32) &&& 31)) &&& 15))), (0, .ref h0), (1, .int row)]) hx hb dX5_check_43 rfl hl (by decide) rfl (fun ls hl => ?_)
          refine lv_iload_n hx hb dX5_check_44 rfl (lv_at hl 0 rfl) ?_
          refine lv_if_eq (tgt := 56) hx hb dX5_check_45 (by decide) (fun c9 => absurd c9 (by decide)) (fun _ => ?_)
          refine lv_iload_n hx hb dX5_check_48 rfl (lv_at hl 3 rfl) ?_
          have hPc := hP.sub (ws' := []) [] rfl
          have hDc := hD.sub (ws' := []) [] (by decide) rfl
          have hKc := hK.sub (tys' := []) [] rfl
          have hFc := va_free (wc := []) hD hS hA [] rfl
          refine va_calli (va_runS (As := [.int ((X5_turned_r 5) ^^^ ((row >>> ((16 : Int32) &&& 31)) &&& 15))]) (rest := []) ⟨hx, hb, hml, hown, hts⟩ (k_X5_turned l dC dI H.size ((X5_turned_r 5) ^^^ ((row >>> ((16 : Int32) &&& 31)) &&& 15))) (va_cwS 1 hts gX5_check_X5_turned rfl rfl rfl (by decide +kernel) ⟨Nat.le_of_ble_eq_true rfl, Nat.le_of_ble_eq_true rfl⟩) ⟨pr.blind, fun U hU hW => ⟨rfl, pr.call hU hW hPc hKc hDc⟩⟩ rfl rfl hl.1 rfl (lv_room (Nat.le_of_ble_eq_true rfl)) dX5_check_49 ⟨Nat.le_of_ble_eq_true rfl, Nat.le_of_ble_eq_true rfl⟩) hS (fun q _ h => hFc q h) hFc (fun r_105 u t H1 locs ht hvm hw hB hz1 hk1 hS => ?_)
          subst r_105
          obtain ⟨hP, hD⟩ := po.join (wr := [(h0, .inr (6, [.int 0, .long tl, .int ed, .long eg, .int aw, .long tk, .long un, .ref b1, .int sm, .ref b2, .int frs, .ref b3, .ref b4, .ref b5, .int bts, .ref b6, .int msn, .ref b7, .int flt, .int bh, .int mkd, .int sta, .int lvl, .long snc, .long tld, .int fst, .int snd, .int stp]))]) hP hD [] [0] rfl rfl (by decide) (by decide) hk1 hFc ht hB
          generalize H1 = H at hP hS ⊢
          clear ht hvm hB hz1 hk1 hPc hDc hKc hFc
          have hP : va_P (dC, dI) vwCl [(h0, .inr (6, [.int 0, .long tl, .int ed, .long eg, .int aw, .long tk, .long un, .ref b1, .int sm, .ref b2, .int frs, .ref b3, .ref b4, .ref b5, .int bts, .ref b6, .int msn, .ref b7, .int flt, .int bh, .int mkd, .int sta, .int lvl, .long snc, .long tld, .int fst, .int snd, .int stp]))] H := hP
          have hD : va_D A [(h0, .inr (6, [.int 0, .long tl, .int ed, .long eg, .int aw, .long tk, .long un, .ref b1, .int sm, .ref b2, .int frs, .ref b3, .ref b4, .ref b5, .int bts, .ref b6, .int msn, .ref b7, .int flt, .int bh, .int mkd, .int sta, .int lvl, .long snc, .long tld, .int fst, .int snd, .int stp]))] := hD
          refine W.widen (k := 0) (n := 0) (Nat.le_of_ble_eq_true rfl) (Nat.le_of_ble_eq_true rfl) ?_
          refine lv_iload hx hb dX5_check_52 (lv_at hl 1 rfl) ?_
          refine lv_ixor hx hb dX5_check_54 ?_
          refine lv_istore_n (lv' := [(2, .int ((X5_turned_r ((X5_turned_r 5) ^^^ ((row >>> ((16 : Int32) &&& 31)) &&& 15))) ^^^ ((row >>> ((12 : Int32) &&& 31)) &&& 15))), (3, .int 1), (5, .int ((row >>> ((12 : Int32) &&& 31)) &&& 15)), (4, .int 3), (0, .ref h0), (1, .int row)]) hx hb dX5_check_55 rfl hl (by decide) rfl (fun ls hl => ?_)
          refine lv_iinc (v := 2) (lv' := [(4, .int 2), (2, .int ((X5_turned_r ((X5_turned_r 5) ^^^ ((row >>> ((16 : Int32) &&& 31)) &&& 15))) ^^^ ((row >>> ((12 : Int32) &&& 31)) &&& 15))), (3, .int 1), (5, .int ((row >>> ((12 : Int32) &&& 31)) &&& 15)), (0, .ref h0), (1, .int row)]) hx hb dX5_check_56 hl (k := 3) rfl (by decide) (by decide) rfl (fun ls hl => ?_)
          refine lv_goto (tgt := 13) hx hb dX5_check_59 (by decide) ?_
          refine lv_iload hx hb dX5_check_13 (lv_at hl 0 rfl) ?_
          refine lv_if_lt (tgt := 62) hx hb dX5_check_15 (by decide) (fun c9 => absurd c9 (by decide)) (fun _ => ?_)
          refine lv_iload_n hx hb dX5_check_18 rfl (lv_at hl 5 rfl) ?_
          refine lv_iconst (v := 4) hx hb dX5_check_19 (by decide) ?_
          refine lv_iload hx hb dX5_check_20 (lv_at hl 0 rfl) ?_
          refine lv_imul hx hb dX5_check_22 ?_
          refine lv_topi (fun y_107 ey_107 => ?_)
          obtain rfl : y_107 = 8 := ey_107.trans (by decide)
          refine lv_ishr hx hb dX5_check_23 ?_
          refine lv_bipush (v := 15) hx hb dX5_check_24 (by decide) ?_
          refine lv_iand hx hb dX5_check_26 ?_
          refine lv_istore (lv' := [(5, .int ((row >>> ((8 : Int32) &&& 31)) &&& 15)), (4, .int 2), (2, .int ((X5_turned_r ((X5_turned_r 5) ^^^ ((row >>> ((16 : Int32) &&& 31)) &&& 15))) ^^^ ((row >>> ((12 : Int32) &&& 31)) &&& 15))), (3, .int 1), (0, .ref h0), (1, .int row)]) hx hb dX5_check_27 hl (by decide) rfl (fun ls hl => ?_)
          refine lv_iload_n hx hb dX5_check_29 rfl (lv_at hl 3 rfl) ?_
          refine lv_if_ne (tgt := 38) hx hb dX5_check_30 (by decide) (fun _ => ?_) (fun c9 => absurd c9 (by decide))
          refine lv_iconst (v := 1) hx hb dX5_check_38 (by decide) ?_
          refine lv_goto (tgt := 43) hx hb dX5_check_39 (by decide) ?_
          refine lv_istore_n (lv' := [(3, .int 1), (5, .int ((row >>> ((8 : Int32) &&& 31)) &&& 15)), (4, .int 2), (2, .int ((X5_turned_r ((X5_turned_r 5) ^^^ ((row >>> ((16 : Int32) &&& 31)) &&& 15))) ^^^ ((row >>> ((12 : Int32) &&& 31)) &&& 15))), (0, .ref h0), (1, .int row)]) hx hb dX5_check_43 rfl hl (by decide) rfl (fun ls hl => ?_)
          refine lv_iload_n hx hb dX5_check_44 rfl (lv_at hl 0 rfl) ?_
          refine lv_if_eq (tgt := 56) hx hb dX5_check_45 (by decide) (fun c9 => absurd c9 (by decide)) (fun _ => ?_)
          refine lv_iload_n hx hb dX5_check_48 rfl (lv_at hl 3 rfl) ?_
          have hPc := hP.sub (ws' := []) [] rfl
          have hDc := hD.sub (ws' := []) [] (by decide) rfl
          have hKc := hK.sub (tys' := []) [] rfl
          have hFc := va_free (wc := []) hD hS hA [] rfl
          refine va_calli (va_runS (As := [.int ((X5_turned_r ((X5_turned_r 5) ^^^ ((row >>> ((16 : Int32) &&& 31)) &&& 15))) ^^^ ((row >>> ((12 : Int32) &&& 31)) &&& 15))]) (rest := []) ⟨hx, hb, hml, hown, hts⟩ (k_X5_turned l dC dI H.size ((X5_turned_r ((X5_turned_r 5) ^^^ ((row >>> ((16 : Int32) &&& 31)) &&& 15))) ^^^ ((row >>> ((12 : Int32) &&& 31)) &&& 15))) (va_cwS 1 hts gX5_check_X5_turned rfl rfl rfl (by decide +kernel) ⟨Nat.le_of_ble_eq_true rfl, Nat.le_of_ble_eq_true rfl⟩) ⟨pr.blind, fun U hU hW => ⟨rfl, pr.call hU hW hPc hKc hDc⟩⟩ rfl rfl hl.1 rfl (lv_room (Nat.le_of_ble_eq_true rfl)) dX5_check_49 ⟨Nat.le_of_ble_eq_true rfl, Nat.le_of_ble_eq_true rfl⟩) hS (fun q _ h => hFc q h) hFc (fun r_110 u t H1 locs ht hvm hw hB hz1 hk1 hS => ?_)
          subst r_110
          obtain ⟨hP, hD⟩ := po.join (wr := [(h0, .inr (6, [.int 0, .long tl, .int ed, .long eg, .int aw, .long tk, .long un, .ref b1, .int sm, .ref b2, .int frs, .ref b3, .ref b4, .ref b5, .int bts, .ref b6, .int msn, .ref b7, .int flt, .int bh, .int mkd, .int sta, .int lvl, .long snc, .long tld, .int fst, .int snd, .int stp]))]) hP hD [] [0] rfl rfl (by decide) (by decide) hk1 hFc ht hB
          generalize H1 = H at hP hS ⊢
          clear ht hvm hB hz1 hk1 hPc hDc hKc hFc
          have hP : va_P (dC, dI) vwCl [(h0, .inr (6, [.int 0, .long tl, .int ed, .long eg, .int aw, .long tk, .long un, .ref b1, .int sm, .ref b2, .int frs, .ref b3, .ref b4, .ref b5, .int bts, .ref b6, .int msn, .ref b7, .int flt, .int bh, .int mkd, .int sta, .int lvl, .long snc, .long tld, .int fst, .int snd, .int stp]))] H := hP
          have hD : va_D A [(h0, .inr (6, [.int 0, .long tl, .int ed, .long eg, .int aw, .long tk, .long un, .ref b1, .int sm, .ref b2, .int frs, .ref b3, .ref b4, .ref b5, .int bts, .ref b6, .int msn, .ref b7, .int flt, .int bh, .int mkd, .int sta, .int lvl, .long snc, .long tld, .int fst, .int snd, .int stp]))] := hD
          refine W.widen (k := 0) (n := 0) (Nat.le_of_ble_eq_true rfl) (Nat.le_of_ble_eq_true rfl) ?_
          refine lv_iload hx hb dX5_check_52 (lv_at hl 1 rfl) ?_
          refine lv_ixor hx hb dX5_check_54 ?_
          refine lv_istore_n (lv' := [(2, .int ((X5_turned_r ((X5_turned_r ((X5_turned_r 5) ^^^ ((row >>> ((16 : Int32) &&& 31)) &&& 15))) ^^^ ((row >>> ((12 : Int32) &&& 31)) &&& 15))) ^^^ ((row >>> ((8 : Int32) &&& 31)) &&& 15))), (3, .int 1), (5, .int ((row >>> ((8 : Int32) &&& 31)) &&& 15)), (4, .int 2), (0, .ref h0), (1, .int row)]) hx hb dX5_check_55 rfl hl (by decide) rfl (fun ls hl => ?_)
          refine lv_iinc (v := 1) (lv' := [(4, .int 1), (2, .int ((X5_turned_r ((X5_turned_r ((X5_turned_r 5) ^^^ ((row >>> ((16 : Int32) &&& 31)) &&& 15))) ^^^ ((row >>> ((12 : Int32) &&& 31)) &&& 15))) ^^^ ((row >>> ((8 : Int32) &&& 31)) &&& 15))), (3, .int 1), (5, .int ((row >>> ((8 : Int32) &&& 31)) &&& 15)), (0, .ref h0), (1, .int row)]) hx hb dX5_check_56 hl (k := 3) rfl (by decide) (by decide) rfl (fun ls hl => ?_)
          refine lv_goto (tgt := 13) hx hb dX5_check_59 (by decide) ?_
          refine lv_iload hx hb dX5_check_13 (lv_at hl 0 rfl) ?_
          refine lv_if_lt (tgt := 62) hx hb dX5_check_15 (by decide) (fun c9 => absurd c9 (by decide)) (fun _ => ?_)
          refine lv_iload_n hx hb dX5_check_18 rfl (lv_at hl 5 rfl) ?_
          refine lv_iconst (v := 4) hx hb dX5_check_19 (by decide) ?_
          refine lv_iload hx hb dX5_check_20 (lv_at hl 0 rfl) ?_
          refine lv_imul hx hb dX5_check_22 ?_
          refine lv_topi (fun y_112 ey_112 => ?_)
          obtain rfl : y_112 = 4 := ey_112.trans (by decide)
          refine lv_ishr hx hb dX5_check_23 ?_
          refine lv_bipush (v := 15) hx hb dX5_check_24 (by decide) ?_
          refine lv_iand hx hb dX5_check_26 ?_
          refine lv_istore (lv' := [(5, .int ((row >>> ((4 : Int32) &&& 31)) &&& 15)), (4, .int 1), (2, .int ((X5_turned_r ((X5_turned_r ((X5_turned_r 5) ^^^ ((row >>> ((16 : Int32) &&& 31)) &&& 15))) ^^^ ((row >>> ((12 : Int32) &&& 31)) &&& 15))) ^^^ ((row >>> ((8 : Int32) &&& 31)) &&& 15))), (3, .int 1), (0, .ref h0), (1, .int row)]) hx hb dX5_check_27 hl (by decide) rfl (fun ls hl => ?_)
          refine lv_iload_n hx hb dX5_check_29 rfl (lv_at hl 3 rfl) ?_
          refine lv_if_ne (tgt := 38) hx hb dX5_check_30 (by decide) (fun _ => ?_) (fun c9 => absurd c9 (by decide))
          refine lv_iconst (v := 1) hx hb dX5_check_38 (by decide) ?_
          refine lv_goto (tgt := 43) hx hb dX5_check_39 (by decide) ?_
          refine lv_istore_n (lv' := [(3, .int 1), (5, .int ((row >>> ((4 : Int32) &&& 31)) &&& 15)), (4, .int 1), (2, .int ((X5_turned_r ((X5_turned_r ((X5_turned_r 5) ^^^ ((row >>> ((16 : Int32) &&& 31)) &&& 15))) ^^^ ((row >>> ((12 : Int32) &&& 31)) &&& 15))) ^^^ ((row >>> ((8 : Int32) &&& 31)) &&& 15))), (0, .ref h0), (1, .int row)]) hx hb dX5_check_43 rfl hl (by decide) rfl (fun ls hl => ?_)
          refine lv_iload_n hx hb dX5_check_44 rfl (lv_at hl 0 rfl) ?_
          refine lv_if_eq (tgt := 56) hx hb dX5_check_45 (by decide) (fun c9 => absurd c9 (by decide)) (fun _ => ?_)
          refine lv_iload_n hx hb dX5_check_48 rfl (lv_at hl 3 rfl) ?_
          have hPc := hP.sub (ws' := []) [] rfl
          have hDc := hD.sub (ws' := []) [] (by decide) rfl
          have hKc := hK.sub (tys' := []) [] rfl
          have hFc := va_free (wc := []) hD hS hA [] rfl
          refine va_calli (va_runS (As := [.int ((X5_turned_r ((X5_turned_r ((X5_turned_r 5) ^^^ ((row >>> ((16 : Int32) &&& 31)) &&& 15))) ^^^ ((row >>> ((12 : Int32) &&& 31)) &&& 15))) ^^^ ((row >>> ((8 : Int32) &&& 31)) &&& 15))]) (rest := []) ⟨hx, hb, hml, hown, hts⟩ (k_X5_turned l dC dI H.size ((X5_turned_r ((X5_turned_r ((X5_turned_r 5) ^^^ ((row >>> ((16 : Int32) &&& 31)) &&& 15))) ^^^ ((row >>> ((12 : Int32) &&& 31)) &&& 15))) ^^^ ((row >>> ((8 : Int32) &&& 31)) &&& 15))) (va_cwS 1 hts gX5_check_X5_turned rfl rfl rfl (by decide +kernel) ⟨Nat.le_of_ble_eq_true rfl, Nat.le_of_ble_eq_true rfl⟩) ⟨pr.blind, fun U hU hW => ⟨rfl, pr.call hU hW hPc hKc hDc⟩⟩ rfl rfl hl.1 rfl (lv_room (Nat.le_of_ble_eq_true rfl)) dX5_check_49 ⟨Nat.le_of_ble_eq_true rfl, Nat.le_of_ble_eq_true rfl⟩) hS (fun q _ h => hFc q h) hFc (fun r_115 u t H1 locs ht hvm hw hB hz1 hk1 hS => ?_)
          subst r_115
          obtain ⟨hP, hD⟩ := po.join (wr := [(h0, .inr (6, [.int 0, .long tl, .int ed, .long eg, .int aw, .long tk, .long un, .ref b1, .int sm, .ref b2, .int frs, .ref b3, .ref b4, .ref b5, .int bts, .ref b6, .int msn, .ref b7, .int flt, .int bh, .int mkd, .int sta, .int lvl, .long snc, .long tld, .int fst, .int snd, .int stp]))]) hP hD [] [0] rfl rfl (by decide) (by decide) hk1 hFc ht hB
          generalize H1 = H at hP hS ⊢
          clear ht hvm hB hz1 hk1 hPc hDc hKc hFc
          have hP : va_P (dC, dI) vwCl [(h0, .inr (6, [.int 0, .long tl, .int ed, .long eg, .int aw, .long tk, .long un, .ref b1, .int sm, .ref b2, .int frs, .ref b3, .ref b4, .ref b5, .int bts, .ref b6, .int msn, .ref b7, .int flt, .int bh, .int mkd, .int sta, .int lvl, .long snc, .long tld, .int fst, .int snd, .int stp]))] H := hP
          have hD : va_D A [(h0, .inr (6, [.int 0, .long tl, .int ed, .long eg, .int aw, .long tk, .long un, .ref b1, .int sm, .ref b2, .int frs, .ref b3, .ref b4, .ref b5, .int bts, .ref b6, .int msn, .ref b7, .int flt, .int bh, .int mkd, .int sta, .int lvl, .long snc, .long tld, .int fst, .int snd, .int stp]))] := hD
          refine W.widen (k := 0) (n := 0) (Nat.le_of_ble_eq_true rfl) (Nat.le_of_ble_eq_true rfl) ?_
          refine lv_iload hx hb dX5_check_52 (lv_at hl 1 rfl) ?_
          refine lv_ixor hx hb dX5_check_54 ?_
          refine lv_istore_n (lv' := [(2, .int ((X5_turned_r ((X5_turned_r ((X5_turned_r ((X5_turned_r 5) ^^^ ((row >>> ((16 : Int32) &&& 31)) &&& 15))) ^^^ ((row >>> ((12 : Int32) &&& 31)) &&& 15))) ^^^ ((row >>> ((8 : Int32) &&& 31)) &&& 15))) ^^^ ((row >>> ((4 : Int32) &&& 31)) &&& 15))), (3, .int 1), (5, .int ((row >>> ((4 : Int32) &&& 31)) &&& 15)), (4, .int 1), (0, .ref h0), (1, .int row)]) hx hb dX5_check_55 rfl hl (by decide) rfl (fun ls hl => ?_)
          refine lv_iinc (v := 0) (lv' := [(4, .int 0), (2, .int ((X5_turned_r ((X5_turned_r ((X5_turned_r ((X5_turned_r 5) ^^^ ((row >>> ((16 : Int32) &&& 31)) &&& 15))) ^^^ ((row >>> ((12 : Int32) &&& 31)) &&& 15))) ^^^ ((row >>> ((8 : Int32) &&& 31)) &&& 15))) ^^^ ((row >>> ((4 : Int32) &&& 31)) &&& 15))), (3, .int 1), (5, .int ((row >>> ((4 : Int32) &&& 31)) &&& 15)), (0, .ref h0), (1, .int row)]) hx hb dX5_check_56 hl (k := 3) rfl (by decide) (by decide) rfl (fun ls hl => ?_)
          refine lv_goto (tgt := 13) hx hb dX5_check_59 (by decide) ?_
          refine lv_iload hx hb dX5_check_13 (lv_at hl 0 rfl) ?_
          refine lv_if_lt (tgt := 62) hx hb dX5_check_15 (by decide) (fun c9 => absurd c9 (by decide)) (fun _ => ?_)
          refine lv_iload_n hx hb dX5_check_18 rfl (lv_at hl 5 rfl) ?_
          refine lv_iconst (v := 4) hx hb dX5_check_19 (by decide) ?_
          refine lv_iload hx hb dX5_check_20 (lv_at hl 0 rfl) ?_
          refine lv_imul hx hb dX5_check_22 ?_
          refine lv_topi (fun y_117 ey_117 => ?_)
          obtain rfl : y_117 = 0 := ey_117.trans (by decide)
          refine lv_ishr hx hb dX5_check_23 ?_
          refine lv_bipush (v := 15) hx hb dX5_check_24 (by decide) ?_
          refine lv_iand hx hb dX5_check_26 ?_
          refine lv_istore (lv' := [(5, .int ((row >>> ((0 : Int32) &&& 31)) &&& 15)), (4, .int 0), (2, .int ((X5_turned_r ((X5_turned_r ((X5_turned_r ((X5_turned_r 5) ^^^ ((row >>> ((16 : Int32) &&& 31)) &&& 15))) ^^^ ((row >>> ((12 : Int32) &&& 31)) &&& 15))) ^^^ ((row >>> ((8 : Int32) &&& 31)) &&& 15))) ^^^ ((row >>> ((4 : Int32) &&& 31)) &&& 15))), (3, .int 1), (0, .ref h0), (1, .int row)]) hx hb dX5_check_27 hl (by decide) rfl (fun ls hl => ?_)
          refine lv_iload_n hx hb dX5_check_29 rfl (lv_at hl 3 rfl) ?_
          refine lv_if_ne (tgt := 38) hx hb dX5_check_30 (by decide) (fun _ => ?_) (fun c9 => absurd c9 (by decide))
          refine lv_iconst (v := 1) hx hb dX5_check_38 (by decide) ?_
          refine lv_goto (tgt := 43) hx hb dX5_check_39 (by decide) ?_
          refine lv_istore_n (lv' := [(3, .int 1), (5, .int ((row >>> ((0 : Int32) &&& 31)) &&& 15)), (4, .int 0), (2, .int ((X5_turned_r ((X5_turned_r ((X5_turned_r ((X5_turned_r 5) ^^^ ((row >>> ((16 : Int32) &&& 31)) &&& 15))) ^^^ ((row >>> ((12 : Int32) &&& 31)) &&& 15))) ^^^ ((row >>> ((8 : Int32) &&& 31)) &&& 15))) ^^^ ((row >>> ((4 : Int32) &&& 31)) &&& 15))), (0, .ref h0), (1, .int row)]) hx hb dX5_check_43 rfl hl (by decide) rfl (fun ls hl => ?_)
          refine lv_iload_n hx hb dX5_check_44 rfl (lv_at hl 0 rfl) ?_
          refine lv_if_eq (tgt := 56) hx hb dX5_check_45 (by decide) (fun c9 => absurd c9 (by decide)) (fun _ => ?_)
          refine lv_iload_n hx hb dX5_check_48 rfl (lv_at hl 3 rfl) ?_
          have hPc := hP.sub (ws' := []) [] rfl
          have hDc := hD.sub (ws' := []) [] (by decide) rfl
          have hKc := hK.sub (tys' := []) [] rfl
          have hFc := va_free (wc := []) hD hS hA [] rfl
          refine va_calli (va_runS (As := [.int ((X5_turned_r ((X5_turned_r ((X5_turned_r ((X5_turned_r 5) ^^^ ((row >>> ((16 : Int32) &&& 31)) &&& 15))) ^^^ ((row >>> ((12 : Int32) &&& 31)) &&& 15))) ^^^ ((row >>> ((8 : Int32) &&& 31)) &&& 15))) ^^^ ((row >>> ((4 : Int32) &&& 31)) &&& 15))]) (rest := []) ⟨hx, hb, hml, hown, hts⟩ (k_X5_turned l dC dI H.size ((X5_turned_r ((X5_turned_r ((X5_turned_r ((X5_turned_r 5) ^^^ ((row >>> ((16 : Int32) &&& 31)) &&& 15))) ^^^ ((row >>> ((12 : Int32) &&& 31)) &&& 15))) ^^^ ((row >>> ((8 : Int32) &&& 31)) &&& 15))) ^^^ ((row >>> ((4 : Int32) &&& 31)) &&& 15))) (va_cwS 1 hts gX5_check_X5_turned rfl rfl rfl (by decide +kernel) ⟨Nat.le_of_ble_eq_true rfl, Nat.le_of_ble_eq_true rfl⟩) ⟨pr.blind, fun U hU hW => ⟨rfl, pr.call hU hW hPc hKc hDc⟩⟩ rfl rfl hl.1 rfl (lv_room (Nat.le_of_ble_eq_true rfl)) dX5_check_49 ⟨Nat.le_of_ble_eq_true rfl, Nat.le_of_ble_eq_true rfl⟩) hS (fun q _ h => hFc q h) hFc (fun r_120 u t H1 locs ht hvm hw hB hz1 hk1 hS => ?_)
          subst r_120
          obtain ⟨hP, hD⟩ := po.join (wr := [(h0, .inr (6, [.int 0, .long tl, .int ed, .long eg, .int aw, .long tk, .long un, .ref b1, .int sm, .ref b2, .int frs, .ref b3, .ref b4, .ref b5, .int bts, .ref b6, .int msn, .ref b7, .int flt, .int bh, .int mkd, .int sta, .int lvl, .long snc, .long tld, .int fst, .int snd, .int stp]))]) hP hD [] [0] rfl rfl (by decide) (by decide) hk1 hFc ht hB
          generalize H1 = H at hP hS ⊢
          clear ht hvm hB hz1 hk1 hPc hDc hKc hFc
          have hP : va_P (dC, dI) vwCl [(h0, .inr (6, [.int 0, .long tl, .int ed, .long eg, .int aw, .long tk, .long un, .ref b1, .int sm, .ref b2, .int frs, .ref b3, .ref b4, .ref b5, .int bts, .ref b6, .int msn, .ref b7, .int flt, .int bh, .int mkd, .int sta, .int lvl, .long snc, .long tld, .int fst, .int snd, .int stp]))] H := hP
          have hD : va_D A [(h0, .inr (6, [.int 0, .long tl, .int ed, .long eg, .int aw, .long tk, .long un, .ref b1, .int sm, .ref b2, .int frs, .ref b3, .ref b4, .ref b5, .int bts, .ref b6, .int msn, .ref b7, .int flt, .int bh, .int mkd, .int sta, .int lvl, .long snc, .long tld, .int fst, .int snd, .int stp]))] := hD
          refine W.widen (k := 0) (n := 0) (Nat.le_of_ble_eq_true rfl) (Nat.le_of_ble_eq_true rfl) ?_
          refine lv_iload hx hb dX5_check_52 (lv_at hl 1 rfl) ?_
          refine lv_ixor hx hb dX5_check_54 ?_
          refine lv_istore_n (lv' := [(2, .int ((X5_turned_r ((X5_turned_r ((X5_turned_r ((X5_turned_r ((X5_turned_r 5) ^^^ ((row >>> ((16 : Int32) &&& 31)) &&& 15))) ^^^ ((row >>> ((12 : Int32) &&& 31)) &&& 15))) ^^^ ((row >>> ((8 : Int32) &&& 31)) &&& 15))) ^^^ ((row >>> ((4 : Int32) &&& 31)) &&& 15))) ^^^ ((row >>> ((0 : Int32) &&& 31)) &&& 15))), (3, .int 1), (5, .int ((row >>> ((0 : Int32) &&& 31)) &&& 15)), (4, .int 0), (0, .ref h0), (1, .int row)]) hx hb dX5_check_55 rfl hl (by decide) rfl (fun ls hl => ?_)
          refine lv_iinc (v := (-1)) (lv' := [(4, .int (-1)), (2, .int ((X5_turned_r ((X5_turned_r ((X5_turned_r ((X5_turned_r ((X5_turned_r 5) ^^^ ((row >>> ((16 : Int32) &&& 31)) &&& 15))) ^^^ ((row >>> ((12 : Int32) &&& 31)) &&& 15))) ^^^ ((row >>> ((8 : Int32) &&& 31)) &&& 15))) ^^^ ((row >>> ((4 : Int32) &&& 31)) &&& 15))) ^^^ ((row >>> ((0 : Int32) &&& 31)) &&& 15))), (3, .int 1), (5, .int ((row >>> ((0 : Int32) &&& 31)) &&& 15)), (0, .ref h0), (1, .int row)]) hx hb dX5_check_56 hl (k := 3) rfl (by decide) (by decide) rfl (fun ls hl => ?_)
          refine lv_goto (tgt := 13) hx hb dX5_check_59 (by decide) ?_
          refine lv_iload hx hb dX5_check_13 (lv_at hl 0 rfl) ?_
          refine lv_if_lt (tgt := 62) hx hb dX5_check_15 (by decide) (fun _ => ?_) (fun c9 => absurd c9 (by decide))
          refine lv_iload_n hx hb dX5_check_62 rfl (lv_at hl 1 rfl) ?_
          have hPc := hP.sub (ws' := []) [] rfl
          have hDc := hD.sub (ws' := []) [] (by decide) rfl
          have hKc := hK.sub (tys' := []) [] rfl
          have hFc := va_free (wc := []) hD hS hA [] rfl
          refine va_calli (va_runS (As := [.int ((X5_turned_r ((X5_turned_r ((X5_turned_r ((X5_turned_r ((X5_turned_r 5) ^^^ ((row >>> ((16 : Int32) &&& 31)) &&& 15))) ^^^ ((row >>> ((12 : Int32) &&& 31)) &&& 15))) ^^^ ((row >>> ((8 : Int32) &&& 31)) &&& 15))) ^^^ ((row >>> ((4 : Int32) &&& 31)) &&& 15))) ^^^ ((row >>> ((0 : Int32) &&& 31)) &&& 15))]) (rest := []) ⟨hx, hb, hml, hown, hts⟩ (k_X5_turned l dC dI H.size ((X5_turned_r ((X5_turned_r ((X5_turned_r ((X5_turned_r ((X5_turned_r 5) ^^^ ((row >>> ((16 : Int32) &&& 31)) &&& 15))) ^^^ ((row >>> ((12 : Int32) &&& 31)) &&& 15))) ^^^ ((row >>> ((8 : Int32) &&& 31)) &&& 15))) ^^^ ((row >>> ((4 : Int32) &&& 31)) &&& 15))) ^^^ ((row >>> ((0 : Int32) &&& 31)) &&& 15))) (va_cwS 1 hts gX5_check_X5_turned rfl rfl rfl (by decide +kernel) ⟨Nat.le_of_ble_eq_true rfl, Nat.le_of_ble_eq_true rfl⟩) ⟨pr.blind, fun U hU hW => ⟨rfl, pr.call hU hW hPc hKc hDc⟩⟩ rfl rfl hl.1 rfl (lv_room (Nat.le_of_ble_eq_true rfl)) dX5_check_63 ⟨Nat.le_of_ble_eq_true rfl, Nat.le_of_ble_eq_true rfl⟩) hS (fun q _ h => hFc q h) hFc (fun r_122 u t H1 locs ht hvm hw hB hz1 hk1 hS => ?_)
          subst r_122
          obtain ⟨hP, hD⟩ := po.join (wr := [(h0, .inr (6, [.int 0, .long tl, .int ed, .long eg, .int aw, .long tk, .long un, .ref b1, .int sm, .ref b2, .int frs, .ref b3, .ref b4, .ref b5, .int bts, .ref b6, .int msn, .ref b7, .int flt, .int bh, .int mkd, .int sta, .int lvl, .long snc, .long tld, .int fst, .int snd, .int stp]))]) hP hD [] [0] rfl rfl (by decide) (by decide) hk1 hFc ht hB
          generalize H1 = H at hP hS ⊢
          clear ht hvm hB hz1 hk1 hPc hDc hKc hFc
          have hP : va_P (dC, dI) vwCl [(h0, .inr (6, [.int 0, .long tl, .int ed, .long eg, .int aw, .long tk, .long un, .ref b1, .int sm, .ref b2, .int frs, .ref b3, .ref b4, .ref b5, .int bts, .ref b6, .int msn, .ref b7, .int flt, .int bh, .int mkd, .int sta, .int lvl, .long snc, .long tld, .int fst, .int snd, .int stp]))] H := hP
          have hD : va_D A [(h0, .inr (6, [.int 0, .long tl, .int ed, .long eg, .int aw, .long tk, .long un, .ref b1, .int sm, .ref b2, .int frs, .ref b3, .ref b4, .ref b5, .int bts, .ref b6, .int msn, .ref b7, .int flt, .int bh, .int mkd, .int sta, .int lvl, .long snc, .long tld, .int fst, .int snd, .int stp]))] := hD
          refine W.widen (k := 0) (n := 0) (Nat.le_of_ble_eq_true rfl) (Nat.le_of_ble_eq_true rfl) ?_
          have hP9 : va_P (dC, dI) vwCl [(h0, .inr (6, [.int 0, .long tl, .int ed, .long eg, .int aw, .long tk, .long un, .ref b1, .int sm, .ref b2, .int frs, .ref b3, .ref b4, .ref b5, .int bts, .ref b6, .int msn, .ref b7, .int flt, .int bh, .int mkd, .int sta, .int lvl, .long snc, .long tld, .int fst, .int snd, .int stp]))] H := by exact hP.sub [0] rfl
          have hD9 : va_D A [(h0, .inr (6, [.int 0, .long tl, .int ed, .long eg, .int aw, .long tk, .long un, .ref b1, .int sm, .ref b2, .int frs, .ref b3, .ref b4, .ref b5, .int bts, .ref b6, .int msn, .ref b7, .int flt, .int bh, .int mkd, .int sta, .int lvl, .long snc, .long tld, .int fst, .int snd, .int stp]))] := by exact hD.sub [0] (by decide) rfl
          have e_124 : X5_turned_r ((X5_turned_r ((X5_turned_r ((X5_turned_r ((X5_turned_r ((X5_turned_r 5) ^^^ ((row >>> ((16 : Int32) &&& 31)) &&& 15))) ^^^ ((row >>> ((12 : Int32) &&& 31)) &&& 15))) ^^^ ((row >>> ((8 : Int32) &&& 31)) &&& 15))) ^^^ ((row >>> ((4 : Int32) &&& 31)) &&& 15))) ^^^ ((row >>> ((0 : Int32) &&& 31)) &&& 15)) = X5_check_r row := by rw [X5_check_r, if_pos c_4, if_pos c_9, if_pos c_14, if_neg c_19]
          exact W.iret (v := X5_turned_r ((X5_turned_r ((X5_turned_r ((X5_turned_r ((X5_turned_r ((X5_turned_r 5) ^^^ ((row >>> ((16 : Int32) &&& 31)) &&& 15))) ^^^ ((row >>> ((12 : Int32) &&& 31)) &&& 15))) ^^^ ((row >>> ((8 : Int32) &&& 31)) &&& 15))) ^^^ ((row >>> ((4 : Int32) &&& 31)) &&& 15))) ^^^ ((row >>> ((0 : Int32) &&& 31)) &&& 15))) hx hb hr (fun t ht hW => ⟨⟨_, (), rfl, e_124, po.ret ht hW hP9 hK hD9⟩, hS.F ht⟩) hS.2.2 dX5_check_66
      · refine lv_iconst (v := 1) hx hb dX5_check_38 (by decide) ?_
        refine lv_goto (tgt := 43) hx hb dX5_check_39 (by decide) ?_
        refine lv_istore_n (lv' := [(3, .int 1), (5, .int ((row >>> ((20 : Int32) &&& 31)) &&& 15)), (4, .int 5), (2, .int 5), (0, .ref h0), (1, .int row)]) hx hb dX5_check_43 rfl hl (by decide) rfl (fun ls hl => ?_)
        refine lv_iload_n hx hb dX5_check_44 rfl (lv_at hl 0 rfl) ?_
        refine lv_if_eq (tgt := 56) hx hb dX5_check_45 (by decide) (fun c9 => absurd c9 (by decide)) (fun _ => ?_)
        refine lv_iload_n hx hb dX5_check_48 rfl (lv_at hl 3 rfl) ?_
        have hPc := hP.sub (ws' := []) [] rfl
        have hDc := hD.sub (ws' := []) [] (by decide) rfl
        have hKc := hK.sub (tys' := []) [] rfl
        have hFc := va_free (wc := []) hD hS hA [] rfl
        refine va_calli (va_runS (As := [.int 5]) (rest := []) ⟨hx, hb, hml, hown, hts⟩ (k_X5_turned l dC dI H.size 5) (va_cwS 1 hts gX5_check_X5_turned rfl rfl rfl (by decide +kernel) ⟨Nat.le_of_ble_eq_true rfl, Nat.le_of_ble_eq_true rfl⟩) ⟨pr.blind, fun U hU hW => ⟨rfl, pr.call hU hW hPc hKc hDc⟩⟩ rfl rfl hl.1 rfl (lv_room (Nat.le_of_ble_eq_true rfl)) dX5_check_49 ⟨Nat.le_of_ble_eq_true rfl, Nat.le_of_ble_eq_true rfl⟩) hS (fun q _ h => hFc q h) hFc (fun r_126 u t H1 locs ht hvm hw hB hz1 hk1 hS => ?_)
        subst r_126
        obtain ⟨hP, hD⟩ := po.join (wr := [(h0, .inr (6, [.int 0, .long tl, .int ed, .long eg, .int aw, .long tk, .long un, .ref b1, .int sm, .ref b2, .int frs, .ref b3, .ref b4, .ref b5, .int bts, .ref b6, .int msn, .ref b7, .int flt, .int bh, .int mkd, .int sta, .int lvl, .long snc, .long tld, .int fst, .int snd, .int stp]))]) hP hD [] [0] rfl rfl (by decide) (by decide) hk1 hFc ht hB
        generalize H1 = H at hP hS ⊢
        clear ht hvm hB hz1 hk1 hPc hDc hKc hFc
        have hP : va_P (dC, dI) vwCl [(h0, .inr (6, [.int 0, .long tl, .int ed, .long eg, .int aw, .long tk, .long un, .ref b1, .int sm, .ref b2, .int frs, .ref b3, .ref b4, .ref b5, .int bts, .ref b6, .int msn, .ref b7, .int flt, .int bh, .int mkd, .int sta, .int lvl, .long snc, .long tld, .int fst, .int snd, .int stp]))] H := hP
        have hD : va_D A [(h0, .inr (6, [.int 0, .long tl, .int ed, .long eg, .int aw, .long tk, .long un, .ref b1, .int sm, .ref b2, .int frs, .ref b3, .ref b4, .ref b5, .int bts, .ref b6, .int msn, .ref b7, .int flt, .int bh, .int mkd, .int sta, .int lvl, .long snc, .long tld, .int fst, .int snd, .int stp]))] := hD
        refine W.widen (k := 0) (n := 0) (Nat.le_of_ble_eq_true rfl) (Nat.le_of_ble_eq_true rfl) ?_
        refine lv_iload hx hb dX5_check_52 (lv_at hl 1 rfl) ?_
        refine lv_ixor hx hb dX5_check_54 ?_
        refine lv_istore_n (lv' := [(2, .int ((X5_turned_r 5) ^^^ ((row >>> ((20 : Int32) &&& 31)) &&& 15))), (3, .int 1), (5, .int ((row >>> ((20 : Int32) &&& 31)) &&& 15)), (4, .int 5), (0, .ref h0), (1, .int row)]) hx hb dX5_check_55 rfl hl (by decide) rfl (fun ls hl => ?_)
        refine lv_iinc (v := 4) (lv' := [(4, .int 4), (2, .int ((X5_turned_r 5) ^^^ ((row >>> ((20 : Int32) &&& 31)) &&& 15))), (3, .int 1), (5, .int ((row >>> ((20 : Int32) &&& 31)) &&& 15)), (0, .ref h0), (1, .int row)]) hx hb dX5_check_56 hl (k := 3) rfl (by decide) (by decide) rfl (fun ls hl => ?_)
        refine lv_goto (tgt := 13) hx hb dX5_check_59 (by decide) ?_
        refine lv_iload hx hb dX5_check_13 (lv_at hl 0 rfl) ?_
        refine lv_if_lt (tgt := 62) hx hb dX5_check_15 (by decide) (fun c9 => absurd c9 (by decide)) (fun _ => ?_)
        refine lv_iload_n hx hb dX5_check_18 rfl (lv_at hl 5 rfl) ?_
        refine lv_iconst (v := 4) hx hb dX5_check_19 (by decide) ?_
        refine lv_iload hx hb dX5_check_20 (lv_at hl 0 rfl) ?_
        refine lv_imul hx hb dX5_check_22 ?_
        refine lv_topi (fun y_128 ey_128 => ?_)
        obtain rfl : y_128 = 16 := ey_128.trans (by decide)
        refine lv_ishr hx hb dX5_check_23 ?_
        refine lv_bipush (v := 15) hx hb dX5_check_24 (by decide) ?_
        refine lv_iand hx hb dX5_check_26 ?_
        refine lv_istore (lv' := [(5, .int ((row >>> ((16 : Int32) &&& 31)) &&& 15)), (4, .int 4), (2, .int ((X5_turned_r 5) ^^^ ((row >>> ((20 : Int32) &&& 31)) &&& 15))), (3, .int 1), (0, .ref h0), (1, .int row)]) hx hb dX5_check_27 hl (by decide) rfl (fun ls hl => ?_)
        refine lv_iload_n hx hb dX5_check_29 rfl (lv_at hl 3 rfl) ?_
        refine lv_if_ne (tgt := 38) hx hb dX5_check_30 (by decide) (fun _ => ?_) (fun c9 => absurd c9 (by decide))
        refine lv_iconst (v := 1) hx hb dX5_check_38 (by decide) ?_
        refine lv_goto (tgt := 43) hx hb dX5_check_39 (by decide) ?_
        refine lv_istore_n (lv' := [(3, .int 1), (5, .int ((row >>> ((16 : Int32) &&& 31)) &&& 15)), (4, .int 4), (2, .int ((X5_turned_r 5) ^^^ ((row >>> ((20 : Int32) &&& 31)) &&& 15))), (0, .ref h0), (1, .int row)]) hx hb dX5_check_43 rfl hl (by decide) rfl (fun ls hl => ?_)
        refine lv_iload_n hx hb dX5_check_44 rfl (lv_at hl 0 rfl) ?_
        refine lv_if_eq (tgt := 56) hx hb dX5_check_45 (by decide) (fun c9 => absurd c9 (by decide)) (fun _ => ?_)
        refine lv_iload_n hx hb dX5_check_48 rfl (lv_at hl 3 rfl) ?_
        have hPc := hP.sub (ws' := []) [] rfl
        have hDc := hD.sub (ws' := []) [] (by decide) rfl
        have hKc := hK.sub (tys' := []) [] rfl
        have hFc := va_free (wc := []) hD hS hA [] rfl
        refine va_calli (va_runS (As := [.int ((X5_turned_r 5) ^^^ ((row >>> ((20 : Int32) &&& 31)) &&& 15))]) (rest := []) ⟨hx, hb, hml, hown, hts⟩ (k_X5_turned l dC dI H.size ((X5_turned_r 5) ^^^ ((row >>> ((20 : Int32) &&& 31)) &&& 15))) (va_cwS 1 hts gX5_check_X5_turned rfl rfl rfl (by decide +kernel) ⟨Nat.le_of_ble_eq_true rfl, Nat.le_of_ble_eq_true rfl⟩) ⟨pr.blind, fun U hU hW => ⟨rfl, pr.call hU hW hPc hKc hDc⟩⟩ rfl rfl hl.1 rfl (lv_room (Nat.le_of_ble_eq_true rfl)) dX5_check_49 ⟨Nat.le_of_ble_eq_true rfl, Nat.le_of_ble_eq_true rfl⟩) hS (fun q _ h => hFc q h) hFc (fun r_131 u t H1 locs ht hvm hw hB hz1 hk1 hS => ?_)
        subst r_131
        obtain ⟨hP, hD⟩ := po.join (wr := [(h0, .inr (6, [.int 0, .long tl, .int ed, .long eg, .int aw, .long tk, .long un, .ref b1, .int sm, .ref b2, .int frs, .ref b3, .ref b4, .ref b5, .int bts, .ref b6, .int msn, .ref b7, .int flt, .int bh, .int mkd, .int sta, .int lvl, .long snc, .long tld, .int fst, .int snd, .int stp]))]) hP hD [] [0] rfl rfl (by decide) (by decide) hk1 hFc ht hB
        generalize H1 = H at hP hS ⊢
        clear ht hvm hB hz1 hk1 hPc hDc hKc hFc
        have hP : va_P (dC, dI) vwCl [(h0, .inr (6, [.int 0, .long tl, .int ed, .long eg, .int aw, .long tk, .long un, .ref b1, .int sm, .ref b2, .int frs, .ref b3, .ref b4, .ref b5, .int bts, .ref b6, .int msn, .ref b7, .int flt, .int bh, .int mkd, .int sta, .int lvl, .long snc, .long tld, .int fst, .int snd, .int stp]))] H := hP
        have hD : va_D A [(h0, .inr (6, [.int 0, .long tl, .int ed, .long eg, .int aw, .long tk, .long un, .ref b1, .int sm, .ref b2, .int frs, .ref b3, .ref b4, .ref b5, .int bts, .ref b6, .int msn, .ref b7, .int flt, .int bh, .int mkd, .int sta, .int lvl, .long snc, .long tld, .int fst, .int snd, .int stp]))] := hD
        refine W.widen (k := 0) (n := 0) (Nat.le_of_ble_eq_true rfl) (Nat.le_of_ble_eq_true rfl) ?_
        refine lv_iload hx hb dX5_check_52 (lv_at hl 1 rfl) ?_
        refine lv_ixor hx hb dX5_check_54 ?_
        refine lv_istore_n (lv' := [(2, .int ((X5_turned_r ((X5_turned_r 5) ^^^ ((row >>> ((20 : Int32) &&& 31)) &&& 15))) ^^^ ((row >>> ((16 : Int32) &&& 31)) &&& 15))), (3, .int 1), (5, .int ((row >>> ((16 : Int32) &&& 31)) &&& 15)), (4, .int 4), (0, .ref h0), (1, .int row)]) hx hb dX5_check_55 rfl hl (by decide) rfl (fun ls hl => ?_)
        refine lv_iinc (v := 3) (lv' := [(4, .int 3), (2, .int ((X5_turned_r ((X5_turned_r 5) ^^^ ((row >>> ((20 : Int32) &&& 31)) &&& 15))) ^^^ ((row >>> ((16 : Int32) &&& 31)) &&& 15))), (3, .int 1), (5, .int ((row >>> ((16 : Int32) &&& 31)) &&& 15)), (0, .ref h0), (1, .int row)]) hx hb dX5_check_56 hl (k := 3) rfl (by decide) (by decide) rfl (fun ls hl => ?_)
        refine lv_goto (tgt := 13) hx hb dX5_check_59 (by decide) ?_
        refine lv_iload hx hb dX5_check_13 (lv_at hl 0 rfl) ?_
        refine lv_if_lt (tgt := 62) hx hb dX5_check_15 (by decide) (fun c9 => absurd c9 (by decide)) (fun _ => ?_)
        refine lv_iload_n hx hb dX5_check_18 rfl (lv_at hl 5 rfl) ?_
        refine lv_iconst (v := 4) hx hb dX5_check_19 (by decide) ?_
        refine lv_iload hx hb dX5_check_20 (lv_at hl 0 rfl) ?_
        refine lv_imul hx hb dX5_check_22 ?_
        refine lv_topi (fun y_133 ey_133 => ?_)
        obtain rfl : y_133 = 12 := ey_133.trans (by decide)
        refine lv_ishr hx hb dX5_check_23 ?_
        refine lv_bipush (v := 15) hx hb dX5_check_24 (by decide) ?_
        refine lv_iand hx hb dX5_check_26 ?_
        refine lv_istore (lv' := [(5, .int ((row >>> ((12 : Int32) &&& 31)) &&& 15)), (4, .int 3), (2, .int ((X5_turned_r ((X5_turned_r 5) ^^^ ((row >>> ((20 : Int32) &&& 31)) &&& 15))) ^^^ ((row >>> ((16 : Int32) &&& 31)) &&& 15))), (3, .int 1), (0, .ref h0), (1, .int row)]) hx hb dX5_check_27 hl (by decide) rfl (fun ls hl => ?_)
        refine lv_iload_n hx hb dX5_check_29 rfl (lv_at hl 3 rfl) ?_
        refine lv_if_ne (tgt := 38) hx hb dX5_check_30 (by decide) (fun _ => ?_) (fun c9 => absurd c9 (by decide))
        refine lv_iconst (v := 1) hx hb dX5_check_38 (by decide) ?_
        refine lv_goto (tgt := 43) hx hb dX5_check_39 (by decide) ?_
        refine lv_istore_n (lv' := [(3, .int 1), (5, .int ((row >>> ((12 : Int32) &&& 31)) &&& 15)), (4, .int 3), (2, .int ((X5_turned_r ((X5_turned_r 5) ^^^ ((row >>> ((20 : Int32) &&& 31)) &&& 15))) ^^^ ((row >>> ((16 : Int32) &&& 31)) &&& 15))), (0, .ref h0), (1, .int row)]) hx hb dX5_check_43 rfl hl (by decide) rfl (fun ls hl => ?_)
        refine lv_iload_n hx hb dX5_check_44 rfl (lv_at hl 0 rfl) ?_
        refine lv_if_eq (tgt := 56) hx hb dX5_check_45 (by decide) (fun c9 => absurd c9 (by decide)) (fun _ => ?_)
        refine lv_iload_n hx hb dX5_check_48 rfl (lv_at hl 3 rfl) ?_
        have hPc := hP.sub (ws' := []) [] rfl
        have hDc := hD.sub (ws' := []) [] (by decide) rfl
        have hKc := hK.sub (tys' := []) [] rfl
        have hFc := va_free (wc := []) hD hS hA [] rfl
        refine va_calli (va_runS (As := [.int ((X5_turned_r ((X5_turned_r 5) ^^^ ((row >>> ((20 : Int32) &&& 31)) &&& 15))) ^^^ ((row >>> ((16 : Int32) &&& 31)) &&& 15))]) (rest := []) ⟨hx, hb, hml, hown, hts⟩ (k_X5_turned l dC dI H.size ((X5_turned_r ((X5_turned_r 5) ^^^ ((row >>> ((20 : Int32) &&& 31)) &&& 15))) ^^^ ((row >>> ((16 : Int32) &&& 31)) &&& 15))) (va_cwS 1 hts gX5_check_X5_turned rfl rfl rfl (by decide +kernel) ⟨Nat.le_of_ble_eq_true rfl, Nat.le_of_ble_eq_true rfl⟩) ⟨pr.blind, fun U hU hW => ⟨rfl, pr.call hU hW hPc hKc hDc⟩⟩ rfl rfl hl.1 rfl (lv_room (Nat.le_of_ble_eq_true rfl)) dX5_check_49 ⟨Nat.le_of_ble_eq_true rfl, Nat.le_of_ble_eq_true rfl⟩) hS (fun q _ h => hFc q h) hFc (fun r_136 u t H1 locs ht hvm hw hB hz1 hk1 hS => ?_)
        subst r_136
        obtain ⟨hP, hD⟩ := po.join (wr := [(h0, .inr (6, [.int 0, .long tl, .int ed, .long eg, .int aw, .long tk, .long un, .ref b1, .int sm, .ref b2, .int frs, .ref b3, .ref b4, .ref b5, .int bts, .ref b6, .int msn, .ref b7, .int flt, .int bh, .int mkd, .int sta, .int lvl, .long snc, .long tld, .int fst, .int snd, .int stp]))]) hP hD [] [0] rfl rfl (by decide) (by decide) hk1 hFc ht hB
        generalize H1 = H at hP hS ⊢
        clear ht hvm hB hz1 hk1 hPc hDc hKc hFc
        have hP : va_P (dC, dI) vwCl [(h0, .inr (6, [.int 0, .long tl, .int ed, .long eg, .int aw, .long tk, .long un, .ref b1, .int sm, .ref b2, .int frs, .ref b3, .ref b4, .ref b5, .int bts, .ref b6, .int msn, .ref b7, .int flt, .int bh, .int mkd, .int sta, .int lvl, .long snc, .long tld, .int fst, .int snd, .int stp]))] H := hP
        have hD : va_D A [(h0, .inr (6, [.int 0, .long tl, .int ed, .long eg, .int aw, .long tk, .long un, .ref b1, .int sm, .ref b2, .int frs, .ref b3, .ref b4, .ref b5, .int bts, .ref b6, .int msn, .ref b7, .int flt, .int bh, .int mkd, .int sta, .int lvl, .long snc, .long tld, .int fst, .int snd, .int stp]))] := hD
        refine W.widen (k := 0) (n := 0) (Nat.le_of_ble_eq_true rfl) (Nat.le_of_ble_eq_true rfl) ?_
        refine lv_iload hx hb dX5_check_52 (lv_at hl 1 rfl) ?_
        refine lv_ixor hx hb dX5_check_54 ?_
        refine lv_istore_n (lv' := [(2, .int ((X5_turned_r ((X5_turned_r ((X5_turned_r 5) ^^^ ((row >>> ((20 : Int32) &&& 31)) &&& 15))) ^^^ ((row >>> ((16 : Int32) &&& 31)) &&& 15))) ^^^ ((row >>> ((12 : Int32) &&& 31)) &&& 15))), (3, .int 1), (5, .int ((row >>> ((12 : Int32) &&& 31)) &&& 15)), (4, .int 3), (0, .ref h0), (1, .int row)]) hx hb dX5_check_55 rfl hl (by decide) rfl (fun ls hl => ?_)
        refine lv_iinc (v := 2) (lv' := [(4, .int 2), (2, .int ((X5_turned_r ((X5_turned_r ((X5_turned_r 5) ^^^ ((row >>> ((20 : Int32) &&& 31)) &&& 15))) ^^^ ((row >>> ((16 : Int32) &&& 31)) &&& 15))) ^^^ ((row >>> ((12 : Int32) &&& 31)) &&& 15))), (3, .int 1), (5, .int ((row >>> ((12 : Int32) &&& 31)) &&& 15)), (0, .ref h0), (1, .int row)]) hx hb dX5_check_56 hl (k := 3) rfl (by decide) (by decide) rfl (fun ls hl => ?_)
        refine lv_goto (tgt := 13) hx hb dX5_check_59 (by decide) ?_
        refine lv_iload hx hb dX5_check_13 (lv_at hl 0 rfl) ?_
        refine lv_if_lt (tgt := 62) hx hb dX5_check_15 (by decide) (fun c9 => absurd c9 (by decide)) (fun _ => ?_)
        refine lv_iload_n hx hb dX5_check_18 rfl (lv_at hl 5 rfl) ?_
        refine lv_iconst (v := 4) hx hb dX5_check_19 (by decide) ?_
        refine lv_iload hx hb dX5_check_20 (lv_at hl 0 rfl) ?_
        refine lv_imul hx hb dX5_check_22 ?_
        refine lv_topi (fun y_138 ey_138 => ?_)
        obtain rfl : y_138 = 8 := ey_138.trans (by decide)
        refine lv_ishr hx hb dX5_check_23 ?_
        refine lv_bipush (v := 15) hx hb dX5_check_24 (by decide) ?_
        refine lv_iand hx hb dX5_check_26 ?_
        refine lv_istore (lv' := [(5, .int ((row >>> ((8 : Int32) &&& 31)) &&& 15)), (4, .int 2), (2, .int ((X5_turned_r ((X5_turned_r ((X5_turned_r 5) ^^^ ((row >>> ((20 : Int32) &&& 31)) &&& 15))) ^^^ ((row >>> ((16 : Int32) &&& 31)) &&& 15))) ^^^ ((row >>> ((12 : Int32) &&& 31)) &&& 15))), (3, .int 1), (0, .ref h0), (1, .int row)]) hx hb dX5_check_27 hl (by decide) rfl (fun ls hl => ?_)
        refine lv_iload_n hx hb dX5_check_29 rfl (lv_at hl 3 rfl) ?_
        refine lv_if_ne (tgt := 38) hx hb dX5_check_30 (by decide) (fun _ => ?_) (fun c9 => absurd c9 (by decide))
        refine lv_iconst (v := 1) hx hb dX5_check_38 (by decide) ?_
        refine lv_goto (tgt := 43) hx hb dX5_check_39 (by decide) ?_
        refine lv_istore_n (lv' := [(3, .int 1), (5, .int ((row >>> ((8 : Int32) &&& 31)) &&& 15)), (4, .int 2), (2, .int ((X5_turned_r ((X5_turned_r ((X5_turned_r 5) ^^^ ((row >>> ((20 : Int32) &&& 31)) &&& 15))) ^^^ ((row >>> ((16 : Int32) &&& 31)) &&& 15))) ^^^ ((row >>> ((12 : Int32) &&& 31)) &&& 15))), (0, .ref h0), (1, .int row)]) hx hb dX5_check_43 rfl hl (by decide) rfl (fun ls hl => ?_)
        refine lv_iload_n hx hb dX5_check_44 rfl (lv_at hl 0 rfl) ?_
        refine lv_if_eq (tgt := 56) hx hb dX5_check_45 (by decide) (fun c9 => absurd c9 (by decide)) (fun _ => ?_)
        refine lv_iload_n hx hb dX5_check_48 rfl (lv_at hl 3 rfl) ?_
        have hPc := hP.sub (ws' := []) [] rfl
        have hDc := hD.sub (ws' := []) [] (by decide) rfl
        have hKc := hK.sub (tys' := []) [] rfl
        have hFc := va_free (wc := []) hD hS hA [] rfl
        refine va_calli (va_runS (As := [.int ((X5_turned_r ((X5_turned_r ((X5_turned_r 5) ^^^ ((row >>> ((20 : Int32) &&& 31)) &&& 15))) ^^^ ((row >>> ((16 : Int32) &&& 31)) &&& 15))) ^^^ ((row >>> ((12 : Int32) &&& 31)) &&& 15))]) (rest := []) ⟨hx, hb, hml, hown, hts⟩ (k_X5_turned l dC dI H.size ((X5_turned_r ((X5_turned_r ((X5_turned_r 5) ^^^ ((row >>> ((20 : Int32) &&& 31)) &&& 15))) ^^^ ((row >>> ((16 : Int32) &&& 31)) &&& 15))) ^^^ ((row >>> ((12 : Int32) &&& 31)) &&& 15))) (va_cwS 1 hts gX5_check_X5_turned rfl rfl rfl (by decide +kernel) ⟨Nat.le_of_ble_eq_true rfl, Nat.le_of_ble_eq_true rfl⟩) ⟨pr.blind, fun U hU hW => ⟨rfl, pr.call hU hW hPc hKc hDc⟩⟩ rfl rfl hl.1 rfl (lv_room (Nat.le_of_ble_eq_true rfl)) dX5_check_49 ⟨Nat.le_of_ble_eq_true rfl, Nat.le_of_ble_eq_true rfl⟩) hS (fun q _ h => hFc q h) hFc (fun r_141 u t H1 locs ht hvm hw hB hz1 hk1 hS => ?_)
        subst r_141
        obtain ⟨hP, hD⟩ := po.join (wr := [(h0, .inr (6, [.int 0, .long tl, .int ed, .long eg, .int aw, .long tk, .long un, .ref b1, .int sm, .ref b2, .int frs, .ref b3, .ref b4, .ref b5, .int bts, .ref b6, .int msn, .ref b7, .int flt, .int bh, .int mkd, .int sta, .int lvl, .long snc, .long tld, .int fst, .int snd, .int stp]))]) hP hD [] [0] rfl rfl (by decide) (by decide) hk1 hFc ht hB
        generalize H1 = H at hP hS ⊢
        clear ht hvm hB hz1 hk1 hPc hDc hKc hFc
        have hP : va_P (dC, dI) vwCl [(h0, .inr (6, [.int 0, .long tl, .int ed, .long eg, .int aw, .long tk, .long un, .ref b1, .int sm, .ref b2, .int frs, .ref b3, .ref b4, .ref b5, .int bts, .ref b6, .int msn, .ref b7, .int flt, .int bh, .int mkd, .int sta, .int lvl, .long snc, .long tld, .int fst, .int snd, .int stp]))] H := hP
        have hD : va_D A [(h0, .inr (6, [.int 0, .long tl, .int ed, .long eg, .int aw, .long tk, .long un, .ref b1, .int sm, .ref b2, .int frs, .ref b3, .ref b4, .ref b5, .int bts, .ref b6, .int msn, .ref b7, .int flt, .int bh, .int mkd, .int sta, .int lvl, .long snc, .long tld, .int fst, .int snd, .int stp]))] := hD
        refine W.widen (k := 0) (n := 0) (Nat.le_of_ble_eq_true rfl) (Nat.le_of_ble_eq_true rfl) ?_
        refine lv_iload hx hb dX5_check_52 (lv_at hl 1 rfl) ?_
        refine lv_ixor hx hb dX5_check_54 ?_
        refine lv_istore_n (lv' := [(2, .int ((X5_turned_r ((X5_turned_r ((X5_turned_r ((X5_turned_r 5) ^^^ ((row >>> ((20 : Int32) &&& 31)) &&& 15))) ^^^ ((row >>> ((16 : Int32) &&& 31)) &&& 15))) ^^^ ((row >>> ((12 : Int32) &&& 31)) &&& 15))) ^^^ ((row >>> ((8 : Int32) &&& 31)) &&& 15))), (3, .int 1), (5, .int ((row >>> ((8 : Int32) &&& 31)) &&& 15)), (4, .int 2), (0, .ref h0), (1, .int row)]) hx hb dX5_check_55 rfl hl (by decide) rfl (fun ls hl => ?_)
        refine lv_iinc (v := 1) (lv' := [(4, .int 1), (2, .int ((X5_turned_r ((X5_turned_r ((X5_turned_r ((X5_turned_r 5) ^^^ ((row >>> ((20 : Int32) &&& 31)) &&& 15))) ^^^ ((row >>> ((16 : Int32) &&& 31)) &&& 15))) ^^^ ((row >>> ((12 : Int32) &&& 31)) &&& 15))) ^^^ ((row >>> ((8 : Int32) &&& 31)) &&& 15))), (3, .int 1), (5, .int ((row >>> ((8 : Int32) &&& 31)) &&& 15)), (0, .ref h0), (1, .int row)]) hx hb dX5_check_56 hl (k := 3) rfl (by decide) (by decide) rfl (fun ls hl => ?_)
        refine lv_goto (tgt := 13) hx hb dX5_check_59 (by decide) ?_
        refine lv_iload hx hb dX5_check_13 (lv_at hl 0 rfl) ?_
        refine lv_if_lt (tgt := 62) hx hb dX5_check_15 (by decide) (fun c9 => absurd c9 (by decide)) (fun _ => ?_)
        refine lv_iload_n hx hb dX5_check_18 rfl (lv_at hl 5 rfl) ?_
        refine lv_iconst (v := 4) hx hb dX5_check_19 (by decide) ?_
        refine lv_iload hx hb dX5_check_20 (lv_at hl 0 rfl) ?_
        refine lv_imul hx hb dX5_check_22 ?_
        refine lv_topi (fun y_143 ey_143 => ?_)
        obtain rfl : y_143 = 4 := ey_143.trans (by decide)
        refine lv_ishr hx hb dX5_check_23 ?_
        refine lv_bipush (v := 15) hx hb dX5_check_24 (by decide) ?_
        refine lv_iand hx hb dX5_check_26 ?_
        refine lv_istore (lv' := [(5, .int ((row >>> ((4 : Int32) &&& 31)) &&& 15)), (4, .int 1), (2, .int ((X5_turned_r ((X5_turned_r ((X5_turned_r ((X5_turned_r 5) ^^^ ((row >>> ((20 : Int32) &&& 31)) &&& 15))) ^^^ ((row >>> ((16 : Int32) &&& 31)) &&& 15))) ^^^ ((row >>> ((12 : Int32) &&& 31)) &&& 15))) ^^^ ((row >>> ((8 : Int32) &&& 31)) &&& 15))), (3, .int 1), (0, .ref h0), (1, .int row)]) hx hb dX5_check_27 hl (by decide) rfl (fun ls hl => ?_)
        refine lv_iload_n hx hb dX5_check_29 rfl (lv_at hl 3 rfl) ?_
        refine lv_if_ne (tgt := 38) hx hb dX5_check_30 (by decide) (fun _ => ?_) (fun c9 => absurd c9 (by decide))
        refine lv_iconst (v := 1) hx hb dX5_check_38 (by decide) ?_
        refine lv_goto (tgt := 43) hx hb dX5_check_39 (by decide) ?_
        refine lv_istore_n (lv' := [(3, .int 1), (5, .int ((row >>> ((4 : Int32) &&& 31)) &&& 15)), (4, .int 1), (2, .int ((X5_turned_r ((X5_turned_r ((X5_turned_r ((X5_turned_r 5) ^^^ ((row >>> ((20 : Int32) &&& 31)) &&& 15))) ^^^ ((row >>> ((16 : Int32) &&& 31)) &&& 15))) ^^^ ((row >>> ((12 : Int32) &&& 31)) &&& 15))) ^^^ ((row >>> ((8 : Int32) &&& 31)) &&& 15))), (0, .ref h0), (1, .int row)]) hx hb dX5_check_43 rfl hl (by decide) rfl (fun ls hl => ?_)
        refine lv_iload_n hx hb dX5_check_44 rfl (lv_at hl 0 rfl) ?_
        refine lv_if_eq (tgt := 56) hx hb dX5_check_45 (by decide) (fun c9 => absurd c9 (by decide)) (fun _ => ?_)
        refine lv_iload_n hx hb dX5_check_48 rfl (lv_at hl 3 rfl) ?_
        have hPc := hP.sub (ws' := []) [] rfl
        have hDc := hD.sub (ws' := []) [] (by decide) rfl
        have hKc := hK.sub (tys' := []) [] rfl
        have hFc := va_free (wc := []) hD hS hA [] rfl
        refine va_calli (va_runS (As := [.int ((X5_turned_r ((X5_turned_r ((X5_turned_r ((X5_turned_r 5) ^^^ ((row >>> ((20 : Int32) &&& 31)) &&& 15))) ^^^ ((row >>> ((16 : Int32) &&& 31)) &&& 15))) ^^^ ((row >>> ((12 : Int32) &&& 31)) &&& 15))) ^^^ ((row >>> ((8 : Int32) &&& 31)) &&& 15))]) (rest := []) ⟨hx, hb, hml, hown, hts⟩ (k_X5_turned l dC dI H.size ((X5_turned_r ((X5_turned_r ((X5_turned_r ((X5_turned_r 5) ^^^ ((row >>> ((20 : Int32) &&& 31)) &&& 15))) ^^^ ((row >>> ((16 : Int32) &&& 31)) &&& 15))) ^^^ ((row >>> ((12 : Int32) &&& 31)) &&& 15))) ^^^ ((row >>> ((8 : Int32) &&& 31)) &&& 15))) (va_cwS 1 hts gX5_check_X5_turned rfl rfl rfl (by decide +kernel) ⟨Nat.le_of_ble_eq_true rfl, Nat.le_of_ble_eq_true rfl⟩) ⟨pr.blind, fun U hU hW => ⟨rfl, pr.call hU hW hPc hKc hDc⟩⟩ rfl rfl hl.1 rfl (lv_room (Nat.le_of_ble_eq_true rfl)) dX5_check_49 ⟨Nat.le_of_ble_eq_true rfl, Nat.le_of_ble_eq_true rfl⟩) hS (fun q _ h => hFc q h) hFc (fun r_146 u t H1 locs ht hvm hw hB hz1 hk1 hS => ?_)
        subst r_146
        obtain ⟨hP, hD⟩ := po.join (wr := [(h0, .inr (6, [.int 0, .long tl, .int ed, .long eg, .int aw, .long tk, .long un, .ref b1, .int sm, .ref b2, .int frs, .ref b3, .ref b4, .ref b5, .int bts, .ref b6, .int msn, .ref b7, .int flt, .int bh, .int mkd, .int sta, .int lvl, .long snc, .long tld, .int fst, .int snd, .int stp]))]) hP hD [] [0] rfl rfl (by decide) (by decide) hk1 hFc ht hB
        generalize H1 = H at hP hS ⊢
        clear ht hvm hB hz1 hk1 hPc hDc hKc hFc
        have hP : va_P (dC, dI) vwCl [(h0, .inr (6, [.int 0, .long tl, .int ed, .long eg, .int aw, .long tk, .long un, .ref b1, .int sm, .ref b2, .int frs, .ref b3, .ref b4, .ref b5, .int bts, .ref b6, .int msn, .ref b7, .int flt, .int bh, .int mkd, .int sta, .int lvl, .long snc, .long tld, .int fst, .int snd, .int stp]))] H := hP
        have hD : va_D A [(h0, .inr (6, [.int 0, .long tl, .int ed, .long eg, .int aw, .long tk, .long un, .ref b1, .int sm, .ref b2, .int frs, .ref b3, .ref b4, .ref b5, .int bts, .ref b6, .int msn, .ref b7, .int flt, .int bh, .int mkd, .int sta, .int lvl, .long snc, .long tld, .int fst, .int snd, .int stp]))] := hD
        refine W.widen (k := 0) (n := 0) (Nat.le_of_ble_eq_true rfl) (Nat.le_of_ble_eq_true rfl) ?_
        refine lv_iload hx hb dX5_check_52 (lv_at hl 1 rfl) ?_
        refine lv_ixor hx hb dX5_check_54 ?_
        refine lv_istore_n (lv' := [(2, .int ((X5_turned_r ((X5_turned_r ((X5_turned_r ((X5_turned_r ((X5_turned_r 5) ^^^ ((row >>> ((20 : Int32) &&& 31)) &&& 15))) ^^^ ((row >>> ((16 : Int32) &&& 31)) &&& 15))) ^^^ ((row >>> ((12 : Int32) &&& 31)) &&& 15))) ^^^ ((row >>> ((8 : Int32) &&& 31)) &&& 15))) ^^^ ((row >>> ((4 : Int32) &&& 31)) &&& 15))), (3, .int 1), (5, .int ((row >>> ((4 : Int32) &&& 31)) &&& 15)), (4, .int 1), (0, .ref h0), (1, .int row)]) hx hb dX5_check_55 rfl hl (by decide) rfl (fun ls hl => ?_)
        refine lv_iinc (v := 0) (lv' := [(4, .int 0), (2, .int ((X5_turned_r ((X5_turned_r ((X5_turned_r ((X5_turned_r ((X5_turned_r 5) ^^^ ((row >>> ((20 : Int32) &&& 31)) &&& 15))) ^^^ ((row >>> ((16 : Int32) &&& 31)) &&& 15))) ^^^ ((row >>> ((12 : Int32) &&& 31)) &&& 15))) ^^^ ((row >>> ((8 : Int32) &&& 31)) &&& 15))) ^^^ ((row >>> ((4 : Int32) &&& 31)) &&& 15))), (3, .int 1), (5, .int ((row >>> ((4 : Int32) &&& 31)) &&& 15)), (0, .ref h0), (1, .int row)]) hx hb dX5_check_56 hl (k := 3) rfl (by decide) (by decide) rfl (fun ls hl => ?_)
        refine lv_goto (tgt := 13) hx hb dX5_check_59 (by decide) ?_
        refine lv_iload hx hb dX5_check_13 (lv_at hl 0 rfl) ?_
        refine lv_if_lt (tgt := 62) hx hb dX5_check_15 (by decide) (fun c9 => absurd c9 (by decide)) (fun _ => ?_)
        refine lv_iload_n hx hb dX5_check_18 rfl (lv_at hl 5 rfl) ?_
        refine lv_iconst (v := 4) hx hb dX5_check_19 (by decide) ?_
        refine lv_iload hx hb dX5_check_20 (lv_at hl 0 rfl) ?_
        refine lv_imul hx hb dX5_check_22 ?_
        refine lv_topi (fun y_148 ey_148 => ?_)
        obtain rfl : y_148 = 0 := ey_148.trans (by decide)
        refine lv_ishr hx hb dX5_check_23 ?_
        refine lv_bipush (v := 15) hx hb dX5_check_24 (by decide) ?_
        refine lv_iand hx hb dX5_check_26 ?_
        refine lv_istore (lv' := [(5, .int ((row >>> ((0 : Int32) &&& 31)) &&& 15)), (4, .int 0), (2, .int ((X5_turned_r ((X5_turned_r ((X5_turned_r ((X5_turned_r ((X5_turned_r 5) ^^^ ((row >>> ((20 : Int32) &&& 31)) &&& 15))) ^^^ ((row >>> ((16 : Int32) &&& 31)) &&& 15))) ^^^ ((row >>> ((12 : Int32) &&& 31)) &&& 15))) ^^^ ((row >>> ((8 : Int32) &&& 31)) &&& 15))) ^^^ ((row >>> ((4 : Int32) &&& 31)) &&& 15))), (3, .int 1), (0, .ref h0), (1, .int row)]) hx hb dX5_check_27 hl (by decide) rfl (fun ls hl => ?_)
        refine lv_iload_n hx hb dX5_check_29 rfl (lv_at hl 3 rfl) ?_
        refine lv_if_ne (tgt := 38) hx hb dX5_check_30 (by decide) (fun _ => ?_) (fun c9 => absurd c9 (by decide))
        refine lv_iconst (v := 1) hx hb dX5_check_38 (by decide) ?_
        refine lv_goto (tgt := 43) hx hb dX5_check_39 (by decide) ?_
        refine lv_istore_n (lv' := [(3, .int 1), (5, .int ((row >>> ((0 : Int32) &&& 31)) &&& 15)), (4, .int 0), (2, .int ((X5_turned_r ((X5_turned_r ((X5_turned_r ((X5_turned_r ((X5_turned_r 5) ^^^ ((row >>> ((20 : Int32) &&& 31)) &&& 15))) ^^^ ((row >>> ((16 : Int32) &&& 31)) &&& 15))) ^^^ ((row >>> ((12 : Int32) &&& 31)) &&& 15))) ^^^ ((row >>> ((8 : Int32) &&& 31)) &&& 15))) ^^^ ((row >>> ((4 : Int32) &&& 31)) &&& 15))), (0, .ref h0), (1, .int row)]) hx hb dX5_check_43 rfl hl (by decide) rfl (fun ls hl => ?_)
        refine lv_iload_n hx hb dX5_check_44 rfl (lv_at hl 0 rfl) ?_
        refine lv_if_eq (tgt := 56) hx hb dX5_check_45 (by decide) (fun c9 => absurd c9 (by decide)) (fun _ => ?_)
        refine lv_iload_n hx hb dX5_check_48 rfl (lv_at hl 3 rfl) ?_
        have hPc := hP.sub (ws' := []) [] rfl
        have hDc := hD.sub (ws' := []) [] (by decide) rfl
        have hKc := hK.sub (tys' := []) [] rfl
        have hFc := va_free (wc := []) hD hS hA [] rfl
        refine va_calli (va_runS (As := [.int ((X5_turned_r ((X5_turned_r ((X5_turned_r ((X5_turned_r ((X5_turned_r 5) ^^^ ((row >>> ((20 : Int32) &&& 31)) &&& 15))) ^^^ ((row >>> ((16 : Int32) &&& 31)) &&& 15))) ^^^ ((row >>> ((12 : Int32) &&& 31)) &&& 15))) ^^^ ((row >>> ((8 : Int32) &&& 31)) &&& 15))) ^^^ ((row >>> ((4 : Int32) &&& 31)) &&& 15))]) (rest := []) ⟨hx, hb, hml, hown, hts⟩ (k_X5_turned l dC dI H.size ((X5_turned_r ((X5_turned_r ((X5_turned_r ((X5_turned_r ((X5_turned_r 5) ^^^ ((row >>> ((20 : Int32) &&& 31)) &&& 15))) ^^^ ((row >>> ((16 : Int32) &&& 31)) &&& 15))) ^^^ ((row >>> ((12 : Int32) &&& 31)) &&& 15))) ^^^ ((row >>> ((8 : Int32) &&& 31)) &&& 15))) ^^^ ((row >>> ((4 : Int32) &&& 31)) &&& 15))) (va_cwS 1 hts gX5_check_X5_turned rfl rfl rfl (by decide +kernel) ⟨Nat.le_of_ble_eq_true rfl, Nat.le_of_ble_eq_true rfl⟩) ⟨pr.blind, fun U hU hW => ⟨rfl, pr.call hU hW hPc hKc hDc⟩⟩ rfl rfl hl.1 rfl (lv_room (Nat.le_of_ble_eq_true rfl)) dX5_check_49 ⟨Nat.le_of_ble_eq_true rfl, Nat.le_of_ble_eq_true rfl⟩) hS (fun q _ h => hFc q h) hFc (fun r_151 u t H1 locs ht hvm hw hB hz1 hk1 hS => ?_)
        subst r_151
        obtain ⟨hP, hD⟩ := po.join (wr := [(h0, .inr (6, [.int 0, .long tl, .int ed, .long eg, .int aw, .long tk, .long un, .ref b1, .int sm, .ref b2, .int frs, .ref b3, .ref b4, .ref b5, .int bts, .ref b6, .int msn, .ref b7, .int flt, .int bh, .int mkd, .int sta, .int lvl, .long snc, .long tld, .int fst, .int snd, .int stp]))]) hP hD [] [0] rfl rfl (by decide) (by decide) hk1 hFc ht hB
        generalize H1 = H at hP hS ⊢
        clear ht hvm hB hz1 hk1 hPc hDc hKc hFc
        have hP : va_P (dC, dI) vwCl [(h0, .inr (6, [.int 0, .long tl, .int ed, .long eg, .int aw, .long tk, .long un, .ref b1, .int sm, .ref b2, .int frs, .ref b3, .ref b4, .ref b5, .int bts, .ref b6, .int msn, .ref b7, .int flt, .int bh, .int mkd, .int sta, .int lvl, .long snc, .long tld, .int fst, .int snd, .int stp]))] H := hP
        have hD : va_D A [(h0, .inr (6, [.int 0, .long tl, .int ed, .long eg, .int aw, .long tk, .long un, .ref b1, .int sm, .ref b2, .int frs, .ref b3, .ref b4, .ref b5, .int bts, .ref b6, .int msn, .ref b7, .int flt, .int bh, .int mkd, .int sta, .int lvl, .long snc, .long tld, .int fst, .int snd, .int stp]))] := hD
        refine W.widen (k := 0) (n := 0) (Nat.le_of_ble_eq_true rfl) (Nat.le_of_ble_eq_true rfl) ?_
        refine lv_iload hx hb dX5_check_52 (lv_at hl 1 rfl) ?_
        refine lv_ixor hx hb dX5_check_54 ?_
        refine lv_istore_n (lv' := [(2, .int ((X5_turned_r ((X5_turned_r ((X5_turned_r ((X5_turned_r ((X5_turned_r ((X5_turned_r 5) ^^^ ((row >>> ((20 : Int32) &&& 31)) &&& 15))) ^^^ ((row >>> ((16 : Int32) &&& 31)) &&& 15))) ^^^ ((row >>> ((12 : Int32) &&& 31)) &&& 15))) ^^^ ((row >>> ((8 : Int32) &&& 31)) &&& 15))) ^^^ ((row >>> ((4 : Int32) &&& 31)) &&& 15))) ^^^ ((row >>> ((0 : Int32) &&& 31)) &&& 15))), (3, .int 1), (5, .int ((row >>> ((0 : Int32) &&& 31)) &&& 15)), (4, .int 0), (0, .ref h0), (1, .int row)]) hx hb dX5_check_55 rfl hl (by decide) rfl (fun ls hl => ?_)
        refine lv_iinc (v := (-1)) (lv' := [(4, .int (-1)), (2, .int ((X5_turned_r ((X5_turned_r ((X5_turned_r ((X5_turned_r ((X5_turned_r ((X5_turned_r 5) ^^^ ((row >>> ((20 : Int32) &&& 31)) &&& 15))) ^^^ ((row >>> ((16 : Int32) &&& 31)) &&& 15))) ^^^ ((row >>> ((12 : Int32) &&& 31)) &&& 15))) ^^^ ((row >>> ((8 : Int32) &&& 31)) &&& 15))) ^^^ ((row >>> ((4 : Int32) &&& 31)) &&& 15))) ^^^ ((row >>> ((0 : Int32) &&& 31)) &&& 15))), (3, .int 1), (5, .int ((row >>> ((0 : Int32) &&& 31)) &&& 15)), (0, .ref h0), (1, .int row)]) hx hb dX5_check_56 hl (k := 3) rfl (by decide) (by decide) rfl (fun ls hl => ?_)
        refine lv_goto (tgt := 13) hx hb dX5_check_59 (by decide) ?_
        refine lv_iload hx hb dX5_check_13 (lv_at hl 0 rfl) ?_
        refine lv_if_lt (tgt := 62) hx hb dX5_check_15 (by decide) (fun _ => ?_) (fun c9 => absurd c9 (by decide))
        refine lv_iload_n hx hb dX5_check_62 rfl (lv_at hl 1 rfl) ?_
        have hPc := hP.sub (ws' := []) [] rfl
        have hDc := hD.sub (ws' := []) [] (by decide) rfl
        have hKc := hK.sub (tys' := []) [] rfl
        have hFc := va_free (wc := []) hD hS hA [] rfl
        refine va_calli (va_runS (As := [.int ((X5_turned_r ((X5_turned_r ((X5_turned_r ((X5_turned_r ((X5_turned_r ((X5_turned_r 5) ^^^ ((row >>> ((20 : Int32) &&& 31)) &&& 15))) ^^^ ((row >>> ((16 : Int32) &&& 31)) &&& 15))) ^^^ ((row >>> ((12 : Int32) &&& 31)) &&& 15))) ^^^ ((row >>> ((8 : Int32) &&& 31)) &&& 15))) ^^^ ((row >>> ((4 : Int32) &&& 31)) &&& 15))) ^^^ ((row >>> ((0 : Int32) &&& 31)) &&& 15))]) (rest := []) ⟨hx, hb, hml, hown, hts⟩ (k_X5_turned l dC dI H.size ((X5_turned_r ((X5_turned_r ((X5_turned_r ((X5_turned_r ((X5_turned_r ((X5_turned_r 5) ^^^ ((row >>> ((20 : Int32) &&& 31)) &&& 15))) ^^^ ((row >>> ((16 : Int32) &&& 31)) &&& 15))) ^^^ ((row >>> ((12 : Int32) &&& 31)) &&& 15))) ^^^ ((row >>> ((8 : Int32) &&& 31)) &&& 15))) ^^^ ((row >>> ((4 : Int32) &&& 31)) &&& 15))) ^^^ ((row >>> ((0 : Int32) &&& 31)) &&& 15))) (va_cwS 1 hts gX5_check_X5_turned rfl rfl rfl (by decide +kernel) ⟨Nat.le_of_ble_eq_true rfl, Nat.le_of_ble_eq_true rfl⟩) ⟨pr.blind, fun U hU hW => ⟨rfl, pr.call hU hW hPc hKc hDc⟩⟩ rfl rfl hl.1 rfl (lv_room (Nat.le_of_ble_eq_true rfl)) dX5_check_63 ⟨Nat.le_of_ble_eq_true rfl, Nat.le_of_ble_eq_true rfl⟩) hS (fun q _ h => hFc q h) hFc (fun r_153 u t H1 locs ht hvm hw hB hz1 hk1 hS => ?_)
        subst r_153
        obtain ⟨hP, hD⟩ := po.join (wr := [(h0, .inr (6, [.int 0, .long tl, .int ed, .long eg, .int aw, .long tk, .long un, .ref b1, .int sm, .ref b2, .int frs, .ref b3, .ref b4, .ref b5, .int bts, .ref b6, .int msn, .ref b7, .int flt, .int bh, .int mkd, .int sta, .int lvl, .long snc, .long tld, .int fst, .int snd, .int stp]))]) hP hD [] [0] rfl rfl (by decide) (by decide) hk1 hFc ht hB
        generalize H1 = H at hP hS ⊢
        clear ht hvm hB hz1 hk1 hPc hDc hKc hFc
        have hP : va_P (dC, dI) vwCl [(h0, .inr (6, [.int 0, .long tl, .int ed, .long eg, .int aw, .long tk, .long un, .ref b1, .int sm, .ref b2, .int frs, .ref b3, .ref b4, .ref b5, .int bts, .ref b6, .int msn, .ref b7, .int flt, .int bh, .int mkd, .int sta, .int lvl, .long snc, .long tld, .int fst, .int snd, .int stp]))] H := hP
        have hD : va_D A [(h0, .inr (6, [.int 0, .long tl, .int ed, .long eg, .int aw, .long tk, .long un, .ref b1, .int sm, .ref b2, .int frs, .ref b3, .ref b4, .ref b5, .int bts, .ref b6, .int msn, .ref b7, .int flt, .int bh, .int mkd, .int sta, .int lvl, .long snc, .long tld, .int fst, .int snd, .int stp]))] := hD
        refine W.widen (k := 0) (n := 0) (Nat.le_of_ble_eq_true rfl) (Nat.le_of_ble_eq_true rfl) ?_
        have hP9 : va_P (dC, dI) vwCl [(h0, .inr (6, [.int 0, .long tl, .int ed, .long eg, .int aw, .long tk, .long un, .ref b1, .int sm, .ref b2, .int frs, .ref b3, .ref b4, .ref b5, .int bts, .ref b6, .int msn, .ref b7, .int flt, .int bh, .int mkd, .int sta, .int lvl, .long snc, .long tld, .int fst, .int snd, .int stp]))] H := by exact hP.sub [0] rfl
        have hD9 : va_D A [(h0, .inr (6, [.int 0, .long tl, .int ed, .long eg, .int aw, .long tk, .long un, .ref b1, .int sm, .ref b2, .int frs, .ref b3, .ref b4, .ref b5, .int bts, .ref b6, .int msn, .ref b7, .int flt, .int bh, .int mkd, .int sta, .int lvl, .long snc, .long tld, .int fst, .int snd, .int stp]))] := by exact hD.sub [0] (by decide) rfl
        have e_155 : X5_turned_r ((X5_turned_r ((X5_turned_r ((X5_turned_r ((X5_turned_r ((X5_turned_r ((X5_turned_r 5) ^^^ ((row >>> ((20 : Int32) &&& 31)) &&& 15))) ^^^ ((row >>> ((16 : Int32) &&& 31)) &&& 15))) ^^^ ((row >>> ((12 : Int32) &&& 31)) &&& 15))) ^^^ ((row >>> ((8 : Int32) &&& 31)) &&& 15))) ^^^ ((row >>> ((4 : Int32) &&& 31)) &&& 15))) ^^^ ((row >>> ((0 : Int32) &&& 31)) &&& 15)) = X5_check_r row := by rw [X5_check_r, if_pos c_4, if_pos c_9, if_neg c_14]
        exact W.iret (v := X5_turned_r ((X5_turned_r ((X5_turned_r ((X5_turned_r ((X5_turned_r ((X5_turned_r ((X5_turned_r 5) ^^^ ((row >>> ((20 : Int32) &&& 31)) &&& 15))) ^^^ ((row >>> ((16 : Int32) &&& 31)) &&& 15))) ^^^ ((row >>> ((12 : Int32) &&& 31)) &&& 15))) ^^^ ((row >>> ((8 : Int32) &&& 31)) &&& 15))) ^^^ ((row >>> ((4 : Int32) &&& 31)) &&& 15))) ^^^ ((row >>> ((0 : Int32) &&& 31)) &&& 15))) hx hb hr (fun t ht hW => ⟨⟨_, (), rfl, e_155, po.ret ht hW hP9 hK hD9⟩, hS.F ht⟩) hS.2.2 dX5_check_66
    · refine lv_iconst (v := 1) hx hb dX5_check_38 (by decide) ?_
      refine lv_goto (tgt := 43) hx hb dX5_check_39 (by decide) ?_
      refine lv_istore_n (lv' := [(3, .int 1), (5, .int ((row >>> ((24 : Int32) &&& 31)) &&& 15)), (4, .int 6), (2, .int 5), (0, .ref h0), (1, .int row)]) hx hb dX5_check_43 rfl hl (by decide) rfl (fun ls hl => ?_)
      refine lv_iload_n hx hb dX5_check_44 rfl (lv_at hl 0 rfl) ?_
      refine lv_if_eq (tgt := 56) hx hb dX5_check_45 (by decide) (fun c9 => absurd c9 (by decide)) (fun _ => ?_)
      refine lv_iload_n hx hb dX5_check_48 rfl (lv_at hl 3 rfl) ?_
      have hPc := hP.sub (ws' := []) [] rfl
      have hDc := hD.sub (ws' := []) [] (by decide) rfl
      have hKc := hK.sub (tys' := []) [] rfl
      have hFc := va_free (wc := []) hD hS hA [] rfl
      refine va_calli (va_runS (As := [.int 5]) (rest := []) ⟨hx, hb, hml, hown, hts⟩ (k_X5_turned l dC dI H.size 5) (va_cwS 1 hts gX5_check_X5_turned rfl rfl rfl (by decide +kernel) ⟨Nat.le_of_ble_eq_true rfl, Nat.le_of_ble_eq_true rfl⟩) ⟨pr.blind, fun U hU hW => ⟨rfl, pr.call hU hW hPc hKc hDc⟩⟩ rfl rfl hl.1 rfl (lv_room (Nat.le_of_ble_eq_true rfl)) dX5_check_49 ⟨Nat.le_of_ble_eq_true rfl, Nat.le_of_ble_eq_true rfl⟩) hS (fun q _ h => hFc q h) hFc (fun r_157 u t H1 locs ht hvm hw hB hz1 hk1 hS => ?_)
      subst r_157
      obtain ⟨hP, hD⟩ := po.join (wr := [(h0, .inr (6, [.int 0, .long tl, .int ed, .long eg, .int aw, .long tk, .long un, .ref b1, .int sm, .ref b2, .int frs, .ref b3, .ref b4, .ref b5, .int bts, .ref b6, .int msn, .ref b7, .int flt, .int bh, .int mkd, .int sta, .int lvl, .long snc, .long tld, .int fst, .int snd, .int stp]))]) hP hD [] [0] rfl rfl (by decide) (by decide) hk1 hFc ht hB
      generalize H1 = H at hP hS ⊢
      clear ht hvm hB hz1 hk1 hPc hDc hKc hFc
      have hP : va_P (dC, dI) vwCl [(h0, .inr (6, [.int 0, .long tl, .int ed, .long eg, .int aw, .long tk, .long un, .ref b1, .int sm, .ref b2, .int frs, .ref b3, .ref b4, .ref b5, .int bts, .ref b6, .int msn, .ref b7, .int flt, .int bh, .int mkd, .int sta, .int lvl, .long snc, .long tld, .int fst, .int snd, .int stp]))] H := hP
      have hD : va_D A [(h0, .inr (6, [.int 0, .long tl, .int ed, .long eg, .int aw, .long tk, .long un, .ref b1, .int sm, .ref b2, .int frs, .ref b3, .ref b4, .ref b5, .int bts, .ref b6, .int msn, .ref b7, .int flt, .int bh, .int mkd, .int sta, .int lvl, .long snc, .long tld, .int fst, .int snd, .int stp]))] := hD
      refine W.widen (k := 0) (n := 0) (Nat.le_of_ble_eq_true rfl) (Nat.le_of_ble_eq_true rfl) ?_
      refine lv_iload hx hb dX5_check_52 (lv_at hl 1 rfl) ?_
      refine lv_ixor hx hb dX5_check_54 ?_
      refine lv_istore_n (lv' := [(2, .int ((X5_turned_r 5) ^^^ ((row >>> ((24 : Int32) &&& 31)) &&& 15))), (3, .int 1), (5, .int ((row >>> ((24 : Int32) &&& 31)) &&& 15)), (4, .int 6), (0, .ref h0), (1, .int row)]) hx hb dX5_check_55 rfl hl (by decide) rfl (fun ls hl => ?_)
      refine lv_iinc (v := 5) (lv' := [(4, .int 5), (2, .int ((X5_turned_r 5) ^^^ ((row >>> ((24 : Int32) &&& 31)) &&& 15))), (3, .int 1), (5, .int ((row >>> ((24 : Int32) &&& 31)) &&& 15)), (0, .ref h0), (1, .int row)]) hx hb dX5_check_56 hl (k := 3) rfl (by decide) (by decide) rfl (fun ls hl => ?_)
      refine lv_goto (tgt := 13) hx hb dX5_check_59 (by decide) ?_
      refine lv_iload hx hb dX5_check_13 (lv_at hl 0 rfl) ?_
      refine lv_if_lt (tgt := 62) hx hb dX5_check_15 (by decide) (fun c9 => absurd c9 (by decide)) (fun _ => ?_)
      refine lv_iload_n hx hb dX5_check_18 rfl (lv_at hl 5 rfl) ?_
      refine lv_iconst (v := 4) hx hb dX5_check_19 (by decide) ?_
      refine lv_iload hx hb dX5_check_20 (lv_at hl 0 rfl) ?_
      refine lv_imul hx hb dX5_check_22 ?_
      refine lv_topi (fun y_159 ey_159 => ?_)
      obtain rfl : y_159 = 20 := ey_159.trans (by decide)
      refine lv_ishr hx hb dX5_check_23 ?_
      refine lv_bipush (v := 15) hx hb dX5_check_24 (by decide) ?_
      refine lv_iand hx hb dX5_check_26 ?_
      refine lv_istore (lv' := [(5, .int ((row >>> ((20 : Int32) &&& 31)) &&& 15)), (4, .int 5), (2, .int ((X5_turned_r 5) ^^^ ((row >>> ((24 : Int32) &&& 31)) &&& 15))), (3, .int 1), (0, .ref h0), (1, .int row)]) hx hb dX5_check_27 hl (by decide) rfl (fun ls hl => ?_)
      refine lv_iload_n hx hb dX5_check_29 rfl (lv_at hl 3 rfl) ?_
      refine lv_if_ne (tgt := 38) hx hb dX5_check_30 (by decide) (fun _ => ?_) (fun c9 => absurd c9 (by decide))
      refine lv_iconst (v := 1) hx hb dX5_check_38 (by decide) ?_
      refine lv_goto (tgt := 43) hx hb dX5_check_39 (by decide) ?_
      refine lv_istore_n (lv' := [(3, .int 1), (5, .int ((row >>> ((20 : Int32) &&& 31)) &&& 15)), (4, .int 5), (2, .int ((X5_turned_r 5) ^^^ ((row >>> ((24 : Int32) &&& 31)) &&& 15))), (0, .ref h0), (1, .int row)]) hx hb dX5_check_43 rfl hl (by decide) rfl (fun ls hl => ?_)
      refine lv_iload_n hx hb dX5_check_44 rfl (lv_at hl 0 rfl) ?_
      refine lv_if_eq (tgt := 56) hx hb dX5_check_45 (by decide) (fun c9 => absurd c9 (by decide)) (fun _ => ?_)
      refine lv_iload_n hx hb dX5_check_48 rfl (lv_at hl 3 rfl) ?_
      have hPc := hP.sub (ws' := []) [] rfl
      have hDc := hD.sub (ws' := []) [] (by decide) rfl
      have hKc := hK.sub (tys' := []) [] rfl
      have hFc := va_free (wc := []) hD hS hA [] rfl
      refine va_calli (va_runS (As := [.int ((X5_turned_r 5) ^^^ ((row >>> ((24 : Int32) &&& 31)) &&& 15))]) (rest := []) ⟨hx, hb, hml, hown, hts⟩ (k_X5_turned l dC dI H.size ((X5_turned_r 5) ^^^ ((row >>> ((24 : Int32) &&& 31)) &&& 15))) (va_cwS 1 hts gX5_check_X5_turned rfl rfl rfl (by decide +kernel) ⟨Nat.le_of_ble_eq_true rfl, Nat.le_of_ble_eq_true rfl⟩) ⟨pr.blind, fun U hU hW => ⟨rfl, pr.call hU hW hPc hKc hDc⟩⟩ rfl rfl hl.1 rfl (lv_room (Nat.le_of_ble_eq_true rfl)) dX5_check_49 ⟨Nat.le_of_ble_eq_true rfl, Nat.le_of_ble_eq_true rfl⟩) hS (fun q _ h => hFc q h) hFc (fun r_162 u t H1 locs ht hvm hw hB hz1 hk1 hS => ?_)
      subst r_162
      obtain ⟨hP, hD⟩ := po.join (wr := [(h0, .inr (6, [.int 0, .long tl, .int ed, .long eg, .int aw, .long tk, .long un, .ref b1, .int sm, .ref b2, .int frs, .ref b3, .ref b4, .ref b5, .int bts, .ref b6, .int msn, .ref b7, .int flt, .int bh, .int mkd, .int sta, .int lvl, .long snc, .long tld, .int fst, .int snd, .int stp]))]) hP hD [] [0] rfl rfl (by decide) (by decide) hk1 hFc ht hB
      generalize H1 = H at hP hS ⊢
      clear ht hvm hB hz1 hk1 hPc hDc hKc hFc
      have hP : va_P (dC, dI) vwCl [(h0, .inr (6, [.int 0, .long tl, .int ed, .long eg, .int aw, .long tk, .long un, .ref b1, .int sm, .ref b2, .int frs, .ref b3, .ref b4, .ref b5, .int bts, .ref b6, .int msn, .ref b7, .int flt, .int bh, .int mkd, .int sta, .int lvl, .long snc, .long tld, .int fst, .int snd, .int stp]))] H := hP
      have hD : va_D A [(h0, .inr (6, [.int 0, .long tl, .int ed, .long eg, .int aw, .long tk, .long un, .ref b1, .int sm, .ref b2, .int frs, .ref b3, .ref b4, .ref b5, .int bts, .ref b6, .int msn, .ref b7, .int flt, .int bh, .int mkd, .int sta, .int lvl, .long snc, .long tld, .int fst, .int snd, .int stp]))] := hD
      refine W.widen (k := 0) (n := 0) (Nat.le_of_ble_eq_true rfl) (Nat.le_of_ble_eq_true rfl) ?_
      refine lv_iload hx hb dX5_check_52 (lv_at hl 1 rfl) ?_
      refine lv_ixor hx hb dX5_check_54 ?_
      refine lv_istore_n (lv' := [(2, .int ((X5_turned_r ((X5_turned_r 5) ^^^ ((row >>> ((24 : Int32) &&& 31)) &&& 15))) ^^^ ((row >>> ((20 : Int32) &&& 31)) &&& 15))), (3, .int 1), (5, .int ((row >>> ((20 : Int32) &&& 31)) &&& 15)), (4, .int 5), (0, .ref h0), (1, .int row)]) hx hb dX5_check_55 rfl hl (by decide) rfl (fun ls hl => ?_)
      refine lv_iinc (v := 4) (lv' := [(4, .int 4), (2, .int ((X5_turned_r ((X5_turned_r 5) ^^^ ((row >>> ((24 : Int32) &&& 31)) &&& 15))) ^^^ ((row >>> ((20 : Int32) &&& 31)) &&& 15))), (3, .int 1), (5, .int ((row >>> ((20 : Int32) &&& 31)) &&& 15)), (0, .ref h0), (1, .int row)]) hx hb dX5_check_56 hl (k := 3) rfl (by decide) (by decide) rfl (fun ls hl => ?_)
      refine lv_goto (tgt := 13) hx hb dX5_check_59 (by decide) ?_
      refine lv_iload hx hb dX5_check_13 (lv_at hl 0 rfl) ?_
      refine lv_if_lt (tgt := 62) hx hb dX5_check_15 (by decide) (fun c9 => absurd c9 (by decide)) (fun _ => ?_)
      refine lv_iload_n hx hb dX5_check_18 rfl (lv_at hl 5 rfl) ?_
      refine lv_iconst (v := 4) hx hb dX5_check_19 (by decide) ?_
      refine lv_iload hx hb dX5_check_20 (lv_at hl 0 rfl) ?_
      refine lv_imul hx hb dX5_check_22 ?_
      refine lv_topi (fun y_164 ey_164 => ?_)
      obtain rfl : y_164 = 16 := ey_164.trans (by decide)
      refine lv_ishr hx hb dX5_check_23 ?_
      refine lv_bipush (v := 15) hx hb dX5_check_24 (by decide) ?_
      refine lv_iand hx hb dX5_check_26 ?_
      refine lv_istore (lv' := [(5, .int ((row >>> ((16 : Int32) &&& 31)) &&& 15)), (4, .int 4), (2, .int ((X5_turned_r ((X5_turned_r 5) ^^^ ((row >>> ((24 : Int32) &&& 31)) &&& 15))) ^^^ ((row >>> ((20 : Int32) &&& 31)) &&& 15))), (3, .int 1), (0, .ref h0), (1, .int row)]) hx hb dX5_check_27 hl (by decide) rfl (fun ls hl => ?_)
      refine lv_iload_n hx hb dX5_check_29 rfl (lv_at hl 3 rfl) ?_
      refine lv_if_ne (tgt := 38) hx hb dX5_check_30 (by decide) (fun _ => ?_) (fun c9 => absurd c9 (by decide))
      refine lv_iconst (v := 1) hx hb dX5_check_38 (by decide) ?_
      refine lv_goto (tgt := 43) hx hb dX5_check_39 (by decide) ?_
      refine lv_istore_n (lv' := [(3, .int 1), (5, .int ((row >>> ((16 : Int32) &&& 31)) &&& 15)), (4, .int 4), (2, .int ((X5_turned_r ((X5_turned_r 5) ^^^ ((row >>> ((24 : Int32) &&& 31)) &&& 15))) ^^^ ((row >>> ((20 : Int32) &&& 31)) &&& 15))), (0, .ref h0), (1, .int row)]) hx hb dX5_check_43 rfl hl (by decide) rfl (fun ls hl => ?_)
      refine lv_iload_n hx hb dX5_check_44 rfl (lv_at hl 0 rfl) ?_
      refine lv_if_eq (tgt := 56) hx hb dX5_check_45 (by decide) (fun c9 => absurd c9 (by decide)) (fun _ => ?_)
      refine lv_iload_n hx hb dX5_check_48 rfl (lv_at hl 3 rfl) ?_
      have hPc := hP.sub (ws' := []) [] rfl
      have hDc := hD.sub (ws' := []) [] (by decide) rfl
      have hKc := hK.sub (tys' := []) [] rfl
      have hFc := va_free (wc := []) hD hS hA [] rfl
      refine va_calli (va_runS (As := [.int ((X5_turned_r ((X5_turned_r 5) ^^^ ((row >>> ((24 : Int32) &&& 31)) &&& 15))) ^^^ ((row >>> ((20 : Int32) &&& 31)) &&& 15))]) (rest := []) ⟨hx, hb, hml, hown, hts⟩ (k_X5_turned l dC dI H.size ((X5_turned_r ((X5_turned_r 5) ^^^ ((row >>> ((24 : Int32) &&& 31)) &&& 15))) ^^^ ((row >>> ((20 : Int32) &&& 31)) &&& 15))) (va_cwS 1 hts gX5_check_X5_turned rfl rfl rfl (by decide +kernel) ⟨Nat.le_of_ble_eq_true rfl, Nat.le_of_ble_eq_true rfl⟩) ⟨pr.blind, fun U hU hW => ⟨rfl, pr.call hU hW hPc hKc hDc⟩⟩ rfl rfl hl.1 rfl (lv_room (Nat.le_of_ble_eq_true rfl)) dX5_check_49 ⟨Nat.le_of_ble_eq_true rfl, Nat.le_of_ble_eq_true rfl⟩) hS (fun q _ h => hFc q h) hFc (fun r_167 u t H1 locs ht hvm hw hB hz1 hk1 hS => ?_)
      subst r_167
      obtain ⟨hP, hD⟩ := po.join (wr := [(h0, .inr (6, [.int 0, .long tl, .int ed, .long eg, .int aw, .long tk, .long un, .ref b1, .int sm, .ref b2, .int frs, .ref b3, .ref b4, .ref b5, .int bts, .ref b6, .int msn, .ref b7, .int flt, .int bh, .int mkd, .int sta, .int lvl, .long snc, .long tld, .int fst, .int snd, .int stp]))]) hP hD [] [0] rfl rfl (by decide) (by decide) hk1 hFc ht hB
      generalize H1 = H at hP hS ⊢
      clear ht hvm hB hz1 hk1 hPc hDc hKc hFc
      have hP : va_P (dC, dI) vwCl [(h0, .inr (6, [.int 0, .long tl, .int ed, .long eg, .int aw, .long tk, .long un, .ref b1, .int sm, .ref b2, .int frs, .ref b3, .ref b4, .ref b5, .int bts, .ref b6, .int msn, .ref b7, .int flt, .int bh, .int mkd, .int sta, .int lvl, .long snc, .long tld, .int fst, .int snd, .int stp]))] H := hP
      have hD : va_D A [(h0, .inr (6, [.int 0, .long tl, .int ed, .long eg, .int aw, .long tk, .long un, .ref b1, .int sm, .ref b2, .int frs, .ref b3, .ref b4, .ref b5, .int bts, .ref b6, .int msn, .ref b7, .int flt, .int bh, .int mkd, .int sta, .int lvl, .long snc, .long tld, .int fst, .int snd, .int stp]))] := hD
      refine W.widen (k := 0) (n := 0) (Nat.le_of_ble_eq_true rfl) (Nat.le_of_ble_eq_true rfl) ?_
      refine lv_iload hx hb dX5_check_52 (lv_at hl 1 rfl) ?_
      refine lv_ixor hx hb dX5_check_54 ?_
      refine lv_istore_n (lv' := [(2, .int ((X5_turned_r ((X5_turned_r ((X5_turned_r 5) ^^^ ((row >>> ((24 : Int32) &&& 31)) &&& 15))) ^^^ ((row >>> ((20 : Int32) &&& 31)) &&& 15))) ^^^ ((row >>> ((16 : Int32) &&& 31)) &&& 15))), (3, .int 1), (5, .int ((row >>> ((16 : Int32) &&& 31)) &&& 15)), (4, .int 4), (0, .ref h0), (1, .int row)]) hx hb dX5_check_55 rfl hl (by decide) rfl (fun ls hl => ?_)
      refine lv_iinc (v := 3) (lv' := [(4, .int 3), (2, .int ((X5_turned_r ((X5_turned_r ((X5_turned_r 5) ^^^ ((row >>> ((24 : Int32) &&& 31)) &&& 15))) ^^^ ((row >>> ((20 : Int32) &&& 31)) &&& 15))) ^^^ ((row >>> ((16 : Int32) &&& 31)) &&& 15))), (3, .int 1), (5, .int ((row >>> ((16 : Int32) &&& 31)) &&& 15)), (0, .ref h0), (1, .int row)]) hx hb dX5_check_56 hl (k := 3) rfl (by decide) (by decide) rfl (fun ls hl => ?_)
      refine lv_goto (tgt := 13) hx hb dX5_check_59 (by decide) ?_
      refine lv_iload hx hb dX5_check_13 (lv_at hl 0 rfl) ?_
      refine lv_if_lt (tgt := 62) hx hb dX5_check_15 (by decide) (fun c9 => absurd c9 (by decide)) (fun _ => ?_)
      refine lv_iload_n hx hb dX5_check_18 rfl (lv_at hl 5 rfl) ?_
      refine lv_iconst (v := 4) hx hb dX5_check_19 (by decide) ?_
      refine lv_iload hx hb dX5_check_20 (lv_at hl 0 rfl) ?_
      refine lv_imul hx hb dX5_check_22 ?_
      refine lv_topi (fun y_169 ey_169 => ?_)
      obtain rfl : y_169 = 12 := ey_169.trans (by decide)
      refine lv_ishr hx hb dX5_check_23 ?_
      refine lv_bipush (v := 15) hx hb dX5_check_24 (by decide) ?_
      refine lv_iand hx hb dX5_check_26 ?_
      refine lv_istore (lv' := [(5, .int ((row >>> ((12 : Int32) &&& 31)) &&& 15)), (4, .int 3), (2, .int ((X5_turned_r ((X5_turned_r ((X5_turned_r 5) ^^^ ((row >>> ((24 : Int32) &&& 31)) &&& 15))) ^^^ ((row >>> ((20 : Int32) &&& 31)) &&& 15))) ^^^ ((row >>> ((16 : Int32) &&& 31)) &&& 15))), (3, .int 1), (0, .ref h0), (1, .int row)]) hx hb dX5_check_27 hl (by decide) rfl (fun ls hl => ?_)
      refine lv_iload_n hx hb dX5_check_29 rfl (lv_at hl 3 rfl) ?_
      refine lv_if_ne (tgt := 38) hx hb dX5_check_30 (by decide) (fun _ => ?_) (fun c9 => absurd c9 (by decide))
      refine lv_iconst (v := 1) hx hb dX5_check_38 (by decide) ?_
      refine lv_goto (tgt := 43) hx hb dX5_check_39 (by decide) ?_
      refine lv_istore_n (lv' := [(3, .int 1), (5, .int ((row >>> ((12 : Int32) &&& 31)) &&& 15)), (4, .int 3), (2, .int ((X5_turned_r ((X5_turned_r ((X5_turned_r 5) ^^^ ((row >>> ((24 : Int32) &&& 31)) &&& 15))) ^^^ ((row >>> ((20 : Int32) &&& 31)) &&& 15))) ^^^ ((row >>> ((16 : Int32) &&& 31)) &&& 15))), (0, .ref h0), (1, .int row)]) hx hb dX5_check_43 rfl hl (by decide) rfl (fun ls hl => ?_)
      refine lv_iload_n hx hb dX5_check_44 rfl (lv_at hl 0 rfl) ?_
      refine lv_if_eq (tgt := 56) hx hb dX5_check_45 (by decide) (fun c9 => absurd c9 (by decide)) (fun _ => ?_)
      refine lv_iload_n hx hb dX5_check_48 rfl (lv_at hl 3 rfl) ?_
      have hPc := hP.sub (ws' := []) [] rfl
      have hDc := hD.sub (ws' := []) [] (by decide) rfl
      have hKc := hK.sub (tys' := []) [] rfl
      have hFc := va_free (wc := []) hD hS hA [] rfl
      refine va_calli (va_runS (As := [.int ((X5_turned_r ((X5_turned_r ((X5_turned_r 5) ^^^ ((row >>> ((24 : Int32) &&& 31)) &&& 15))) ^^^ ((row >>> ((20 : Int32) &&& 31)) &&& 15))) ^^^ ((row >>> ((16 : Int32) &&& 31)) &&& 15))]) (rest := []) ⟨hx, hb, hml, hown, hts⟩ (k_X5_turned l dC dI H.size ((X5_turned_r ((X5_turned_r ((X5_turned_r 5) ^^^ ((row >>> ((24 : Int32) &&& 31)) &&& 15))) ^^^ ((row >>> ((20 : Int32) &&& 31)) &&& 15))) ^^^ ((row >>> ((16 : Int32) &&& 31)) &&& 15))) (va_cwS 1 hts gX5_check_X5_turned rfl rfl rfl (by decide +kernel) ⟨Nat.le_of_ble_eq_true rfl, Nat.le_of_ble_eq_true rfl⟩) ⟨pr.blind, fun U hU hW => ⟨rfl, pr.call hU hW hPc hKc hDc⟩⟩ rfl rfl hl.1 rfl (lv_room (Nat.le_of_ble_eq_true rfl)) dX5_check_49 ⟨Nat.le_of_ble_eq_true rfl, Nat.le_of_ble_eq_true rfl⟩) hS (fun q _ h => hFc q h) hFc (fun r_172 u t H1 locs ht hvm hw hB hz1 hk1 hS => ?_)
      subst r_172
      obtain ⟨hP, hD⟩ := po.join (wr := [(h0, .inr (6, [.int 0, .long tl, .int ed, .long eg, .int aw, .long tk, .long un, .ref b1, .int sm, .ref b2, .int frs, .ref b3, .ref b4, .ref b5, .int bts, .ref b6, .int msn, .ref b7, .int flt, .int bh, .int mkd, .int sta, .int lvl, .long snc, .long tld, .int fst, .int snd, .int stp]))]) hP hD [] [0] rfl rfl (by decide) (by decide) hk1 hFc ht hB
      generalize H1 = H at hP hS ⊢
      clear ht hvm hB hz1 hk1 hPc hDc hKc hFc
      have hP : va_P (dC, dI) vwCl [(h0, .inr (6, [.int 0, .long tl, .int ed, .long eg, .int aw, .long tk, .long un, .ref b1, .int sm, .ref b2, .int frs, .ref b3, .ref b4, .ref b5, .int bts, .ref b6, .int msn, .ref b7, .int flt, .int bh, .int mkd, .int sta, .int lvl, .long snc, .long tld, .int fst, .int snd, .int stp]))] H := hP
      have hD : va_D A [(h0, .inr (6, [.int 0, .long tl, .int ed, .long eg, .int aw, .long tk, .long un, .ref b1, .int sm, .ref b2, .int frs, .ref b3, .ref b4, .ref b5, .int bts, .ref b6, .int msn, .ref b7, .int flt, .int bh, .int mkd, .int sta, .int lvl, .long snc, .long tld, .int fst, .int snd, .int stp]))] := hD
      refine W.widen (k := 0) (n := 0) (Nat.le_of_ble_eq_true rfl) (Nat.le_of_ble_eq_true rfl) ?_
      refine lv_iload hx hb dX5_check_52 (lv_at hl 1 rfl) ?_
      refine lv_ixor hx hb dX5_check_54 ?_
      refine lv_istore_n (lv' := [(2, .int ((X5_turned_r ((X5_turned_r ((X5_turned_r ((X5_turned_r 5) ^^^ ((row >>> ((24 : Int32) &&& 31)) &&& 15))) ^^^ ((row >>> ((20 : Int32) &&& 31)) &&& 15))) ^^^ ((row >>> ((16 : Int32) &&& 31)) &&& 15))) ^^^ ((row >>> ((12 : Int32) &&& 31)) &&& 15))), (3, .int 1), (5, .int ((row >>> ((12 : Int32) &&& 31)) &&& 15)), (4, .int 3), (0, .ref h0), (1, .int row)]) hx hb dX5_check_55 rfl hl (by decide) rfl (fun ls hl => ?_)
      refine lv_iinc (v := 2) (lv' := [(4, .int 2), (2, .int ((X5_turned_r ((X5_turned_r ((X5_turned_r ((X5_turned_r 5) ^^^ ((row >>> ((24 : Int32) &&& 31)) &&& 15))) ^^^ ((row >>> ((20 : Int32) &&& 31)) &&& 15))) ^^^ ((row >>> ((16 : Int32) &&& 31)) &&& 15))) ^^^ ((row >>> ((12 : Int32) &&& 31)) &&& 15))), (3, .int 1), (5, .int ((row >>> ((12 : Int32) &&& 31)) &&& 15)), (0, .ref h0), (1, .int row)]) hx hb dX5_check_56 hl (k := 3) rfl (by decide) (by decide) rfl (fun ls hl => ?_)
      refine lv_goto (tgt := 13) hx hb dX5_check_59 (by decide) ?_
      refine lv_iload hx hb dX5_check_13 (lv_at hl 0 rfl) ?_
      refine lv_if_lt (tgt := 62) hx hb dX5_check_15 (by decide) (fun c9 => absurd c9 (by decide)) (fun _ => ?_)
      refine lv_iload_n hx hb dX5_check_18 rfl (lv_at hl 5 rfl) ?_
      refine lv_iconst (v := 4) hx hb dX5_check_19 (by decide) ?_
      refine lv_iload hx hb dX5_check_20 (lv_at hl 0 rfl) ?_
      refine lv_imul hx hb dX5_check_22 ?_
      refine lv_topi (fun y_174 ey_174 => ?_)
      obtain rfl : y_174 = 8 := ey_174.trans (by decide)
      refine lv_ishr hx hb dX5_check_23 ?_
      refine lv_bipush (v := 15) hx hb dX5_check_24 (by decide) ?_
      refine lv_iand hx hb dX5_check_26 ?_
      refine lv_istore (lv' := [(5, .int ((row >>> ((8 : Int32) &&& 31)) &&& 15)), (4, .int 2), (2, .int ((X5_turned_r ((X5_turned_r ((X5_turned_r ((X5_turned_r 5) ^^^ ((row >>> ((24 : Int32) &&& 31)) &&& 15))) ^^^ ((row >>> ((20 : Int32) &&& 31)) &&& 15))) ^^^ ((row >>> ((16 : Int32) &&& 31)) &&& 15))) ^^^ ((row >>> ((12 : Int32) &&& 31)) &&& 15))), (3, .int 1), (0, .ref h0), (1, .int row)]) hx hb dX5_check_27 hl (by decide) rfl (fun ls hl => ?_)
      refine lv_iload_n hx hb dX5_check_29 rfl (lv_at hl 3 rfl) ?_
      refine lv_if_ne (tgt := 38) hx hb dX5_check_30 (by decide) (fun _ => ?_) (fun c9 => absurd c9 (by decide))
      refine lv_iconst (v := 1) hx hb dX5_check_38 (by decide) ?_
      refine lv_goto (tgt := 43) hx hb dX5_check_39 (by decide) ?_
      refine lv_istore_n (lv' := [(3, .int 1), (5, .int ((row >>> ((8 : Int32) &&& 31)) &&& 15)), (4, .int 2), (2, .int ((X5_turned_r ((X5_turned_r ((X5_turned_r ((X5_turned_r 5) ^^^ ((row >>> ((24 : Int32) &&& 31)) &&& 15))) ^^^ ((row >>> ((20 : Int32) &&& 31)) &&& 15))) ^^^ ((row >>> ((16 : Int32) &&& 31)) &&& 15))) ^^^ ((row >>> ((12 : Int32) &&& 31)) &&& 15))), (0, .ref h0), (1, .int row)]) hx hb dX5_check_43 rfl hl (by decide) rfl (fun ls hl => ?_)
      refine lv_iload_n hx hb dX5_check_44 rfl (lv_at hl 0 rfl) ?_
      refine lv_if_eq (tgt := 56) hx hb dX5_check_45 (by decide) (fun c9 => absurd c9 (by decide)) (fun _ => ?_)
      refine lv_iload_n hx hb dX5_check_48 rfl (lv_at hl 3 rfl) ?_
      have hPc := hP.sub (ws' := []) [] rfl
      have hDc := hD.sub (ws' := []) [] (by decide) rfl
      have hKc := hK.sub (tys' := []) [] rfl
      have hFc := va_free (wc := []) hD hS hA [] rfl
      refine va_calli (va_runS (As := [.int ((X5_turned_r ((X5_turned_r ((X5_turned_r ((X5_turned_r 5) ^^^ ((row >>> ((24 : Int32) &&& 31)) &&& 15))) ^^^ ((row >>> ((20 : Int32) &&& 31)) &&& 15))) ^^^ ((row >>> ((16 : Int32) &&& 31)) &&& 15))) ^^^ ((row >>> ((12 : Int32) &&& 31)) &&& 15))]) (rest := []) ⟨hx, hb, hml, hown, hts⟩ (k_X5_turned l dC dI H.size ((X5_turned_r ((X5_turned_r ((X5_turned_r ((X5_turned_r 5) ^^^ ((row >>> ((24 : Int32) &&& 31)) &&& 15))) ^^^ ((row >>> ((20 : Int32) &&& 31)) &&& 15))) ^^^ ((row >>> ((16 : Int32) &&& 31)) &&& 15))) ^^^ ((row >>> ((12 : Int32) &&& 31)) &&& 15))) (va_cwS 1 hts gX5_check_X5_turned rfl rfl rfl (by decide +kernel) ⟨Nat.le_of_ble_eq_true rfl, Nat.le_of_ble_eq_true rfl⟩) ⟨pr.blind, fun U hU hW => ⟨rfl, pr.call hU hW hPc hKc hDc⟩⟩ rfl rfl hl.1 rfl (lv_room (Nat.le_of_ble_eq_true rfl)) dX5_check_49 ⟨Nat.le_of_ble_eq_true rfl, Nat.le_of_ble_eq_true rfl⟩) hS (fun q _ h => hFc q h) hFc (fun r_177 u t H1 locs ht hvm hw hB hz1 hk1 hS => ?_)
      subst r_177
      obtain ⟨hP, hD⟩ := po.join (wr := [(h0, .inr (6, [.int 0, .long tl, .int ed, .long eg, .int aw, .long tk, .long un, .ref b1, .int sm, .ref b2, .int frs, .ref b3, .ref b4, .ref b5, .int bts, .ref b6, .int msn, .ref b7, .int flt, .int bh, .int mkd, .int sta, .int lvl, .long snc, .long tld, .int fst, .int snd, .int stp]))]) hP hD [] [0] rfl rfl (by decide) (by decide) hk1 hFc ht hB
      generalize H1 = H at hP hS ⊢
      clear ht hvm hB hz1 hk1 hPc hDc hKc hFc
      have hP : va_P (dC, dI) vwCl [(h0, .inr (6, [.int 0, .long tl, .int ed, .long eg, .int aw, .long tk, .long un, .ref b1, .int sm, .ref b2, .int frs, .ref b3, .ref b4, .ref b5, .int bts, .ref b6, .int msn, .ref b7, .int flt, .int bh, .int mkd, .int sta, .int lvl, .long snc, .long tld, .int fst, .int snd, .int stp]))] H := hP
      have hD : va_D A [(h0, .inr (6, [.int 0, .long tl, .int ed, .long eg, .int aw, .long tk, .long un, .ref b1, .int sm, .ref b2, .int frs, .ref b3, .ref b4, .ref b5, .int bts, .ref b6, .int msn, .ref b7, .int flt, .int bh, .int mkd, .int sta, .int lvl, .long snc, .long tld, .int fst, .int snd, .int stp]))] := hD
      refine W.widen (k := 0) (n := 0) (Nat.le_of_ble_eq_true rfl) (Nat.le_of_ble_eq_true rfl) ?_
      refine lv_iload hx hb dX5_check_52 (lv_at hl 1 rfl) ?_
      refine lv_ixor hx hb dX5_check_54 ?_
      refine lv_istore_n (lv' := [(2, .int ((X5_turned_r ((X5_turned_r ((X5_turned_r ((X5_turned_r ((X5_turned_r 5) ^^^ ((row >>> ((24 : Int32) &&& 31)) &&& 15))) ^^^ ((row >>> ((20 : Int32) &&& 31)) &&& 15))) ^^^ ((row >>> ((16 : Int32) &&& 31)) &&& 15))) ^^^ ((row >>> ((12 : Int32) &&& 31)) &&& 15))) ^^^ ((row >>> ((8 : Int32) &&& 31)) &&& 15))), (3, .int 1), (5, .int ((row >>> ((8 : Int32) &&& 31)) &&& 15)), (4, .int 2), (0, .ref h0), (1, .int row)]) hx hb dX5_check_55 rfl hl (by decide) rfl (fun ls hl => ?_)
      refine lv_iinc (v := 1) (lv' := [(4, .int 1), (2, .int ((X5_turned_r ((X5_turned_r ((X5_turned_r ((X5_turned_r ((X5_turned_r 5) ^^^ ((row >>> ((24 : Int32) &&& 31)) &&& 15))) ^^^ ((row >>> ((20 : Int32) &&& 31)) &&& 15))) ^^^ ((row >>> ((16 : Int32) &&& 31)) &&& 15))) ^^^ ((row >>> ((12 : Int32) &&& 31)) &&& 15))) ^^^ ((row >>> ((8 : Int32) &&& 31)) &&& 15))), (3, .int 1), (5, .int ((row >>> ((8 : Int32) &&& 31)) &&& 15)), (0, .ref h0), (1, .int row)]) hx hb dX5_check_56 hl (k := 3) rfl (by decide) (by decide) rfl (fun ls hl => ?_)
      refine lv_goto (tgt := 13) hx hb dX5_check_59 (by decide) ?_
      refine lv_iload hx hb dX5_check_13 (lv_at hl 0 rfl) ?_
      refine lv_if_lt (tgt := 62) hx hb dX5_check_15 (by decide) (fun c9 => absurd c9 (by decide)) (fun _ => ?_)
      refine lv_iload_n hx hb dX5_check_18 rfl (lv_at hl 5 rfl) ?_
      refine lv_iconst (v := 4) hx hb dX5_check_19 (by decide) ?_
      refine lv_iload hx hb dX5_check_20 (lv_at hl 0 rfl) ?_
      refine lv_imul hx hb dX5_check_22 ?_
      refine lv_topi (fun y_179 ey_179 => ?_)
      obtain rfl : y_179 = 4 := ey_179.trans (by decide)
      refine lv_ishr hx hb dX5_check_23 ?_
      refine lv_bipush (v := 15) hx hb dX5_check_24 (by decide) ?_
      refine lv_iand hx hb dX5_check_26 ?_
      refine lv_istore (lv' := [(5, .int ((row >>> ((4 : Int32) &&& 31)) &&& 15)), (4, .int 1), (2, .int ((X5_turned_r ((X5_turned_r ((X5_turned_r ((X5_turned_r ((X5_turned_r 5) ^^^ ((row >>> ((24 : Int32) &&& 31)) &&& 15))) ^^^ ((row >>> ((20 : Int32) &&& 31)) &&& 15))) ^^^ ((row >>> ((16 : Int32) &&& 31)) &&& 15))) ^^^ ((row >>> ((12 : Int32) &&& 31)) &&& 15))) ^^^ ((row >>> ((8 : Int32) &&& 31)) &&& 15))), (3, .int 1), (0, .ref h0), (1, .int row)]) hx hb dX5_check_27 hl (by decide) rfl (fun ls hl => ?_)
      refine lv_iload_n hx hb dX5_check_29 rfl (lv_at hl 3 rfl) ?_
      refine lv_if_ne (tgt := 38) hx hb dX5_check_30 (by decide) (fun _ => ?_) (fun c9 => absurd c9 (by decide))
      refine lv_iconst (v := 1) hx hb dX5_check_38 (by decide) ?_
      refine lv_goto (tgt := 43) hx hb dX5_check_39 (by decide) ?_
      refine lv_istore_n (lv' := [(3, .int 1), (5, .int ((row >>> ((4 : Int32) &&& 31)) &&& 15)), (4, .int 1), (2, .int ((X5_turned_r ((X5_turned_r ((X5_turned_r ((X5_turned_r ((X5_turned_r 5) ^^^ ((row >>> ((24 : Int32) &&& 31)) &&& 15))) ^^^ ((row >>> ((20 : Int32) &&& 31)) &&& 15))) ^^^ ((row >>> ((16 : Int32) &&& 31)) &&& 15))) ^^^ ((row >>> ((12 : Int32) &&& 31)) &&& 15))) ^^^ ((row >>> ((8 : Int32) &&& 31)) &&& 15))), (0, .ref h0), (1, .int row)]) hx hb dX5_check_43 rfl hl (by decide) rfl (fun ls hl => ?_)
      refine lv_iload_n hx hb dX5_check_44 rfl (lv_at hl 0 rfl) ?_
      refine lv_if_eq (tgt := 56) hx hb dX5_check_45 (by decide) (fun c9 => absurd c9 (by decide)) (fun _ => ?_)
      refine lv_iload_n hx hb dX5_check_48 rfl (lv_at hl 3 rfl) ?_
      have hPc := hP.sub (ws' := []) [] rfl
      have hDc := hD.sub (ws' := []) [] (by decide) rfl
      have hKc := hK.sub (tys' := []) [] rfl
      have hFc := va_free (wc := []) hD hS hA [] rfl
      refine va_calli (va_runS (As := [.int ((X5_turned_r ((X5_turned_r ((X5_turned_r ((X5_turned_r ((X5_turned_r 5) ^^^ ((row >>> ((24 : Int32) &&& 31)) &&& 15))) ^^^ ((row >>> ((20 : Int32) &&& 31)) &&& 15))) ^^^ ((row >>> ((16 : Int32) &&& 31)) &&& 15))) ^^^ ((row >>> ((12 : Int32) &&& 31)) &&& 15))) ^^^ ((row >>> ((8 : Int32) &&& 31)) &&& 15))]) (rest := []) ⟨hx, hb, hml, hown, hts⟩ (k_X5_turned l dC dI H.size ((X5_turned_r ((X5_turned_r ((X5_turned_r ((X5_turned_r ((X5_turned_r 5) ^^^ ((row >>> ((24 : Int32) &&& 31)) &&& 15))) ^^^ ((row >>> ((20 : Int32) &&& 31)) &&& 15))) ^^^ ((row >>> ((16 : Int32) &&& 31)) &&& 15))) ^^^ ((row >>> ((12 : Int32) &&& 31)) &&& 15))) ^^^ ((row >>> ((8 : Int32) &&& 31)) &&& 15))) (va_cwS 1 hts gX5_check_X5_turned rfl rfl rfl (by decide +kernel) ⟨Nat.le_of_ble_eq_true rfl, Nat.le_of_ble_eq_true rfl⟩) ⟨pr.blind, fun U hU hW => ⟨rfl, pr.call hU hW hPc hKc hDc⟩⟩ rfl rfl hl.1 rfl (lv_room (Nat.le_of_ble_eq_true rfl)) dX5_check_49 ⟨Nat.le_of_ble_eq_true rfl, Nat.le_of_ble_eq_true rfl⟩) hS (fun q _ h => hFc q h) hFc (fun r_182 u t H1 locs ht hvm hw hB hz1 hk1 hS => ?_)
      subst r_182
      obtain ⟨hP, hD⟩ := po.join (wr := [(h0, .inr (6, [.int 0, .long tl, .int ed, .long eg, .int aw, .long tk, .long un, .ref b1, .int sm, .ref b2, .int frs, .ref b3, .ref b4, .ref b5, .int bts, .ref b6, .int msn, .ref b7, .int flt, .int bh, .int mkd, .int sta, .int lvl, .long snc, .long tld, .int fst, .int snd, .int stp]))]) hP hD [] [0] rfl rfl (by decide) (by decide) hk1 hFc ht hB
      generalize H1 = H at hP hS ⊢
      clear ht hvm hB hz1 hk1 hPc hDc hKc hFc
      have hP : va_P (dC, dI) vwCl [(h0, .inr (6, [.int 0, .long tl, .int ed, .long eg, .int aw, .long tk, .long un, .ref b1, .int sm, .ref b2, .int frs, .ref b3, .ref b4, .ref b5, .int bts, .ref b6, .int msn, .ref b7, .int flt, .int bh, .int mkd, .int sta, .int lvl, .long snc, .long tld, .int fst, .int snd, .int stp]))] H := hP
      have hD : va_D A [(h0, .inr (6, [.int 0, .long tl, .int ed, .long eg, .int aw, .long tk, .long un, .ref b1, .int sm, .ref b2, .int frs, .ref b3, .ref b4, .ref b5, .int bts, .ref b6, .int msn, .ref b7, .int flt, .int bh, .int mkd, .int sta, .int lvl, .long snc, .long tld, .int fst, .int snd, .int stp]))] := hD
      refine W.widen (k := 0) (n := 0) (Nat.le_of_ble_eq_true rfl) (Nat.le_of_ble_eq_true rfl) ?_
      refine lv_iload hx hb dX5_check_52 (lv_at hl 1 rfl) ?_
      refine lv_ixor hx hb dX5_check_54 ?_
      refine lv_istore_n (lv' := [(2, .int ((X5_turned_r ((X5_turned_r ((X5_turned_r ((X5_turned_r ((X5_turned_r ((X5_turned_r 5) ^^^ ((row >>> ((24 : Int32) &&& 31)) &&& 15))) ^^^ ((row >>> ((20 : Int32) &&& 31)) &&& 15))) ^^^ ((row >>> ((16 : Int32) &&& 31)) &&& 15))) ^^^ ((row >>> ((12 : Int32) &&& 31)) &&& 15))) ^^^ ((row >>> ((8 : Int32) &&& 31)) &&& 15))) ^^^ ((row >>> ((4 : Int32) &&& 31)) &&& 15))), (3, .int 1), (5, .int ((row >>> ((4 : Int32) &&& 31)) &&& 15)), (4, .int 1), (0, .ref h0), (1, .int row)]) hx hb dX5_check_55 rfl hl (by decide) rfl (fun ls hl => ?_)
      refine lv_iinc (v := 0) (lv' := [(4, .int 0), (2, .int ((X5_turned_r ((X5_turned_r ((X5_turned_r ((X5_turned_r ((X5_turned_r ((X5_turned_r 5) ^^^ ((row >>> ((24 : Int32) &&& 31)) &&& 15))) ^^^ ((row >>> ((20 : Int32) &&& 31)) &&& 15))) ^^^ ((row >>> ((16 : Int32) &&& 31)) &&& 15))) ^^^ ((row >>> ((12 : Int32) &&& 31)) &&& 15))) ^^^ ((row >>> ((8 : Int32) &&& 31)) &&& 15))) ^^^ ((row >>> ((4 : Int32) &&& 31)) &&& 15))), (3, .int 1), (5, .int ((row >>> ((4 : Int32) &&& 31)) &&& 15)), (0, .ref h0), (1, .int row)]) hx hb dX5_check_56 hl (k := 3) rfl (by decide) (by decide) rfl (fun ls hl => ?_)
      refine lv_goto (tgt := 13) hx hb dX5_check_59 (by decide) ?_
      refine lv_iload hx hb dX5_check_13 (lv_at hl 0 rfl) ?_
      refine lv_if_lt (tgt := 62) hx hb dX5_check_15 (by decide) (fun c9 => absurd c9 (by decide)) (fun _ => ?_)
      refine lv_iload_n hx hb dX5_check_18 rfl (lv_at hl 5 rfl) ?_
      refine lv_iconst (v := 4) hx hb dX5_check_19 (by decide) ?_
      refine lv_iload hx hb dX5_check_20 (lv_at hl 0 rfl) ?_
      refine lv_imul hx hb dX5_check_22 ?_
      refine lv_topi (fun y_184 ey_184 => ?_)
      obtain rfl : y_184 = 0 := ey_184.trans (by decide)
      refine lv_ishr hx hb dX5_check_23 ?_
      refine lv_bipush (v := 15) hx hb dX5_check_24 (by decide) ?_
      refine lv_iand hx hb dX5_check_26 ?_
      refine lv_istore (lv' := [(5, .int ((row >>> ((0 : Int32) &&& 31)) &&& 15)), (4, .int 0), (2, .int ((X5_turned_r ((X5_turned_r ((X5_turned_r ((X5_turned_r ((X5_turned_r ((X5_turned_r 5) ^^^ ((row >>> ((24 : Int32) &&& 31)) &&& 15))) ^^^ ((row >>> ((20 : Int32) &&& 31)) &&& 15))) ^^^ ((row >>> ((16 : Int32) &&& 31)) &&& 15))) ^^^ ((row >>> ((12 : Int32) &&& 31)) &&& 15))) ^^^ ((row >>> ((8 : Int32) &&& 31)) &&& 15))) ^^^ ((row >>> ((4 : Int32) &&& 31)) &&& 15))), (3, .int 1), (0, .ref h0), (1, .int row)]) hx hb dX5_check_27 hl (by decide) rfl (fun ls hl => ?_)
      refine lv_iload_n hx hb dX5_check_29 rfl (lv_at hl 3 rfl) ?_
      refine lv_if_ne (tgt := 38) hx hb dX5_check_30 (by decide) (fun _ => ?_) (fun c9 => absurd c9 (by decide))
      refine lv_iconst (v := 1) hx hb dX5_check_38 (by decide) ?_
      refine lv_goto (tgt := 43) hx hb dX5_check_39 (by decide) ?_
      refine lv_istore_n (lv' := [(3, .int 1), (5, .int ((row >>> ((0 : Int32) &&& 31)) &&& 15)), (4, .int 0), (2, .int ((X5_turned_r ((X5_turned_r ((X5_turned_r ((X5_turned_r ((X5_turned_r ((X5_turned_r 5) ^^^ ((row >>> ((24 : Int32) &&& 31)) &&& 15))) ^^^ ((row >>> ((20 : Int32) &&& 31)) &&& 15))) ^^^ ((row >>> ((16 : Int32) &&& 31)) &&& 15))) ^^^ ((row >>> ((12 : Int32) &&& 31)) &&& 15))) ^^^ ((row >>> ((8 : Int32) &&& 31)) &&& 15))) ^^^ ((row >>> ((4 : Int32) &&& 31)) &&& 15))), (0, .ref h0), (1, .int row)]) hx hb dX5_check_43 rfl hl (by decide) rfl (fun ls hl => ?_)
      refine lv_iload_n hx hb dX5_check_44 rfl (lv_at hl 0 rfl) ?_
      refine lv_if_eq (tgt := 56) hx hb dX5_check_45 (by decide) (fun c9 => absurd c9 (by decide)) (fun _ => ?_)
      refine lv_iload_n hx hb dX5_check_48 rfl (lv_at hl 3 rfl) ?_
      have hPc := hP.sub (ws' := []) [] rfl
      have hDc := hD.sub (ws' := []) [] (by decide) rfl
      have hKc := hK.sub (tys' := []) [] rfl
      have hFc := va_free (wc := []) hD hS hA [] rfl
      refine va_calli (va_runS (As := [.int ((X5_turned_r ((X5_turned_r ((X5_turned_r ((X5_turned_r ((X5_turned_r ((X5_turned_r 5) ^^^ ((row >>> ((24 : Int32) &&& 31)) &&& 15))) ^^^ ((row >>> ((20 : Int32) &&& 31)) &&& 15))) ^^^ ((row >>> ((16 : Int32) &&& 31)) &&& 15))) ^^^ ((row >>> ((12 : Int32) &&& 31)) &&& 15))) ^^^ ((row >>> ((8 : Int32) &&& 31)) &&& 15))) ^^^ ((row >>> ((4 : Int32) &&& 31)) &&& 15))]) (rest := []) ⟨hx, hb, hml, hown, hts⟩ (k_X5_turned l dC dI H.size ((X5_turned_r ((X5_turned_r ((X5_turned_r ((X5_turned_r ((X5_turned_r ((X5_turned_r 5) ^^^ ((row >>> ((24 : Int32) &&& 31)) &&& 15))) ^^^ ((row >>> ((20 : Int32) &&& 31)) &&& 15))) ^^^ ((row >>> ((16 : Int32) &&& 31)) &&& 15))) ^^^ ((row >>> ((12 : Int32) &&& 31)) &&& 15))) ^^^ ((row >>> ((8 : Int32) &&& 31)) &&& 15))) ^^^ ((row >>> ((4 : Int32) &&& 31)) &&& 15))) (va_cwS 1 hts gX5_check_X5_turned rfl rfl rfl (by decide +kernel) ⟨Nat.le_of_ble_eq_true rfl, Nat.le_of_ble_eq_true rfl⟩) ⟨pr.blind, fun U hU hW => ⟨rfl, pr.call hU hW hPc hKc hDc⟩⟩ rfl rfl hl.1 rfl (lv_room (Nat.le_of_ble_eq_true rfl)) dX5_check_49 ⟨Nat.le_of_ble_eq_true rfl, Nat.le_of_ble_eq_true rfl⟩) hS (fun q _ h => hFc q h) hFc (fun r_187 u t H1 locs ht hvm hw hB hz1 hk1 hS => ?_)
      subst r_187
      obtain ⟨hP, hD⟩ := po.join (wr := [(h0, .inr (6, [.int 0, .long tl, .int ed, .long eg, .int aw, .long tk, .long un, .ref b1, .int sm, .ref b2, .int frs, .ref b3, .ref b4, .ref b5, .int bts, .ref b6, .int msn, .ref b7, .int flt, .int bh, .int mkd, .int sta, .int lvl, .long snc, .long tld, .int fst, .int snd, .int stp]))]) hP hD [] [0] rfl rfl (by decide) (by decide) hk1 hFc ht hB
      generalize H1 = H at hP hS ⊢
      clear ht hvm hB hz1 hk1 hPc hDc hKc hFc
      have hP : va_P (dC, dI) vwCl [(h0, .inr (6, [.int 0, .long tl, .int ed, .long eg, .int aw, .long tk, .long un, .ref b1, .int sm, .ref b2, .int frs, .ref b3, .ref b4, .ref b5, .int bts, .ref b6, .int msn, .ref b7, .int flt, .int bh, .int mkd, .int sta, .int lvl, .long snc, .long tld, .int fst, .int snd, .int stp]))] H := hP
      have hD : va_D A [(h0, .inr (6, [.int 0, .long tl, .int ed, .long eg, .int aw, .long tk, .long un, .ref b1, .int sm, .ref b2, .int frs, .ref b3, .ref b4, .ref b5, .int bts, .ref b6, .int msn, .ref b7, .int flt, .int bh, .int mkd, .int sta, .int lvl, .long snc, .long tld, .int fst, .int snd, .int stp]))] := hD
      refine W.widen (k := 0) (n := 0) (Nat.le_of_ble_eq_true rfl) (Nat.le_of_ble_eq_true rfl) ?_
      refine lv_iload hx hb dX5_check_52 (lv_at hl 1 rfl) ?_
      refine lv_ixor hx hb dX5_check_54 ?_
      refine lv_istore_n (lv' := [(2, .int ((X5_turned_r ((X5_turned_r ((X5_turned_r ((X5_turned_r ((X5_turned_r ((X5_turned_r ((X5_turned_r 5) ^^^ ((row >>> ((24 : Int32) &&& 31)) &&& 15))) ^^^ ((row >>> ((20 : Int32) &&& 31)) &&& 15))) ^^^ ((row >>> ((16 : Int32) &&& 31)) &&& 15))) ^^^ ((row >>> ((12 : Int32) &&& 31)) &&& 15))) ^^^ ((row >>> ((8 : Int32) &&& 31)) &&& 15))) ^^^ ((row >>> ((4 : Int32) &&& 31)) &&& 15))) ^^^ ((row >>> ((0 : Int32) &&& 31)) &&& 15))), (3, .int 1), (5, .int ((row >>> ((0 : Int32) &&& 31)) &&& 15)), (4, .int 0), (0, .ref h0), (1, .int row)]) hx hb dX5_check_55 rfl hl (by decide) rfl (fun ls hl => ?_)
      refine lv_iinc (v := (-1)) (lv' := [(4, .int (-1)), (2, .int ((X5_turned_r ((X5_turned_r ((X5_turned_r ((X5_turned_r ((X5_turned_r ((X5_turned_r ((X5_turned_r 5) ^^^ ((row >>> ((24 : Int32) &&& 31)) &&& 15))) ^^^ ((row >>> ((20 : Int32) &&& 31)) &&& 15))) ^^^ ((row >>> ((16 : Int32) &&& 31)) &&& 15))) ^^^ ((row >>> ((12 : Int32) &&& 31)) &&& 15))) ^^^ ((row >>> ((8 : Int32) &&& 31)) &&& 15))) ^^^ ((row >>> ((4 : Int32) &&& 31)) &&& 15))) ^^^ ((row >>> ((0 : Int32) &&& 31)) &&& 15))), (3, .int 1), (5, .int ((row >>> ((0 : Int32) &&& 31)) &&& 15)), (0, .ref h0), (1, .int row)]) hx hb dX5_check_56 hl (k := 3) rfl (by decide) (by decide) rfl (fun ls hl => ?_)
      refine lv_goto (tgt := 13) hx hb dX5_check_59 (by decide) ?_
      refine lv_iload hx hb dX5_check_13 (lv_at hl 0 rfl) ?_
      refine lv_if_lt (tgt := 62) hx hb dX5_check_15 (by decide) (fun _ => ?_) (fun c9 => absurd c9 (by decide))
      refine lv_iload_n hx hb dX5_check_62 rfl (lv_at hl 1 rfl) ?_
      have hPc := hP.sub (ws' := []) [] rfl
      have hDc := hD.sub (ws' := []) [] (by decide) rfl
      have hKc := hK.sub (tys' := []) [] rfl
      have hFc := va_free (wc := []) hD hS hA [] rfl
      refine va_calli (va_runS (As := [.int ((X5_turned_r ((X5_turned_r ((X5_turned_r ((X5_turned_r ((X5_turned_r ((X5_turned_r ((X5_turned_r 5) ^^^ ((row >>> ((24 : Int32) &&& 31)) &&& 15))) ^^^ ((row >>> ((20 : Int32) &&& 31)) &&& 15))) ^^^ ((row >>> ((16 : Int32) &&& 31)) &&& 15))) ^^^ ((row >>> ((12 : Int32) &&& 31)) &&& 15))) ^^^ ((row >>> ((8 : Int32) &&& 31)) &&& 15))) ^^^ ((row >>> ((4 : Int32) &&& 31)) &&& 15))) ^^^ ((row >>> ((0 : Int32) &&& 31)) &&& 15))]) (rest := []) ⟨hx, hb, hml, hown, hts⟩ (k_X5_turned l dC dI H.size ((X5_turned_r ((X5_turned_r ((X5_turned_r ((X5_turned_r ((X5_turned_r ((X5_turned_r ((X5_turned_r 5) ^^^ ((row >>> ((24 : Int32) &&& 31)) &&& 15))) ^^^ ((row >>> ((20 : Int32) &&& 31)) &&& 15))) ^^^ ((row >>> ((16 : Int32) &&& 31)) &&& 15))) ^^^ ((row >>> ((12 : Int32) &&& 31)) &&& 15))) ^^^ ((row >>> ((8 : Int32) &&& 31)) &&& 15))) ^^^ ((row >>> ((4 : Int32) &&& 31)) &&& 15))) ^^^ ((row >>> ((0 : Int32) &&& 31)) &&& 15))) (va_cwS 1 hts gX5_check_X5_turned rfl rfl rfl (by decide +kernel) ⟨Nat.le_of_ble_eq_true rfl, Nat.le_of_ble_eq_true rfl⟩) ⟨pr.blind, fun U hU hW => ⟨rfl, pr.call hU hW hPc hKc hDc⟩⟩ rfl rfl hl.1 rfl (lv_room (Nat.le_of_ble_eq_true rfl)) dX5_check_63 ⟨Nat.le_of_ble_eq_true rfl, Nat.le_of_ble_eq_true rfl⟩) hS (fun q _ h => hFc q h) hFc (fun r_189 u t H1 locs ht hvm hw hB hz1 hk1 hS => ?_)
      subst r_189
      obtain ⟨hP, hD⟩ := po.join (wr := [(h0, .inr (6, [.int 0, .long tl, .int ed, .long eg, .int aw, .long tk, .long un, .ref b1, .int sm, .ref b2, .int frs, .ref b3, .ref b4, .ref b5, .int bts, .ref b6, .int msn, .ref b7, .int flt, .int bh, .int mkd, .int sta, .int lvl, .long snc, .long tld, .int fst, .int snd, .int stp]))]) hP hD [] [0] rfl rfl (by decide) (by decide) hk1 hFc ht hB
      generalize H1 = H at hP hS ⊢
      clear ht hvm hB hz1 hk1 hPc hDc hKc hFc
      have hP : va_P (dC, dI) vwCl [(h0, .inr (6, [.int 0, .long tl, .int ed, .long eg, .int aw, .long tk, .long un, .ref b1, .int sm, .ref b2, .int frs, .ref b3, .ref b4, .ref b5, .int bts, .ref b6, .int msn, .ref b7, .int flt, .int bh, .int mkd, .int sta, .int lvl, .long snc, .long tld, .int fst, .int snd, .int stp]))] H := hP
      have hD : va_D A [(h0, .inr (6, [.int 0, .long tl, .int ed, .long eg, .int aw, .long tk, .long un, .ref b1, .int sm, .ref b2, .int frs, .ref b3, .ref b4, .ref b5, .int bts, .ref b6, .int msn, .ref b7, .int flt, .int bh, .int mkd, .int sta, .int lvl, .long snc, .long tld, .int fst, .int snd, .int stp]))] := hD
      refine W.widen (k := 0) (n := 0) (Nat.le_of_ble_eq_true rfl) (Nat.le_of_ble_eq_true rfl) ?_
      have hP9 : va_P (dC, dI) vwCl [(h0, .inr (6, [.int 0, .long tl, .int ed, .long eg, .int aw, .long tk, .long un, .ref b1, .int sm, .ref b2, .int frs, .ref b3, .ref b4, .ref b5, .int bts, .ref b6, .int msn, .ref b7, .int flt, .int bh, .int mkd, .int sta, .int lvl, .long snc, .long tld, .int fst, .int snd, .int stp]))] H := by exact hP.sub [0] rfl
      have hD9 : va_D A [(h0, .inr (6, [.int 0, .long tl, .int ed, .long eg, .int aw, .long tk, .long un, .ref b1, .int sm, .ref b2, .int frs, .ref b3, .ref b4, .ref b5, .int bts, .ref b6, .int msn, .ref b7, .int flt, .int bh, .int mkd, .int sta, .int lvl, .long snc, .long tld, .int fst, .int snd, .int stp]))] := by exact hD.sub [0] (by decide) rfl
      have e_191 : X5_turned_r ((X5_turned_r ((X5_turned_r ((X5_turned_r ((X5_turned_r ((X5_turned_r ((X5_turned_r ((X5_turned_r 5) ^^^ ((row >>> ((24 : Int32) &&& 31)) &&& 15))) ^^^ ((row >>> ((20 : Int32) &&& 31)) &&& 15))) ^^^ ((row >>> ((16 : Int32) &&& 31)) &&& 15))) ^^^ ((row >>> ((12 : Int32) &&& 31)) &&& 15))) ^^^ ((row >>> ((8 : Int32) &&& 31)) &&& 15))) ^^^ ((row >>> ((4 : Int32) &&& 31)) &&& 15))) ^^^ ((row >>> ((0 : Int32) &&& 31)) &&& 15)) = X5_check_r row := by rw [X5_check_r, if_pos c_4, if_neg c_9]
      exact W.iret (v := X5_turned_r ((X5_turned_r ((X5_turned_r ((X5_turned_r ((X5_turned_r ((X5_turned_r ((X5_turned_r ((X5_turned_r 5) ^^^ ((row >>> ((24 : Int32) &&& 31)) &&& 15))) ^^^ ((row >>> ((20 : Int32) &&& 31)) &&& 15))) ^^^ ((row >>> ((16 : Int32) &&& 31)) &&& 15))) ^^^ ((row >>> ((12 : Int32) &&& 31)) &&& 15))) ^^^ ((row >>> ((8 : Int32) &&& 31)) &&& 15))) ^^^ ((row >>> ((4 : Int32) &&& 31)) &&& 15))) ^^^ ((row >>> ((0 : Int32) &&& 31)) &&& 15))) hx hb hr (fun t ht hW => ⟨⟨_, (), rfl, e_191, po.ret ht hW hP9 hK hD9⟩, hS.F ht⟩) hS.2.2 dX5_check_66
  · refine lv_iconst (v := 1) hx hb dX5_check_38 (by decide) ?_
    refine lv_goto (tgt := 43) hx hb dX5_check_39 (by decide) ?_
    refine lv_istore_n (lv' := [(3, .int 1), (5, .int ((row >>> ((28 : Int32) &&& 31)) &&& 15)), (4, .int 7), (2, .int 5), (0, .ref h0), (1, .int row)]) hx hb dX5_check_43 rfl hl (by decide) rfl (fun ls hl => ?_)
    refine lv_iload_n hx hb dX5_check_44 rfl (lv_at hl 0 rfl) ?_
    refine lv_if_eq (tgt := 56) hx hb dX5_check_45 (by decide) (fun c9 => absurd c9 (by decide)) (fun _ => ?_)
    refine lv_iload_n hx hb dX5_check_48 rfl (lv_at hl 3 rfl) ?_
    have hPc := hP.sub (ws' := []) [] rfl
    have hDc := hD.sub (ws' := []) [] (by decide) rfl
    have hKc := hK.sub (tys' := []) [] rfl
    have hFc := va_free (wc := []) hD hS hA [] rfl
    refine va_calli (va_runS (As := [.int 5]) (rest := []) ⟨hx, hb, hml, hown, hts⟩ (k_X5_turned l dC dI H.size 5) (va_cwS 1 hts gX5_check_X5_turned rfl rfl rfl (by decide +kernel) ⟨Nat.le_of_ble_eq_true rfl, Nat.le_of_ble_eq_true rfl⟩) ⟨pr.blind, fun U hU hW => ⟨rfl, pr.call hU hW hPc hKc hDc⟩⟩ rfl rfl hl.1 rfl (lv_room (Nat.le_of_ble_eq_true rfl)) dX5_check_49 ⟨Nat.le_of_ble_eq_true rfl, Nat.le_of_ble_eq_true rfl⟩) hS (fun q _ h => hFc q h) hFc (fun r_193 u t H1 locs ht hvm hw hB hz1 hk1 hS => ?_)
    subst r_193
    obtain ⟨hP, hD⟩ := po.join (wr := [(h0, .inr (6, [.int 0, .long tl, .int ed, .long eg, .int aw, .long tk, .long un, .ref b1, .int sm, .ref b2, .int frs, .ref b3, .ref b4, .ref b5, .int bts, .ref b6, .int msn, .ref b7, .int flt, .int bh, .int mkd, .int sta, .int lvl, .long snc, .long tld, .int fst, .int snd, .int stp]))]) hP hD [] [0] rfl rfl (by decide) (by decide) hk1 hFc ht hB
    generalize H1 = H at hP hS ⊢
    clear ht hvm hB hz1 hk1 hPc hDc hKc hFc
    have hP : va_P (dC, dI) vwCl [(h0, .inr (6, [.int 0, .long tl, .int ed, .long eg, .int aw, .long tk, .long un, .ref b1, .int sm, .ref b2, .int frs, .ref b3, .ref b4, .ref b5, .int bts, .ref b6, .int msn, .ref b7, .int flt, .int bh, .int mkd, .int sta, .int lvl, .long snc, .long tld, .int fst, .int snd, .int stp]))] H := hP
    have hD : va_D A [(h0, .inr (6, [.int 0, .long tl, .int ed, .long eg, .int aw, .long tk, .long un, .ref b1, .int sm, .ref b2, .int frs, .ref b3, .ref b4, .ref b5, .int bts, .ref b6, .int msn, .ref b7, .int flt, .int bh, .int mkd, .int sta, .int lvl, .long snc, .long tld, .int fst, .int snd, .int stp]))] := hD
    refine W.widen (k := 0) (n := 0) (Nat.le_of_ble_eq_true rfl) (Nat.le_of_ble_eq_true rfl) ?_
    refine lv_iload hx hb dX5_check_52 (lv_at hl 1 rfl) ?_
    refine lv_ixor hx hb dX5_check_54 ?_
    refine lv_istore_n (lv' := [(2, .int ((X5_turned_r 5) ^^^ ((row >>> ((28 : Int32) &&& 31)) &&& 15))), (3, .int 1), (5, .int ((row >>> ((28 : Int32) &&& 31)) &&& 15)), (4, .int 7), (0, .ref h0), (1, .int row)]) hx hb dX5_check_55 rfl hl (by decide) rfl (fun ls hl => ?_)
    refine lv_iinc (v := 6) (lv' := [(4, .int 6), (2, .int ((X5_turned_r 5) ^^^ ((row >>> ((28 : Int32) &&& 31)) &&& 15))), (3, .int 1), (5, .int ((row >>> ((28 : Int32) &&& 31)) &&& 15)), (0, .ref h0), (1, .int row)]) hx hb dX5_check_56 hl (k := 3) rfl (by decide) (by decide) rfl (fun ls hl => ?_)
    refine lv_goto (tgt := 13) hx hb dX5_check_59 (by decide) ?_
    refine lv_iload hx hb dX5_check_13 (lv_at hl 0 rfl) ?_
    refine lv_if_lt (tgt := 62) hx hb dX5_check_15 (by decide) (fun c9 => absurd c9 (by decide)) (fun _ => ?_)
    refine lv_iload_n hx hb dX5_check_18 rfl (lv_at hl 5 rfl) ?_
    refine lv_iconst (v := 4) hx hb dX5_check_19 (by decide) ?_
    refine lv_iload hx hb dX5_check_20 (lv_at hl 0 rfl) ?_
    refine lv_imul hx hb dX5_check_22 ?_
    refine lv_topi (fun y_195 ey_195 => ?_)
    obtain rfl : y_195 = 24 := ey_195.trans (by decide)
    refine lv_ishr hx hb dX5_check_23 ?_
    refine lv_bipush (v := 15) hx hb dX5_check_24 (by decide) ?_
    refine lv_iand hx hb dX5_check_26 ?_
    refine lv_istore (lv' := [(5, .int ((row >>> ((24 : Int32) &&& 31)) &&& 15)), (4, .int 6), (2, .int ((X5_turned_r 5) ^^^ ((row >>> ((28 : Int32) &&& 31)) &&& 15))), (3, .int 1), (0, .ref h0), (1, .int row)]) hx hb dX5_check_27 hl (by decide) rfl (fun ls hl => ?_)
    refine lv_iload_n hx hb dX5_check_29 rfl (lv_at hl 3 rfl) ?_
    refine lv_if_ne (tgt := 38) hx hb dX5_check_30 (by decide) (fun _ => ?_) (fun c9 => absurd c9 (by decide))
    refine lv_iconst (v := 1) hx hb dX5_check_38 (by decide) ?_
    refine lv_goto (tgt := 43) hx hb dX5_check_39 (by decide) ?_
    refine lv_istore_n (lv' := [(3, .int 1), (5, .int ((row >>> ((24 : Int32) &&& 31)) &&& 15)), (4, .int 6), (2, .int ((X5_turned_r 5) ^^^ ((row >>> ((28 : Int32) &&& 31)) &&& 15))), (0, .ref h0), (1, .int row)]) hx hb dX5_check_43 rfl hl (by decide) rfl (fun ls hl => ?_)
    refine lv_iload_n hx hb dX5_check_44 rfl (lv_at hl 0 rfl) ?_
    refine lv_if_eq (tgt := 56) hx hb dX5_check_45 (by decide) (fun c9 => absurd c9 (by decide)) (fun _ => ?_)
    refine lv_iload_n hx hb dX5_check_48 rfl (lv_at hl 3 rfl) ?_
    have hPc := hP.sub (ws' := []) [] rfl
    have hDc := hD.sub (ws' := []) [] (by decide) rfl
    have hKc := hK.sub (tys' := []) [] rfl
    have hFc := va_free (wc := []) hD hS hA [] rfl
    refine va_calli (va_runS (As := [.int ((X5_turned_r 5) ^^^ ((row >>> ((28 : Int32) &&& 31)) &&& 15))]) (rest := []) ⟨hx, hb, hml, hown, hts⟩ (k_X5_turned l dC dI H.size ((X5_turned_r 5) ^^^ ((row >>> ((28 : Int32) &&& 31)) &&& 15))) (va_cwS 1 hts gX5_check_X5_turned rfl rfl rfl (by decide +kernel) ⟨Nat.le_of_ble_eq_true rfl, Nat.le_of_ble_eq_true rfl⟩) ⟨pr.blind, fun U hU hW => ⟨rfl, pr.call hU hW hPc hKc hDc⟩⟩ rfl rfl hl.1 rfl (lv_room (Nat.le_of_ble_eq_true rfl)) dX5_check_49 ⟨Nat.le_of_ble_eq_true rfl, Nat.le_of_ble_eq_true rfl⟩) hS (fun q _ h => hFc q h) hFc (fun r_198 u t H1 locs ht hvm hw hB hz1 hk1 hS => ?_)
    subst r_198
    obtain ⟨hP, hD⟩ := po.join (wr := [(h0, .inr (6, [.int 0, .long tl, .int ed, .long eg, .int aw, .long tk, .long un, .ref b1, .int sm, .ref b2, .int frs, .ref b3, .ref b4, .ref b5, .int bts, .ref b6, .int msn, .ref b7, .int flt, .int bh, .int mkd, .int sta, .int lvl, .long snc, .long tld, .int fst, .int snd, .int stp]))]) hP hD [] [0] rfl rfl (by decide) (by decide) hk1 hFc ht hB
    generalize H1 = H at hP hS ⊢
    clear ht hvm hB hz1 hk1 hPc hDc hKc hFc
    have hP : va_P (dC, dI) vwCl [(h0, .inr (6, [.int 0, .long tl, .int ed, .long eg, .int aw, .long tk, .long un, .ref b1, .int sm, .ref b2, .int frs, .ref b3, .ref b4, .ref b5, .int bts, .ref b6, .int msn, .ref b7, .int flt, .int bh, .int mkd, .int sta, .int lvl, .long snc, .long tld, .int fst, .int snd, .int stp]))] H := hP
    have hD : va_D A [(h0, .inr (6, [.int 0, .long tl, .int ed, .long eg, .int aw, .long tk, .long un, .ref b1, .int sm, .ref b2, .int frs, .ref b3, .ref b4, .ref b5, .int bts, .ref b6, .int msn, .ref b7, .int flt, .int bh, .int mkd, .int sta, .int lvl, .long snc, .long tld, .int fst, .int snd, .int stp]))] := hD
    refine W.widen (k := 0) (n := 0) (Nat.le_of_ble_eq_true rfl) (Nat.le_of_ble_eq_true rfl) ?_
    refine lv_iload hx hb dX5_check_52 (lv_at hl 1 rfl) ?_
    refine lv_ixor hx hb dX5_check_54 ?_
    refine lv_istore_n (lv' := [(2, .int ((X5_turned_r ((X5_turned_r 5) ^^^ ((row >>> ((28 : Int32) &&& 31)) &&& 15))) ^^^ ((row >>> ((24 : Int32) &&& 31)) &&& 15))), (3, .int 1), (5, .int ((row >>> ((24 : Int32) &&& 31)) &&& 15)), (4, .int 6), (0, .ref h0), (1, .int row)]) hx hb dX5_check_55 rfl hl (by decide) rfl (fun ls hl => ?_)
    refine lv_iinc (v := 5) (lv' := [(4, .int 5), (2, .int ((X5_turned_r ((X5_turned_r 5) ^^^ ((row >>> ((28 : Int32) &&& 31)) &&& 15))) ^^^ ((row >>> ((24 : Int32) &&& 31)) &&& 15))), (3, .int 1), (5, .int ((row >>> ((24 : Int32) &&& 31)) &&& 15)), (0, .ref h0), (1, .int row)]) hx hb dX5_check_56 hl (k := 3) rfl (by decide) (by decide) rfl (fun ls hl => ?_)
    refine lv_goto (tgt := 13) hx hb dX5_check_59 (by decide) ?_
    refine lv_iload hx hb dX5_check_13 (lv_at hl 0 rfl) ?_
    refine lv_if_lt (tgt := 62) hx hb dX5_check_15 (by decide) (fun c9 => absurd c9 (by decide)) (fun _ => ?_)
    refine lv_iload_n hx hb dX5_check_18 rfl (lv_at hl 5 rfl) ?_
    refine lv_iconst (v := 4) hx hb dX5_check_19 (by decide) ?_
    refine lv_iload hx hb dX5_check_20 (lv_at hl 0 rfl) ?_
    refine lv_imul hx hb dX5_check_22 ?_
    refine lv_topi (fun y_200 ey_200 => ?_)
    obtain rfl : y_200 = 20 := ey_200.trans (by decide)
    refine lv_ishr hx hb dX5_check_23 ?_
    refine lv_bipush (v := 15) hx hb dX5_check_24 (by decide) ?_
    refine lv_iand hx hb dX5_check_26 ?_
    refine lv_istore (lv' := [(5, .int ((row >>> ((20 : Int32) &&& 31)) &&& 15)), (4, .int 5), (2, .int ((X5_turned_r ((X5_turned_r 5) ^^^ ((row >>> ((28 : Int32) &&& 31)) &&& 15))) ^^^ ((row >>> ((24 : Int32) &&& 31)) &&& 15))), (3, .int 1), (0, .ref h0), (1, .int row)]) hx hb dX5_check_27 hl (by decide) rfl (fun ls hl => ?_)
    refine lv_iload_n hx hb dX5_check_29 rfl (lv_at hl 3 rfl) ?_
    refine lv_if_ne (tgt := 38) hx hb dX5_check_30 (by decide) (fun _ => ?_) (fun c9 => absurd c9 (by decide))
    refine lv_iconst (v := 1) hx hb dX5_check_38 (by decide) ?_
    refine lv_goto (tgt := 43) hx hb dX5_check_39 (by decide) ?_
    refine lv_istore_n (lv' := [(3, .int 1), (5, .int ((row >>> ((20 : Int32) &&& 31)) &&& 15)), (4, .int 5), (2, .int ((X5_turned_r ((X5_turned_r 5) ^^^ ((row >>> ((28 : Int32) &&& 31)) &&& 15))) ^^^ ((row >>> ((24 : Int32) &&& 31)) &&& 15))), (0, .ref h0), (1, .int row)]) hx hb dX5_check_43 rfl hl (by decide) rfl (fun ls hl => ?_)
    refine lv_iload_n hx hb dX5_check_44 rfl (lv_at hl 0 rfl) ?_
    refine lv_if_eq (tgt := 56) hx hb dX5_check_45 (by decide) (fun c9 => absurd c9 (by decide)) (fun _ => ?_)
    refine lv_iload_n hx hb dX5_check_48 rfl (lv_at hl 3 rfl) ?_
    have hPc := hP.sub (ws' := []) [] rfl
    have hDc := hD.sub (ws' := []) [] (by decide) rfl
    have hKc := hK.sub (tys' := []) [] rfl
    have hFc := va_free (wc := []) hD hS hA [] rfl
    refine va_calli (va_runS (As := [.int ((X5_turned_r ((X5_turned_r 5) ^^^ ((row >>> ((28 : Int32) &&& 31)) &&& 15))) ^^^ ((row >>> ((24 : Int32) &&& 31)) &&& 15))]) (rest := []) ⟨hx, hb, hml, hown, hts⟩ (k_X5_turned l dC dI H.size ((X5_turned_r ((X5_turned_r 5) ^^^ ((row >>> ((28 : Int32) &&& 31)) &&& 15))) ^^^ ((row >>> ((24 : Int32) &&& 31)) &&& 15))) (va_cwS 1 hts gX5_check_X5_turned rfl rfl rfl (by decide +kernel) ⟨Nat.le_of_ble_eq_true rfl, Nat.le_of_ble_eq_true rfl⟩) ⟨pr.blind, fun U hU hW => ⟨rfl, pr.call hU hW hPc hKc hDc⟩⟩ rfl rfl hl.1 rfl (lv_room (Nat.le_of_ble_eq_true rfl)) dX5_check_49 ⟨Nat.le_of_ble_eq_true rfl, Nat.le_of_ble_eq_true rfl⟩) hS (fun q _ h => hFc q h) hFc (fun r_203 u t H1 locs ht hvm hw hB hz1 hk1 hS => ?_)
    subst r_203
    obtain ⟨hP, hD⟩ := po.join (wr := [(h0, .inr (6, [.int 0, .long tl, .int ed, .long eg, .int aw, .long tk, .long un, .ref b1, .int sm, .ref b2, .int frs, .ref b3, .ref b4, .ref b5, .int bts, .ref b6, .int msn, .ref b7, .int flt, .int bh, .int mkd, .int sta, .int lvl, .long snc, .long tld, .int fst, .int snd, .int stp]))]) hP hD [] [0] rfl rfl (by decide) (by decide) hk1 hFc ht hB
    generalize H1 = H at hP hS ⊢
    clear ht hvm hB hz1 hk1 hPc hDc hKc hFc
    have hP : va_P (dC, dI) vwCl [(h0, .inr (6, [.int 0, .long tl, .int ed, .long eg, .int aw, .long tk, .long un, .ref b1, .int sm, .ref b2, .int frs, .ref b3, .ref b4, .ref b5, .int bts, .ref b6, .int msn, .ref b7, .int flt, .int bh, .int mkd, .int sta, .int lvl, .long snc, .long tld, .int fst, .int snd, .int stp]))] H := hP
    have hD : va_D A [(h0, .inr (6, [.int 0, .long tl, .int ed, .long eg, .int aw, .long tk, .long un, .ref b1, .int sm, .ref b2, .int frs, .ref b3, .ref b4, .ref b5, .int bts, .ref b6, .int msn, .ref b7, .int flt, .int bh, .int mkd, .int sta, .int lvl, .long snc, .long tld, .int fst, .int snd, .int stp]))] := hD
    refine W.widen (k := 0) (n := 0) (Nat.le_of_ble_eq_true rfl) (Nat.le_of_ble_eq_true rfl) ?_
    refine lv_iload hx hb dX5_check_52 (lv_at hl 1 rfl) ?_
    refine lv_ixor hx hb dX5_check_54 ?_
    refine lv_istore_n (lv' := [(2, .int ((X5_turned_r ((X5_turned_r ((X5_turned_r 5) ^^^ ((row >>> ((28 : Int32) &&& 31)) &&& 15))) ^^^ ((row >>> ((24 : Int32) &&& 31)) &&& 15))) ^^^ ((row >>> ((20 : Int32) &&& 31)) &&& 15))), (3, .int 1), (5, .int ((row >>> ((20 : Int32) &&& 31)) &&& 15)), (4, .int 5), (0, .ref h0), (1, .int row)]) hx hb dX5_check_55 rfl hl (by decide) rfl (fun ls hl => ?_)
    refine lv_iinc (v := 4) (lv' := [(4, .int 4), (2, .int ((X5_turned_r ((X5_turned_r ((X5_turned_r 5) ^^^ ((row >>> ((28 : Int32) &&& 31)) &&& 15))) ^^^ ((row >>> ((24 : Int32) &&& 31)) &&& 15))) ^^^ ((row >>> ((20 : Int32) &&& 31)) &&& 15))), (3, .int 1), (5, .int ((row >>> ((20 : Int32) &&& 31)) &&& 15)), (0, .ref h0), (1, .int row)]) hx hb dX5_check_56 hl (k := 3) rfl (by decide) (by decide) rfl (fun ls hl => ?_)
    refine lv_goto (tgt := 13) hx hb dX5_check_59 (by decide) ?_
    refine lv_iload hx hb dX5_check_13 (lv_at hl 0 rfl) ?_
    refine lv_if_lt (tgt := 62) hx hb dX5_check_15 (by decide) (fun c9 => absurd c9 (by decide)) (fun _ => ?_)
    refine lv_iload_n hx hb dX5_check_18 rfl (lv_at hl 5 rfl) ?_
    refine lv_iconst (v := 4) hx hb dX5_check_19 (by decide) ?_
    refine lv_iload hx hb dX5_check_20 (lv_at hl 0 rfl) ?_
    refine lv_imul hx hb dX5_check_22 ?_
    refine lv_topi (fun y_205 ey_205 => ?_)
    obtain rfl : y_205 = 16 := ey_205.trans (by decide)
    refine lv_ishr hx hb dX5_check_23 ?_
    refine lv_bipush (v := 15) hx hb dX5_check_24 (by decide) ?_
    refine lv_iand hx hb dX5_check_26 ?_
    refine lv_istore (lv' := [(5, .int ((row >>> ((16 : Int32) &&& 31)) &&& 15)), (4, .int 4), (2, .int ((X5_turned_r ((X5_turned_r ((X5_turned_r 5) ^^^ ((row >>> ((28 : Int32) &&& 31)) &&& 15))) ^^^ ((row >>> ((24 : Int32) &&& 31)) &&& 15))) ^^^ ((row >>> ((20 : Int32) &&& 31)) &&& 15))), (3, .int 1), (0, .ref h0), (1, .int row)]) hx hb dX5_check_27 hl (by decide) rfl (fun ls hl => ?_)
    refine lv_iload_n hx hb dX5_check_29 rfl (lv_at hl 3 rfl) ?_
    refine lv_if_ne (tgt := 38) hx hb dX5_check_30 (by decide) (fun _ => ?_) (fun c9 => absurd c9 (by decide))
    refine lv_iconst (v := 1) hx hb dX5_check_38 (by decide) ?_
    refine lv_goto (tgt := 43) hx hb dX5_check_39 (by decide) ?_
    refine lv_istore_n (lv' := [(3, .int 1), (5, .int ((row >>> ((16 : Int32) &&& 31)) &&& 15)), (4, .int 4), (2, .int ((X5_turned_r ((X5_turned_r ((X5_turned_r 5) ^^^ ((row >>> ((28 : Int32) &&& 31)) &&& 15))) ^^^ ((row >>> ((24 : Int32) &&& 31)) &&& 15))) ^^^ ((row >>> ((20 : Int32) &&& 31)) &&& 15))), (0, .ref h0), (1, .int row)]) hx hb dX5_check_43 rfl hl (by decide) rfl (fun ls hl => ?_)
    refine lv_iload_n hx hb dX5_check_44 rfl (lv_at hl 0 rfl) ?_
    refine lv_if_eq (tgt := 56) hx hb dX5_check_45 (by decide) (fun c9 => absurd c9 (by decide)) (fun _ => ?_)
    refine lv_iload_n hx hb dX5_check_48 rfl (lv_at hl 3 rfl) ?_
    have hPc := hP.sub (ws' := []) [] rfl
    have hDc := hD.sub (ws' := []) [] (by decide) rfl
    have hKc := hK.sub (tys' := []) [] rfl
    have hFc := va_free (wc := []) hD hS hA [] rfl
    refine va_calli (va_runS (As := [.int ((X5_turned_r ((X5_turned_r ((X5_turned_r 5) ^^^ ((row >>> ((28 : Int32) &&& 31)) &&& 15))) ^^^ ((row >>> ((24 : Int32) &&& 31)) &&& 15))) ^^^ ((row >>> ((20 : Int32) &&& 31)) &&& 15))]) (rest := []) ⟨hx, hb, hml, hown, hts⟩ (k_X5_turned l dC dI H.size ((X5_turned_r ((X5_turned_r ((X5_turned_r 5) ^^^ ((row >>> ((28 : Int32) &&& 31)) &&& 15))) ^^^ ((row >>> ((24 : Int32) &&& 31)) &&& 15))) ^^^ ((row >>> ((20 : Int32) &&& 31)) &&& 15))) (va_cwS 1 hts gX5_check_X5_turned rfl rfl rfl (by decide +kernel) ⟨Nat.le_of_ble_eq_true rfl, Nat.le_of_ble_eq_true rfl⟩) ⟨pr.blind, fun U hU hW => ⟨rfl, pr.call hU hW hPc hKc hDc⟩⟩ rfl rfl hl.1 rfl (lv_room (Nat.le_of_ble_eq_true rfl)) dX5_check_49 ⟨Nat.le_of_ble_eq_true rfl, Nat.le_of_ble_eq_true rfl⟩) hS (fun q _ h => hFc q h) hFc (fun r_208 u t H1 locs ht hvm hw hB hz1 hk1 hS => ?_)
    subst r_208
    obtain ⟨hP, hD⟩ := po.join (wr := [(h0, .inr (6, [.int 0, .long tl, .int ed, .long eg, .int aw, .long tk, .long un, .ref b1, .int sm, .ref b2, .int frs, .ref b3, .ref b4, .ref b5, .int bts, .ref b6, .int msn, .ref b7, .int flt, .int bh, .int mkd, .int sta, .int lvl, .long snc, .long tld, .int fst, .int snd, .int stp]))]) hP hD [] [0] rfl rfl (by decide) (by decide) hk1 hFc ht hB
    generalize H1 = H at hP hS ⊢
    clear ht hvm hB hz1 hk1 hPc hDc hKc hFc
    have hP : va_P (dC, dI) vwCl [(h0, .inr (6, [.int 0, .long tl, .int ed, .long eg, .int aw, .long tk, .long un, .ref b1, .int sm, .ref b2, .int frs, .ref b3, .ref b4, .ref b5, .int bts, .ref b6, .int msn, .ref b7, .int flt, .int bh, .int mkd, .int sta, .int lvl, .long snc, .long tld, .int fst, .int snd, .int stp]))] H := hP
    have hD : va_D A [(h0, .inr (6, [.int 0, .long tl, .int ed, .long eg, .int aw, .long tk, .long un, .ref b1, .int sm, .ref b2, .int frs, .ref b3, .ref b4, .ref b5, .int bts, .ref b6, .int msn, .ref b7, .int flt, .int bh, .int mkd, .int sta, .int lvl, .long snc, .long tld, .int fst, .int snd, .int stp]))] := hD
    refine W.widen (k := 0) (n := 0) (Nat.le_of_ble_eq_true rfl) (Nat.le_of_ble_eq_true rfl) ?_
    refine lv_iload hx hb dX5_check_52 (lv_at hl 1 rfl) ?_
    refine lv_ixor hx hb dX5_check_54 ?_
    refine lv_istore_n (lv' := [(2, .int ((X5_turned_r ((X5_turned_r ((X5_turned_r ((X5_turned_r 5) ^^^ ((row >>> ((28 : Int32) &&& 31)) &&& 15))) ^^^ ((row >>> ((24 : Int32) &&& 31)) &&& 15))) ^^^ ((row >>> ((20 : Int32) &&& 31)) &&& 15))) ^^^ ((row >>> ((16 : Int32) &&& 31)) &&& 15))), (3, .int 1), (5, .int ((row >>> ((16 : Int32) &&& 31)) &&& 15)), (4, .int 4), (0, .ref h0), (1, .int row)]) hx hb dX5_check_55 rfl hl (by decide) rfl (fun ls hl => ?_)
    refine lv_iinc (v := 3) (lv' := [(4, .int 3), (2, .int ((X5_turned_r ((X5_turned_r ((X5_turned_r ((X5_turned_r 5) ^^^ ((row >>> ((28 : Int32) &&& 31)) &&& 15))) ^^^ ((row >>> ((24 : Int32) &&& 31)) &&& 15))) ^^^ ((row >>> ((20 : Int32) &&& 31)) &&& 15))) ^^^ ((row >>> ((16 : Int32) &&& 31)) &&& 15))), (3, .int 1), (5, .int ((row >>> ((16 : Int32) &&& 31)) &&& 15)), (0, .ref h0), (1, .int row)]) hx hb dX5_check_56 hl (k := 3) rfl (by decide) (by decide) rfl (fun ls hl => ?_)
    refine lv_goto (tgt := 13) hx hb dX5_check_59 (by decide) ?_
    refine lv_iload hx hb dX5_check_13 (lv_at hl 0 rfl) ?_
    refine lv_if_lt (tgt := 62) hx hb dX5_check_15 (by decide) (fun c9 => absurd c9 (by decide)) (fun _ => ?_)
    refine lv_iload_n hx hb dX5_check_18 rfl (lv_at hl 5 rfl) ?_
    refine lv_iconst (v := 4) hx hb dX5_check_19 (by decide) ?_
    refine lv_iload hx hb dX5_check_20 (lv_at hl 0 rfl) ?_
    refine lv_imul hx hb dX5_check_22 ?_
    refine lv_topi (fun y_210 ey_210 => ?_)
    obtain rfl : y_210 = 12 := ey_210.trans (by decide)
    refine lv_ishr hx hb dX5_check_23 ?_
    refine lv_bipush (v := 15) hx hb dX5_check_24 (by decide) ?_
    refine lv_iand hx hb dX5_check_26 ?_
    refine lv_istore (lv' := [(5, .int ((row >>> ((12 : Int32) &&& 31)) &&& 15)), (4, .int 3), (2, .int ((X5_turned_r ((X5_turned_r ((X5_turned_r ((X5_turned_r 5) ^^^ ((row >>> ((28 : Int32) &&& 31)) &&& 15))) ^^^ ((row >>> ((24 : Int32) &&& 31)) &&& 15))) ^^^ ((row >>> ((20 : Int32) &&& 31)) &&& 15))) ^^^ ((row >>> ((16 : Int32) &&& 31)) &&& 15))), (3, .int 1), (0, .ref h0), (1, .int row)]) hx hb dX5_check_27 hl (by decide) rfl (fun ls hl => ?_)
    refine lv_iload_n hx hb dX5_check_29 rfl (lv_at hl 3 rfl) ?_
    refine lv_if_ne (tgt := 38) hx hb dX5_check_30 (by decide) (fun _ => ?_) (fun c9 => absurd c9 (by decide))
    refine lv_iconst (v := 1) hx hb dX5_check_38 (by decide) ?_
    refine lv_goto (tgt := 43) hx hb dX5_check_39 (by decide) ?_
    refine lv_istore_n (lv' := [(3, .int 1), (5, .int ((row >>> ((12 : Int32) &&& 31)) &&& 15)), (4, .int 3), (2, .int ((X5_turned_r ((X5_turned_r ((X5_turned_r ((X5_turned_r 5) ^^^ ((row >>> ((28 : Int32) &&& 31)) &&& 15))) ^^^ ((row >>> ((24 : Int32) &&& 31)) &&& 15))) ^^^ ((row >>> ((20 : Int32) &&& 31)) &&& 15))) ^^^ ((row >>> ((16 : Int32) &&& 31)) &&& 15))), (0, .ref h0), (1, .int row)]) hx hb dX5_check_43 rfl hl (by decide) rfl (fun ls hl => ?_)
    refine lv_iload_n hx hb dX5_check_44 rfl (lv_at hl 0 rfl) ?_
    refine lv_if_eq (tgt := 56) hx hb dX5_check_45 (by decide) (fun c9 => absurd c9 (by decide)) (fun _ => ?_)
    refine lv_iload_n hx hb dX5_check_48 rfl (lv_at hl 3 rfl) ?_
    have hPc := hP.sub (ws' := []) [] rfl
    have hDc := hD.sub (ws' := []) [] (by decide) rfl
    have hKc := hK.sub (tys' := []) [] rfl
    have hFc := va_free (wc := []) hD hS hA [] rfl
    refine va_calli (va_runS (As := [.int ((X5_turned_r ((X5_turned_r ((X5_turned_r ((X5_turned_r 5) ^^^ ((row >>> ((28 : Int32) &&& 31)) &&& 15))) ^^^ ((row >>> ((24 : Int32) &&& 31)) &&& 15))) ^^^ ((row >>> ((20 : Int32) &&& 31)) &&& 15))) ^^^ ((row >>> ((16 : Int32) &&& 31)) &&& 15))]) (rest := []) ⟨hx, hb, hml, hown, hts⟩ (k_X5_turned l dC dI H.size ((X5_turned_r ((X5_turned_r ((X5_turned_r ((X5_turned_r 5) ^^^ ((row >>> ((28 : Int32) &&& 31)) &&& 15))) ^^^ ((row >>> ((24 : Int32) &&& 31)) &&& 15))) ^^^ ((row >>> ((20 : Int32) &&& 31)) &&& 15))) ^^^ ((row >>> ((16 : Int32) &&& 31)) &&& 15))) (va_cwS 1 hts gX5_check_X5_turned rfl rfl rfl (by decide +kernel) ⟨Nat.le_of_ble_eq_true rfl, Nat.le_of_ble_eq_true rfl⟩) ⟨pr.blind, fun U hU hW => ⟨rfl, pr.call hU hW hPc hKc hDc⟩⟩ rfl rfl hl.1 rfl (lv_room (Nat.le_of_ble_eq_true rfl)) dX5_check_49 ⟨Nat.le_of_ble_eq_true rfl, Nat.le_of_ble_eq_true rfl⟩) hS (fun q _ h => hFc q h) hFc (fun r_213 u t H1 locs ht hvm hw hB hz1 hk1 hS => ?_)
    subst r_213
    obtain ⟨hP, hD⟩ := po.join (wr := [(h0, .inr (6, [.int 0, .long tl, .int ed, .long eg, .int aw, .long tk, .long un, .ref b1, .int sm, .ref b2, .int frs, .ref b3, .ref b4, .ref b5, .int bts, .ref b6, .int msn, .ref b7, .int flt, .int bh, .int mkd, .int sta, .int lvl, .long snc, .long tld, .int fst, .int snd, .int stp]))]) hP hD [] [0] rfl rfl (by decide) (by decide) hk1 hFc ht hB
    generalize H1 = H at hP hS ⊢
    clear ht hvm hB hz1 hk1 hPc hDc hKc hFc
    have hP : va_P (dC, dI) vwCl [(h0, .inr (6, [.int 0, .long tl, .int ed, .long eg, .int aw, .long tk, .long un, .ref b1, .int sm, .ref b2, .int frs, .ref b3, .ref b4, .ref b5, .int bts, .ref b6, .int msn, .ref b7, .int flt, .int bh, .int mkd, .int sta, .int lvl, .long snc, .long tld, .int fst, .int snd, .int stp]))] H := hP
    have hD : va_D A [(h0, .inr (6, [.int 0, .long tl, .int ed, .long eg, .int aw, .long tk, .long un, .ref b1, .int sm, .ref b2, .int frs, .ref b3, .ref b4, .ref b5, .int bts, .ref b6, .int msn, .ref b7, .int flt, .int bh, .int mkd, .int sta, .int lvl, .long snc, .long tld, .int fst, .int snd, .int stp]))] := hD
    refine W.widen (k := 0) (n := 0) (Nat.le_of_ble_eq_true rfl) (Nat.le_of_ble_eq_true rfl) ?_
    refine lv_iload hx hb dX5_check_52 (lv_at hl 1 rfl) ?_
    refine lv_ixor hx hb dX5_check_54 ?_
    refine lv_istore_n (lv' := [(2, .int ((X5_turned_r ((X5_turned_r ((X5_turned_r ((X5_turned_r ((X5_turned_r 5) ^^^ ((row >>> ((28 : Int32) &&& 31)) &&& 15))) ^^^ ((row >>> ((24 : Int32) &&& 31)) &&& 15))) ^^^ ((row >>> ((20 : Int32) &&& 31)) &&& 15))) ^^^ ((row >>> ((16 : Int32) &&& 31)) &&& 15))) ^^^ ((row >>> ((12 : Int32) &&& 31)) &&& 15))), (3, .int 1), (5, .int ((row >>> ((12 : Int32) &&& 31)) &&& 15)), (4, .int 3), (0, .ref h0), (1, .int row)]) hx hb dX5_check_55 rfl hl (by decide) rfl (fun ls hl => ?_)
    refine lv_iinc (v := 2) (lv' := [(4, .int 2), (2, .int ((X5_turned_r ((X5_turned_r ((X5_turned_r ((X5_turned_r ((X5_turned_r 5) ^^^ ((row >>> ((28 : Int32) &&& 31)) &&& 15))) ^^^ ((row >>> ((24 : Int32) &&& 31)) &&& 15))) ^^^ ((row >>> ((20 : Int32) &&& 31)) &&& 15))) ^^^ ((row >>> ((16 : Int32) &&& 31)) &&& 15))) ^^^ ((row >>> ((12 : Int32) &&& 31)) &&& 15))), (3, .int 1), (5, .int ((row >>> ((12 : Int32) &&& 31)) &&& 15)), (0, .ref h0), (1, .int row)]) hx hb dX5_check_56 hl (k := 3) rfl (by decide) (by decide) rfl (fun ls hl => ?_)
    refine lv_goto (tgt := 13) hx hb dX5_check_59 (by decide) ?_
    refine lv_iload hx hb dX5_check_13 (lv_at hl 0 rfl) ?_
    refine lv_if_lt (tgt := 62) hx hb dX5_check_15 (by decide) (fun c9 => absurd c9 (by decide)) (fun _ => ?_)
    refine lv_iload_n hx hb dX5_check_18 rfl (lv_at hl 5 rfl) ?_
    refine lv_iconst (v := 4) hx hb dX5_check_19 (by decide) ?_
    refine lv_iload hx hb dX5_check_20 (lv_at hl 0 rfl) ?_
    refine lv_imul hx hb dX5_check_22 ?_
    refine lv_topi (fun y_215 ey_215 => ?_)
    obtain rfl : y_215 = 8 := ey_215.trans (by decide)
    refine lv_ishr hx hb dX5_check_23 ?_
    refine lv_bipush (v := 15) hx hb dX5_check_24 (by decide) ?_
    refine lv_iand hx hb dX5_check_26 ?_
    refine lv_istore (lv' := [(5, .int ((row >>> ((8 : Int32) &&& 31)) &&& 15)), (4, .int 2), (2, .int ((X5_turned_r ((X5_turned_r ((X5_turned_r ((X5_turned_r ((X5_turned_r 5) ^^^ ((row >>> ((28 : Int32) &&& 31)) &&& 15))) ^^^ ((row >>> ((24 : Int32) &&& 31)) &&& 15))) ^^^ ((row >>> ((20 : Int32) &&& 31)) &&& 15))) ^^^ ((row >>> ((16 : Int32) &&& 31)) &&& 15))) ^^^ ((row >>> ((12 : Int32) &&& 31)) &&& 15))), (3, .int 1), (0, .ref h0), (1, .int row)]) hx hb dX5_check_27 hl (by decide) rfl (fun ls hl => ?_)
    refine lv_iload_n hx hb dX5_check_29 rfl (lv_at hl 3 rfl) ?_
    refine lv_if_ne (tgt := 38) hx hb dX5_check_30 (by decide) (fun _ => ?_) (fun c9 => absurd c9 (by decide))
    refine lv_iconst (v := 1) hx hb dX5_check_38 (by decide) ?_
    refine lv_goto (tgt := 43) hx hb dX5_check_39 (by decide) ?_
    refine lv_istore_n (lv' := [(3, .int 1), (5, .int ((row >>> ((8 : Int32) &&& 31)) &&& 15)), (4, .int 2), (2, .int ((X5_turned_r ((X5_turned_r ((X5_turned_r ((X5_turned_r ((X5_turned_r 5) ^^^ ((row >>> ((28 : Int32) &&& 31)) &&& 15))) ^^^ ((row >>> ((24 : Int32) &&& 31)) &&& 15))) ^^^ ((row >>> ((20 : Int32) &&& 31)) &&& 15))) ^^^ ((row >>> ((16 : Int32) &&& 31)) &&& 15))) ^^^ ((row >>> ((12 : Int32) &&& 31)) &&& 15))), (0, .ref h0), (1, .int row)]) hx hb dX5_check_43 rfl hl (by decide) rfl (fun ls hl => ?_)
    refine lv_iload_n hx hb dX5_check_44 rfl (lv_at hl 0 rfl) ?_
    refine lv_if_eq (tgt := 56) hx hb dX5_check_45 (by decide) (fun c9 => absurd c9 (by decide)) (fun _ => ?_)
    refine lv_iload_n hx hb dX5_check_48 rfl (lv_at hl 3 rfl) ?_
    have hPc := hP.sub (ws' := []) [] rfl
    have hDc := hD.sub (ws' := []) [] (by decide) rfl
    have hKc := hK.sub (tys' := []) [] rfl
    have hFc := va_free (wc := []) hD hS hA [] rfl
    refine va_calli (va_runS (As := [.int ((X5_turned_r ((X5_turned_r ((X5_turned_r ((X5_turned_r ((X5_turned_r 5) ^^^ ((row >>> ((28 : Int32) &&& 31)) &&& 15))) ^^^ ((row >>> ((24 : Int32) &&& 31)) &&& 15))) ^^^ ((row >>> ((20 : Int32) &&& 31)) &&& 15))) ^^^ ((row >>> ((16 : Int32) &&& 31)) &&& 15))) ^^^ ((row >>> ((12 : Int32) &&& 31)) &&& 15))]) (rest := []) ⟨hx, hb, hml, hown, hts⟩ (k_X5_turned l dC dI H.size ((X5_turned_r ((X5_turned_r ((X5_turned_r ((X5_turned_r ((X5_turned_r 5) ^^^ ((row >>> ((28 : Int32) &&& 31)) &&& 15))) ^^^ ((row >>> ((24 : Int32) &&& 31)) &&& 15))) ^^^ ((row >>> ((20 : Int32) &&& 31)) &&& 15))) ^^^ ((row >>> ((16 : Int32) &&& 31)) &&& 15))) ^^^ ((row >>> ((12 : Int32) &&& 31)) &&& 15))) (va_cwS 1 hts gX5_check_X5_turned rfl rfl rfl (by decide +kernel) ⟨Nat.le_of_ble_eq_true rfl, Nat.le_of_ble_eq_true rfl⟩) ⟨pr.blind, fun U hU hW => ⟨rfl, pr.call hU hW hPc hKc hDc⟩⟩ rfl rfl hl.1 rfl (lv_room (Nat.le_of_ble_eq_true rfl)) dX5_check_49 ⟨Nat.le_of_ble_eq_true rfl, Nat.le_of_ble_eq_true rfl⟩) hS (fun q _ h => hFc q h) hFc (fun r_218 u t H1 locs ht hvm hw hB hz1 hk1 hS => ?_)
    subst r_218
    obtain ⟨hP, hD⟩ := po.join (wr := [(h0, .inr (6, [.int 0, .long tl, .int ed, .long eg, .int aw, .long tk, .long un, .ref b1, .int sm, .ref b2, .int frs, .ref b3, .ref b4, .ref b5, .int bts, .ref b6, .int msn, .ref b7, .int flt, .int bh, .int mkd, .int sta, .int lvl, .long snc, .long tld, .int fst, .int snd, .int stp]))]) hP hD [] [0] rfl rfl (by decide) (by decide) hk1 hFc ht hB
    generalize H1 = H at hP hS ⊢
    clear ht hvm hB hz1 hk1 hPc hDc hKc hFc
    have hP : va_P (dC, dI) vwCl [(h0, .inr (6, [.int 0, .long tl, .int ed, .long eg, .int aw, .long tk, .long un, .ref b1, .int sm, .ref b2, .int frs, .ref b3, .ref b4, .ref b5, .int bts, .ref b6, .int msn, .ref b7, .int flt, .int bh, .int mkd, .int sta, .int lvl, .long snc, .long tld, .int fst, .int snd, .int stp]))] H := hP
    have hD : va_D A [(h0, .inr (6, [.int 0, .long tl, .int ed, .long eg, .int aw, .long tk, .long un, .ref b1, .int sm, .ref b2, .int frs, .ref b3, .ref b4, .ref b5, .int bts, .ref b6, .int msn, .ref b7, .int flt, .int bh, .int mkd, .int sta, .int lvl, .long snc, .long tld, .int fst, .int snd, .int stp]))] := hD
    refine W.widen (k := 0) (n := 0) (Nat.le_of_ble_eq_true rfl) (Nat.le_of_ble_eq_true rfl) ?_
    refine lv_iload hx hb dX5_check_52 (lv_at hl 1 rfl) ?_
    refine lv_ixor hx hb dX5_check_54 ?_
    refine lv_istore_n (lv' := [(2, .int ((X5_turned_r ((X5_turned_r ((X5_turned_r ((X5_turned_r ((X5_turned_r ((X5_turned_r 5) ^^^ ((row >>> ((28 : Int32) &&& 31)) &&& 15))) ^^^ ((row >>> ((24 : Int32) &&& 31)) &&& 15))) ^^^ ((row >>> ((20 : Int32) &&& 31)) &&& 15))) ^^^ ((row >>> ((16 : Int32) &&& 31)) &&& 15))) ^^^ ((row >>> ((12 : Int32) &&& 31)) &&& 15))) ^^^ ((row >>> ((8 : Int32) &&& 31)) &&& 15))), (3, .int 1), (5, .int ((row >>> ((8 : Int32) &&& 31)) &&& 15)), (4, .int 2), (0, .ref h0), (1, .int row)]) hx hb dX5_check_55 rfl hl (by decide) rfl (fun ls hl => ?_)
    refine lv_iinc (v := 1) (lv' := [(4, .int 1), (2, .int ((X5_turned_r ((X5_turned_r ((X5_turned_r ((X5_turned_r ((X5_turned_r ((X5_turned_r 5) ^^^ ((row >>> ((28 : Int32) &&& 31)) &&& 15))) ^^^ ((row >>> ((24 : Int32) &&& 31)) &&& 15))) ^^^ ((row >>> ((20 : Int32) &&& 31)) &&& 15))) ^^^ ((row >>> ((16 : Int32) &&& 31)) &&& 15))) ^^^ ((row >>> ((12 : Int32) &&& 31)) &&& 15))) ^^^ ((row >>> ((8 : Int32) &&& 31)) &&& 15))), (3, .int 1), (5, .int ((row >>> ((8 : Int32) &&& 31)) &&& 15)), (0, .ref h0), (1, .int row)]) hx hb dX5_check_56 hl (k := 3) rfl (by decide) (by decide) rfl (fun ls hl => ?_)
    refine lv_goto (tgt := 13) hx hb dX5_check_59 (by decide) ?_
    refine lv_iload hx hb dX5_check_13 (lv_at hl 0 rfl) ?_
    refine lv_if_lt (tgt := 62) hx hb dX5_check_15 (by decide) (fun c9 => absurd c9 (by decide)) (fun _ => ?_)
    refine lv_iload_n hx hb dX5_check_18 rfl (lv_at hl 5 rfl) ?_
    refine lv_iconst (v := 4) hx hb dX5_check_19 (by decide) ?_
    refine lv_iload hx hb dX5_check_20 (lv_at hl 0 rfl) ?_
    refine lv_imul hx hb dX5_check_22 ?_
    refine lv_topi (fun y_220 ey_220 => ?_)
    obtain rfl : y_220 = 4 := ey_220.trans (by decide)
    refine lv_ishr hx hb dX5_check_23 ?_
    refine lv_bipush (v := 15) hx hb dX5_check_24 (by decide) ?_
    refine lv_iand hx hb dX5_check_26 ?_
    refine lv_istore (lv' := [(5, .int ((row >>> ((4 : Int32) &&& 31)) &&& 15)), (4, .int 1), (2, .int ((X5_turned_r ((X5_turned_r ((X5_turned_r ((X5_turned_r ((X5_turned_r ((X5_turned_r 5) ^^^ ((row >>> ((28 : Int32) &&& 31)) &&& 15))) ^^^ ((row >>> ((24 : Int32) &&& 31)) &&& 15))) ^^^ ((row >>> ((20 : Int32) &&& 31)) &&& 15))) ^^^ ((row >>> ((16 : Int32) &&& 31)) &&& 15))) ^^^ ((row >>> ((12 : Int32) &&& 31)) &&& 15))) ^^^ ((row >>> ((8 : Int32) &&& 31)) &&& 15))), (3, .int 1), (0, .ref h0), (1, .int row)]) hx hb dX5_check_27 hl (by decide) rfl (fun ls hl => ?_)
    refine lv_iload_n hx hb dX5_check_29 rfl (lv_at hl 3 rfl) ?_
    refine lv_if_ne (tgt := 38) hx hb dX5_check_30 (by decide) (fun _ => ?_) (fun c9 => absurd c9 (by decide))
    refine lv_iconst (v := 1) hx hb dX5_check_38 (by decide) ?_
    refine lv_goto (tgt := 43) hx hb dX5_check_39 (by decide) ?_
    refine lv_istore_n (lv' := [(3, .int 1), (5, .int ((row >>> ((4 : Int32) &&& 31)) &&& 15)), (4, .int 1), (2, .int ((X5_turned_r ((X5_turned_r ((X5_turned_r ((X5_turned_r ((X5_turned_r ((X5_turned_r 5) ^^^ ((row >>> ((28 : Int32) &&& 31)) &&& 15))) ^^^ ((row >>> ((24 : Int32) &&& 31)) &&& 15))) ^^^ ((row >>> ((20 : Int32) &&& 31)) &&& 15))) ^^^ ((row >>> ((16 : Int32) &&& 31)) &&& 15))) ^^^ ((row >>> ((12 : Int32) &&& 31)) &&& 15))) ^^^ ((row >>> ((8 : Int32) &&& 31)) &&& 15))), (0, .ref h0), (1, .int row)]) hx hb dX5_check_43 rfl hl (by decide) rfl (fun ls hl => ?_)
    refine lv_iload_n hx hb dX5_check_44 rfl (lv_at hl 0 rfl) ?_
    refine lv_if_eq (tgt := 56) hx hb dX5_check_45 (by decide) (fun c9 => absurd c9 (by decide)) (fun _ => ?_)
    refine lv_iload_n hx hb dX5_check_48 rfl (lv_at hl 3 rfl) ?_
    have hPc := hP.sub (ws' := []) [] rfl
    have hDc := hD.sub (ws' := []) [] (by decide) rfl
    have hKc := hK.sub (tys' := []) [] rfl
    have hFc := va_free (wc := []) hD hS hA [] rfl
    refine va_calli (va_runS (As := [.int ((X5_turned_r ((X5_turned_r ((X5_turned_r ((X5_turned_r ((X5_turned_r ((X5_turned_r 5) ^^^ ((row >>> ((28 : Int32) &&& 31)) &&& 15))) ^^^ ((row >>> ((24 : Int32) &&& 31)) &&& 15))) ^^^ ((row >>> ((20 : Int32) &&& 31)) &&& 15))) ^^^ ((row >>> ((16 : Int32) &&& 31)) &&& 15))) ^^^ ((row >>> ((12 : Int32) &&& 31)) &&& 15))) ^^^ ((row >>> ((8 : Int32) &&& 31)) &&& 15))]) (rest := []) ⟨hx, hb, hml, hown, hts⟩ (k_X5_turned l dC dI H.size ((X5_turned_r ((X5_turned_r ((X5_turned_r ((X5_turned_r ((X5_turned_r ((X5_turned_r 5) ^^^ ((row >>> ((28 : Int32) &&& 31)) &&& 15))) ^^^ ((row >>> ((24 : Int32) &&& 31)) &&& 15))) ^^^ ((row >>> ((20 : Int32) &&& 31)) &&& 15))) ^^^ ((row >>> ((16 : Int32) &&& 31)) &&& 15))) ^^^ ((row >>> ((12 : Int32) &&& 31)) &&& 15))) ^^^ ((row >>> ((8 : Int32) &&& 31)) &&& 15))) (va_cwS 1 hts gX5_check_X5_turned rfl rfl rfl (by decide +kernel) ⟨Nat.le_of_ble_eq_true rfl, Nat.le_of_ble_eq_true rfl⟩) ⟨pr.blind, fun U hU hW => ⟨rfl, pr.call hU hW hPc hKc hDc⟩⟩ rfl rfl hl.1 rfl (lv_room (Nat.le_of_ble_eq_true rfl)) dX5_check_49 ⟨Nat.le_of_ble_eq_true rfl, Nat.le_of_ble_eq_true rfl⟩) hS (fun q _ h => hFc q h) hFc (fun r_223 u t H1 locs ht hvm hw hB hz1 hk1 hS => ?_)
    subst r_223
    obtain ⟨hP, hD⟩ := po.join (wr := [(h0, .inr (6, [.int 0, .long tl, .int ed, .long eg, .int aw, .long tk, .long un, .ref b1, .int sm, .ref b2, .int frs, .ref b3, .ref b4, .ref b5, .int bts, .ref b6, .int msn, .ref b7, .int flt, .int bh, .int mkd, .int sta, .int lvl, .long snc, .long tld, .int fst, .int snd, .int stp]))]) hP hD [] [0] rfl rfl (by decide) (by decide) hk1 hFc ht hB
    generalize H1 = H at hP hS ⊢
    clear ht hvm hB hz1 hk1 hPc hDc hKc hFc
    have hP : va_P (dC, dI) vwCl [(h0, .inr (6, [.int 0, .long tl, .int ed, .long eg, .int aw, .long tk, .long un, .ref b1, .int sm, .ref b2, .int frs, .ref b3, .ref b4, .ref b5, .int bts, .ref b6, .int msn, .ref b7, .int flt, .int bh, .int mkd, .int sta, .int lvl, .long snc, .long tld, .int fst, .int snd, .int stp]))] H := hP
    have hD : va_D A [(h0, .inr (6, [.int 0, .long tl, .int ed, .long eg, .int aw, .long tk, .long un, .ref b1, .int sm, .ref b2, .int frs, .ref b3, .ref b4, .ref b5, .int bts, .ref b6, .int msn, .ref b7, .int flt, .int bh, .int mkd, .int sta, .int lvl, .long snc, .long tld, .int fst, .int snd, .int stp]))] := hD
    refine W.widen (k := 0) (n := 0) (Nat.le_of_ble_eq_true rfl) (Nat.le_of_ble_eq_true rfl) ?_
    refine lv_iload hx hb dX5_check_52 (lv_at hl 1 rfl) ?_
    refine lv_ixor hx hb dX5_check_54 ?_
    refine lv_istore_n (lv' := [(2, .int ((X5_turned_r ((X5_turned_r ((X5_turned_r ((X5_turned_r ((X5_turned_r ((X5_turned_r ((X5_turned_r 5) ^^^ ((row >>> ((28 : Int32) &&& 31)) &&& 15))) ^^^ ((row >>> ((24 : Int32) &&& 31)) &&& 15))) ^^^ ((row >>> ((20 : Int32) &&& 31)) &&& 15))) ^^^ ((row >>> ((16 : Int32) &&& 31)) &&& 15))) ^^^ ((row >>> ((12 : Int32) &&& 31)) &&& 15))) ^^^ ((row >>> ((8 : Int32) &&& 31)) &&& 15))) ^^^ ((row >>> ((4 : Int32) &&& 31)) &&& 15))), (3, .int 1), (5, .int ((row >>> ((4 : Int32) &&& 31)) &&& 15)), (4, .int 1), (0, .ref h0), (1, .int row)]) hx hb dX5_check_55 rfl hl (by decide) rfl (fun ls hl => ?_)
    refine lv_iinc (v := 0) (lv' := [(4, .int 0), (2, .int ((X5_turned_r ((X5_turned_r ((X5_turned_r ((X5_turned_r ((X5_turned_r ((X5_turned_r ((X5_turned_r 5) ^^^ ((row >>> ((28 : Int32) &&& 31)) &&& 15))) ^^^ ((row >>> ((24 : Int32) &&& 31)) &&& 15))) ^^^ ((row >>> ((20 : Int32) &&& 31)) &&& 15))) ^^^ ((row >>> ((16 : Int32) &&& 31)) &&& 15))) ^^^ ((row >>> ((12 : Int32) &&& 31)) &&& 15))) ^^^ ((row >>> ((8 : Int32) &&& 31)) &&& 15))) ^^^ ((row >>> ((4 : Int32) &&& 31)) &&& 15))), (3, .int 1), (5, .int ((row >>> ((4 : Int32) &&& 31)) &&& 15)), (0, .ref h0), (1, .int row)]) hx hb dX5_check_56 hl (k := 3) rfl (by decide) (by decide) rfl (fun ls hl => ?_)
    refine lv_goto (tgt := 13) hx hb dX5_check_59 (by decide) ?_
    refine lv_iload hx hb dX5_check_13 (lv_at hl 0 rfl) ?_
    refine lv_if_lt (tgt := 62) hx hb dX5_check_15 (by decide) (fun c9 => absurd c9 (by decide)) (fun _ => ?_)
    refine lv_iload_n hx hb dX5_check_18 rfl (lv_at hl 5 rfl) ?_
    refine lv_iconst (v := 4) hx hb dX5_check_19 (by decide) ?_
    refine lv_iload hx hb dX5_check_20 (lv_at hl 0 rfl) ?_
    refine lv_imul hx hb dX5_check_22 ?_
    refine lv_topi (fun y_225 ey_225 => ?_)
    obtain rfl : y_225 = 0 := ey_225.trans (by decide)
    refine lv_ishr hx hb dX5_check_23 ?_
    refine lv_bipush (v := 15) hx hb dX5_check_24 (by decide) ?_
    refine lv_iand hx hb dX5_check_26 ?_
    refine lv_istore (lv' := [(5, .int ((row >>> ((0 : Int32) &&& 31)) &&& 15)), (4, .int 0), (2, .int ((X5_turned_r ((X5_turned_r ((X5_turned_r ((X5_turned_r ((X5_turned_r ((X5_turned_r ((X5_turned_r 5) ^^^ ((row >>> ((28 : Int32) &&& 31)) &&& 15))) ^^^ ((row >>> ((24 : Int32) &&& 31)) &&& 15))) ^^^ ((row >>> ((20 : Int32) &&& 31)) &&& 15))) ^^^ ((row >>> ((16 : Int32) &&& 31)) &&& 15))) ^^^ ((row >>> ((12 : Int32) &&& 31)) &&& 15))) ^^^ ((row >>> ((8 : Int32) &&& 31)) &&& 15))) ^^^ ((row >>> ((4 : Int32) &&& 31)) &&& 15))), (3, .int 1), (0, .ref h0), (1, .int row)]) hx hb dX5_check_27 hl (by decide) rfl (fun ls hl => ?_)
    refine lv_iload_n hx hb dX5_check_29 rfl (lv_at hl 3 rfl) ?_
    refine lv_if_ne (tgt := 38) hx hb dX5_check_30 (by decide) (fun _ => ?_) (fun c9 => absurd c9 (by decide))
    refine lv_iconst (v := 1) hx hb dX5_check_38 (by decide) ?_
    refine lv_goto (tgt := 43) hx hb dX5_check_39 (by decide) ?_
    refine lv_istore_n (lv' := [(3, .int 1), (5, .int ((row >>> ((0 : Int32) &&& 31)) &&& 15)), (4, .int 0), (2, .int ((X5_turned_r ((X5_turned_r ((X5_turned_r ((X5_turned_r ((X5_turned_r ((X5_turned_r ((X5_turned_r 5) ^^^ ((row >>> ((28 : Int32) &&& 31)) &&& 15))) ^^^ ((row >>> ((24 : Int32) &&& 31)) &&& 15))) ^^^ ((row >>> ((20 : Int32) &&& 31)) &&& 15))) ^^^ ((row >>> ((16 : Int32) &&& 31)) &&& 15))) ^^^ ((row >>> ((12 : Int32) &&& 31)) &&& 15))) ^^^ ((row >>> ((8 : Int32) &&& 31)) &&& 15))) ^^^ ((row >>> ((4 : Int32) &&& 31)) &&& 15))), (0, .ref h0), (1, .int row)]) hx hb dX5_check_43 rfl hl (by decide) rfl (fun ls hl => ?_)
    refine lv_iload_n hx hb dX5_check_44 rfl (lv_at hl 0 rfl) ?_
    refine lv_if_eq (tgt := 56) hx hb dX5_check_45 (by decide) (fun c9 => absurd c9 (by decide)) (fun _ => ?_)
    refine lv_iload_n hx hb dX5_check_48 rfl (lv_at hl 3 rfl) ?_
    have hPc := hP.sub (ws' := []) [] rfl
    have hDc := hD.sub (ws' := []) [] (by decide) rfl
    have hKc := hK.sub (tys' := []) [] rfl
    have hFc := va_free (wc := []) hD hS hA [] rfl
    refine va_calli (va_runS (As := [.int ((X5_turned_r ((X5_turned_r ((X5_turned_r ((X5_turned_r ((X5_turned_r ((X5_turned_r ((X5_turned_r 5) ^^^ ((row >>> ((28 : Int32) &&& 31)) &&& 15))) ^^^ ((row >>> ((24 : Int32) &&& 31)) &&& 15))) ^^^ ((row >>> ((20 : Int32) &&& 31)) &&& 15))) ^^^ ((row >>> ((16 : Int32) &&& 31)) &&& 15))) ^^^ ((row >>> ((12 : Int32) &&& 31)) &&& 15))) ^^^ ((row >>> ((8 : Int32) &&& 31)) &&& 15))) ^^^ ((row >>> ((4 : Int32) &&& 31)) &&& 15))]) (rest := []) ⟨hx, hb, hml, hown, hts⟩ (k_X5_turned l dC dI H.size ((X5_turned_r ((X5_turned_r ((X5_turned_r ((X5_turned_r ((X5_turned_r ((X5_turned_r ((X5_turned_r 5) ^^^ ((row >>> ((28 : Int32) &&& 31)) &&& 15))) ^^^ ((row >>> ((24 : Int32) &&& 31)) &&& 15))) ^^^ ((row >>> ((20 : Int32) &&& 31)) &&& 15))) ^^^ ((row >>> ((16 : Int32) &&& 31)) &&& 15))) ^^^ ((row >>> ((12 : Int32) &&& 31)) &&& 15))) ^^^ ((row >>> ((8 : Int32) &&& 31)) &&& 15))) ^^^ ((row >>> ((4 : Int32) &&& 31)) &&& 15))) (va_cwS 1 hts gX5_check_X5_turned rfl rfl rfl (by decide +kernel) ⟨Nat.le_of_ble_eq_true rfl, Nat.le_of_ble_eq_true rfl⟩) ⟨pr.blind, fun U hU hW => ⟨rfl, pr.call hU hW hPc hKc hDc⟩⟩ rfl rfl hl.1 rfl (lv_room (Nat.le_of_ble_eq_true rfl)) dX5_check_49 ⟨Nat.le_of_ble_eq_true rfl, Nat.le_of_ble_eq_true rfl⟩) hS (fun q _ h => hFc q h) hFc (fun r_228 u t H1 locs ht hvm hw hB hz1 hk1 hS => ?_)
    subst r_228
    obtain ⟨hP, hD⟩ := po.join (wr := [(h0, .inr (6, [.int 0, .long tl, .int ed, .long eg, .int aw, .long tk, .long un, .ref b1, .int sm, .ref b2, .int frs, .ref b3, .ref b4, .ref b5, .int bts, .ref b6, .int msn, .ref b7, .int flt, .int bh, .int mkd, .int sta, .int lvl, .long snc, .long tld, .int fst, .int snd, .int stp]))]) hP hD [] [0] rfl rfl (by decide) (by decide) hk1 hFc ht hB
    generalize H1 = H at hP hS ⊢
    clear ht hvm hB hz1 hk1 hPc hDc hKc hFc
    have hP : va_P (dC, dI) vwCl [(h0, .inr (6, [.int 0, .long tl, .int ed, .long eg, .int aw, .long tk, .long un, .ref b1, .int sm, .ref b2, .int frs, .ref b3, .ref b4, .ref b5, .int bts, .ref b6, .int msn, .ref b7, .int flt, .int bh, .int mkd, .int sta, .int lvl, .long snc, .long tld, .int fst, .int snd, .int stp]))] H := hP
    have hD : va_D A [(h0, .inr (6, [.int 0, .long tl, .int ed, .long eg, .int aw, .long tk, .long un, .ref b1, .int sm, .ref b2, .int frs, .ref b3, .ref b4, .ref b5, .int bts, .ref b6, .int msn, .ref b7, .int flt, .int bh, .int mkd, .int sta, .int lvl, .long snc, .long tld, .int fst, .int snd, .int stp]))] := hD
    refine W.widen (k := 0) (n := 0) (Nat.le_of_ble_eq_true rfl) (Nat.le_of_ble_eq_true rfl) ?_
    refine lv_iload hx hb dX5_check_52 (lv_at hl 1 rfl) ?_
    refine lv_ixor hx hb dX5_check_54 ?_
    refine lv_istore_n (lv' := [(2, .int ((X5_turned_r ((X5_turned_r ((X5_turned_r ((X5_turned_r ((X5_turned_r ((X5_turned_r ((X5_turned_r ((X5_turned_r 5) ^^^ ((row >>> ((28 : Int32) &&& 31)) &&& 15))) ^^^ ((row >>> ((24 : Int32) &&& 31)) &&& 15))) ^^^ ((row >>> ((20 : Int32) &&& 31)) &&& 15))) ^^^ ((row >>> ((16 : Int32) &&& 31)) &&& 15))) ^^^ ((row >>> ((12 : Int32) &&& 31)) &&& 15))) ^^^ ((row >>> ((8 : Int32) &&& 31)) &&& 15))) ^^^ ((row >>> ((4 : Int32) &&& 31)) &&& 15))) ^^^ ((row >>> ((0 : Int32) &&& 31)) &&& 15))), (3, .int 1), (5, .int ((row >>> ((0 : Int32) &&& 31)) &&& 15)), (4, .int 0), (0, .ref h0), (1, .int row)]) hx hb dX5_check_55 rfl hl (by decide) rfl (fun ls hl => ?_)
    refine lv_iinc (v := (-1)) (lv' := [(4, .int (-1)), (2, .int ((X5_turned_r ((X5_turned_r ((X5_turned_r ((X5_turned_r ((X5_turned_r ((X5_turned_r ((X5_turned_r ((X5_turned_r 5) ^^^ ((row >>> ((28 : Int32) &&& 31)) &&& 15))) ^^^ ((row >>> ((24 : Int32) &&& 31)) &&& 15))) ^^^ ((row >>> ((20 : Int32) &&& 31)) &&& 15))) ^^^ ((row >>> ((16 : Int32) &&& 31)) &&& 15))) ^^^ ((row >>> ((12 : Int32) &&& 31)) &&& 15))) ^^^ ((row >>> ((8 : Int32) &&& 31)) &&& 15))) ^^^ ((row >>> ((4 : Int32) &&& 31)) &&& 15))) ^^^ ((row >>> ((0 : Int32) &&& 31)) &&& 15))), (3, .int 1), (5, .int ((row >>> ((0 : Int32) &&& 31)) &&& 15)), (0, .ref h0), (1, .int row)]) hx hb dX5_check_56 hl (k := 3) rfl (by decide) (by decide) rfl (fun ls hl => ?_)
    refine lv_goto (tgt := 13) hx hb dX5_check_59 (by decide) ?_
    refine lv_iload hx hb dX5_check_13 (lv_at hl 0 rfl) ?_
    refine lv_if_lt (tgt := 62) hx hb dX5_check_15 (by decide) (fun _ => ?_) (fun c9 => absurd c9 (by decide))
    refine lv_iload_n hx hb dX5_check_62 rfl (lv_at hl 1 rfl) ?_
    have hPc := hP.sub (ws' := []) [] rfl
    have hDc := hD.sub (ws' := []) [] (by decide) rfl
    have hKc := hK.sub (tys' := []) [] rfl
    have hFc := va_free (wc := []) hD hS hA [] rfl
    refine va_calli (va_runS (As := [.int ((X5_turned_r ((X5_turned_r ((X5_turned_r ((X5_turned_r ((X5_turned_r ((X5_turned_r ((X5_turned_r ((X5_turned_r 5) ^^^ ((row >>> ((28 : Int32) &&& 31)) &&& 15))) ^^^ ((row >>> ((24 : Int32) &&& 31)) &&& 15))) ^^^ ((row >>> ((20 : Int32) &&& 31)) &&& 15))) ^^^ ((row >>> ((16 : Int32) &&& 31)) &&& 15))) ^^^ ((row >>> ((12 : Int32) &&& 31)) &&& 15))) ^^^ ((row >>> ((8 : Int32) &&& 31)) &&& 15))) ^^^ ((row >>> ((4 : Int32) &&& 31)) &&& 15))) ^^^ ((row >>> ((0 : Int32) &&& 31)) &&& 15))]) (rest := []) ⟨hx, hb, hml, hown, hts⟩ (k_X5_turned l dC dI H.size ((X5_turned_r ((X5_turned_r ((X5_turned_r ((X5_turned_r ((X5_turned_r ((X5_turned_r ((X5_turned_r ((X5_turned_r 5) ^^^ ((row >>> ((28 : Int32) &&& 31)) &&& 15))) ^^^ ((row >>> ((24 : Int32) &&& 31)) &&& 15))) ^^^ ((row >>> ((20 : Int32) &&& 31)) &&& 15))) ^^^ ((row >>> ((16 : Int32) &&& 31)) &&& 15))) ^^^ ((row >>> ((12 : Int32) &&& 31)) &&& 15))) ^^^ ((row >>> ((8 : Int32) &&& 31)) &&& 15))) ^^^ ((row >>> ((4 : Int32) &&& 31)) &&& 15))) ^^^ ((row >>> ((0 : Int32) &&& 31)) &&& 15))) (va_cwS 1 hts gX5_check_X5_turned rfl rfl rfl (by decide +kernel) ⟨Nat.le_of_ble_eq_true rfl, Nat.le_of_ble_eq_true rfl⟩) ⟨pr.blind, fun U hU hW => ⟨rfl, pr.call hU hW hPc hKc hDc⟩⟩ rfl rfl hl.1 rfl (lv_room (Nat.le_of_ble_eq_true rfl)) dX5_check_63 ⟨Nat.le_of_ble_eq_true rfl, Nat.le_of_ble_eq_true rfl⟩) hS (fun q _ h => hFc q h) hFc (fun r_230 u t H1 locs ht hvm hw hB hz1 hk1 hS => ?_)
    subst r_230
    obtain ⟨hP, hD⟩ := po.join (wr := [(h0, .inr (6, [.int 0, .long tl, .int ed, .long eg, .int aw, .long tk, .long un, .ref b1, .int sm, .ref b2, .int frs, .ref b3, .ref b4, .ref b5, .int bts, .ref b6, .int msn, .ref b7, .int flt, .int bh, .int mkd, .int sta, .int lvl, .long snc, .long tld, .int fst, .int snd, .int stp]))]) hP hD [] [0] rfl rfl (by decide) (by decide) hk1 hFc ht hB
    generalize H1 = H at hP hS ⊢
    clear ht hvm hB hz1 hk1 hPc hDc hKc hFc
    have hP : va_P (dC, dI) vwCl [(h0, .inr (6, [.int 0, .long tl, .int ed, .long eg, .int aw, .long tk, .long un, .ref b1, .int sm, .ref b2, .int frs, .ref b3, .ref b4, .ref b5, .int bts, .ref b6, .int msn, .ref b7, .int flt, .int bh, .int mkd, .int sta, .int lvl, .long snc, .long tld, .int fst, .int snd, .int stp]))] H := hP
    have hD : va_D A [(h0, .inr (6, [.int 0, .long tl, .int ed, .long eg, .int aw, .long tk, .long un, .ref b1, .int sm, .ref b2, .int frs, .ref b3, .ref b4, .ref b5, .int bts, .ref b6, .int msn, .ref b7, .int flt, .int bh, .int mkd, .int sta, .int lvl, .long snc, .long tld, .int fst, .int snd, .int stp]))] := hD
    refine W.widen (k := 0) (n := 0) (Nat.le_of_ble_eq_true rfl) (Nat.le_of_ble_eq_true rfl) ?_
    have hP9 : va_P (dC, dI) vwCl [(h0, .inr (6, [.int 0, .long tl, .int ed, .long eg, .int aw, .long tk, .long un, .ref b1, .int sm, .ref b2, .int frs, .ref b3, .ref b4, .ref b5, .int bts, .ref b6, .int msn, .ref b7, .int flt, .int bh, .int mkd, .int sta, .int lvl, .long snc, .long tld, .int fst, .int snd, .int stp]))] H := by exact hP.sub [0] rfl
    have hD9 : va_D A [(h0, .inr (6, [.int 0, .long tl, .int ed, .long eg, .int aw, .long tk, .long un, .ref b1, .int sm, .ref b2, .int frs, .ref b3, .ref b4, .ref b5, .int bts, .ref b6, .int msn, .ref b7, .int flt, .int bh, .int mkd, .int sta, .int lvl, .long snc, .long tld, .int fst, .int snd, .int stp]))] := by exact hD.sub [0] (by decide) rfl
    have e_232 : X5_turned_r ((X5_turned_r ((X5_turned_r ((X5_turned_r ((X5_turned_r ((X5_turned_r ((X5_turned_r ((X5_turned_r ((X5_turned_r 5) ^^^ ((row >>> ((28 : Int32) &&& 31)) &&& 15))) ^^^ ((row >>> ((24 : Int32) &&& 31)) &&& 15))) ^^^ ((row >>> ((20 : Int32) &&& 31)) &&& 15))) ^^^ ((row >>> ((16 : Int32) &&& 31)) &&& 15))) ^^^ ((row >>> ((12 : Int32) &&& 31)) &&& 15))) ^^^ ((row >>> ((8 : Int32) &&& 31)) &&& 15))) ^^^ ((row >>> ((4 : Int32) &&& 31)) &&& 15))) ^^^ ((row >>> ((0 : Int32) &&& 31)) &&& 15)) = X5_check_r row := by rw [X5_check_r, if_neg c_4]
    exact W.iret (v := X5_turned_r ((X5_turned_r ((X5_turned_r ((X5_turned_r ((X5_turned_r ((X5_turned_r ((X5_turned_r ((X5_turned_r ((X5_turned_r 5) ^^^ ((row >>> ((28 : Int32) &&& 31)) &&& 15))) ^^^ ((row >>> ((24 : Int32) &&& 31)) &&& 15))) ^^^ ((row >>> ((20 : Int32) &&& 31)) &&& 15))) ^^^ ((row >>> ((16 : Int32) &&& 31)) &&& 15))) ^^^ ((row >>> ((12 : Int32) &&& 31)) &&& 15))) ^^^ ((row >>> ((8 : Int32) &&& 31)) &&& 15))) ^^^ ((row >>> ((4 : Int32) &&& 31)) &&& 15))) ^^^ ((row >>> ((0 : Int32) &&& 31)) &&& 15))) hx hb hr (fun t ht hW => ⟨⟨_, (), rfl, e_232, po.ret ht hW hP9 hK hD9⟩, hS.F ht⟩) hS.2.2 dX5_check_66
