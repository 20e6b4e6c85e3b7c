/-- the loop of checking: what is left of the row, n nibbles -/
def ck_lp (row : Int32) : Nat → Int32 → Int32
  | 0, c => c
  | n + 1, c => ck_lp row n (tb_f ((c &&& 15).toNatClampNeg) ^^^ X4_nibbleAt_r row (nI (n + 1) - 1))
/-- the loop of check: how many nibbles -/
def cnt_lp (row : Int32) : Nat → Nat → Nat
  | 0, k => k
  | n + 1, k => if 8 ≤ nI k then k else (if ush row (4 * nI k) = 0 then k else cnt_lp row n (k + 1))
theorem cnt_lp_le (row : Int32) : ∀ n k, k ≤ 8 → cnt_lp row n k ≤ 8 := by
  intro n
  induction n with
  | zero => exact fun k h => h
  | succ n ih =>
    intro k h
    rw [cnt_lp]
    split
    · exact h
    · split
      · exact h
      · refine ih (k + 1) ?_
        rename_i h1 _
        rcases Nat.lt_or_ge k 8 with q | q
        · omega
        · exact absurd (show nI 8 ≤ nI k from nI_le q (by omega)) h1
theorem nI_m1_neg {n : Nat} (hn : n ≤ 8) (h : nI n - 1 < 0) : n = 0 := by
  rcases n with _ | n
  · rfl
  · rw [nI_pred] at h; exact absurd h (nI_pos (by omega))
theorem nI_m1_pos {n : Nat} (h : ¬ nI n - 1 < 0) : ∃ j, n = j + 1 := by
  rcases n with _ | n
  · exact absurd (by decide) h
  · exact ⟨n, rfl⟩
theorem nI_m1_m1 (n : Nat) : nI (n + 1) - 1 + (-1) = nI n - 1 := by rw [nI_pred]; exact (Int32.sub_eq_add_neg _ _).symm
def X4_checking_r (row : Int32) (ck : Nat) : Int32 := tb_f (((ck_lp row ck 5) &&& 15).toNatClampNeg)
set_option maxHeartbeats 4000000 in
set_option maxRecDepth 100000 in
theorem k_X4_checking (l : Launch) (dC : Nat → ClassId) (dI : Nat → Nat → Nat) (sz : Nat) (tb : Nat) (row : Int32) (ct : Int32) (ck : Nat) (hct : ct = nI ck) (hck : ck ≤ 8) : Met l yX4_checking wsX4_checking ({ frames := 1, cells := 0, slots := 0, locals := 21 }) (va_Pc [.int row, .int ct] (prE tb (dC, dI) [] [] sz)) (va_Qi (fun (r : Int32) (_ : Unit) => r = X4_checking_r row ck) (fun _ t => po (dC, dI) [] (va_A [] sz) [] t) (va_A [] sz)) 0 0 (va_A [] sz) := by
  refine Met.ofW (cc := cX4_checking) (maxL := 4) (ret := (some .int)) (by decide) rfl ?_
  intro p e s m args below meth c s₁ B hml hv
  obtain ⟨rfl, ⟨hsz, hP, hK, hD0⟩, hE⟩ := hv
  have hx := B.exec
  have hb := B.bytes
  have hr := B.returns
  have hts := atoms_spec (ws := wsX4_checking) B.pre
  have hown : s.vm.findClass RX4 = some m.cls := findClass_of_methodNamed B.named
  have hlocks := B.notSynchronized
  subst hsz
  have hD := hD0.self (sz := s.heap.size)
  generalize hAe : va_A [] s.heap.size = A at hD hE ⊢
  have hA : ∀ q : Nat, s.heap.size ≤ q → A q := fun q h => by rw [← hAe]; exact Or.inr h
  have hS : va_S A s.heap s.heap [] := va_S.rf
  have hP : va_P (dC, dI) vwCl [] s.heap := hP
  have hl := lv_entry ([.int row, .int ct]) (n := 4) (Nat.le_of_ble_eq_true rfl)
  rw [lg_entry_eq]
  generalize (lg_sl ([.int row, .int ct]) ++ List.replicate (4 - (lg_sl ([.int row, .int ct])).length) Slot.unset).toArray = ls at hl ⊢
  have hl : lv_has ls 4 [(0, .int row), (1, .int ct)] := hl
  refine lv_iconst (v := 5) hx hb dX4_checking_0 (by decide) ?_
  refine lv_istore_n (lv' := [(2, .int 5), (0, .int row), (1, .int ct)]) hx hb dX4_checking_1 rfl hl (by decide) rfl (fun ls hl => ?_)
  refine lv_iload_n hx hb dX4_checking_2 rfl (lv_at hl 2 rfl) ?_
  refine lv_iconst (v := 1) hx hb dX4_checking_3 (by decide) ?_
  refine lv_isub hx hb dX4_checking_4 ?_
  refine lv_istore_n (lv' := [(3, .int (ct - 1)), (2, .int 5), (0, .int row), (1, .int ct)]) hx hb dX4_checking_5 rfl hl (by decide) rfl (fun ls hl => ?_)
  refine lp_w (hd := 6) (σ := Int32) (fun n cc H locs ls => (n ≤ 8) ∧ va_P (dC, dI) vwCl [] H ∧ va_D A [] ∧ va_S A s.heap H locs ∧ lv_has ls 4 [(3, .int (nI n - 1)), (2, .int cc), (0, .int row), (1, .int ct)] ∧ ck_lp row n cc = ck_lp row ck 5) ?_ ck 5 _ _ _ ⟨hck, hP, hD, hS, lv_sub hl [0, 1, 2, 3] (by rw [hct]; rfl), rfl⟩
  clear hP hD hS hl
  intro n cc H locs ls hI ih
  obtain ⟨hinv, hP, hD, hS, hl, hLP⟩ := hI
  refine lv_iload_n hx hb dX4_checking_6 rfl (lv_at hl 0 rfl) ?_
  refine lv_if_lt (tgt := 31) hx hb dX4_checking_7 (by decide) (fun c_1 => ?_) (fun c_1 => ?_)
  · obtain rfl := nI_m1_neg hinv c_1
    have hLP : cc = ck_lp row ck 5 := hLP
    subst hLP
    refine va_gets hx hb hE.1 hS hown (hts (.fieldLink RX4 192 "PulseRows" "CHECK_TABLE" "[I") (List.mem_of_getElem? (i := 1) rfl)) (fun _ h9 => h9) dX4_checking_31 ?_
    refine lv_iload_n hx hb dX4_checking_34 rfl (lv_at hl 1 rfl) ?_
    refine lv_bipush (v := 15) hx hb dX4_checking_35 (by decide) ?_
    refine lv_iand hx hb dX4_checking_37 ?_
    refine va_ti (v := .int (tb_f (((ck_lp row ck 5) &&& 15).toNatClampNeg))) hx hb hE.2.1 hS (pk_andIn _ 4 (by decide) (by decide)) rfl dX4_checking_38 ?_
    have hP9 : va_P (dC, dI) vwCl [] H := by exact hP.sub [] rfl
    have hD9 : va_D A [] := by exact hD.sub [] (by decide) rfl
    have e_2 : tb_f (((ck_lp row ck 5) &&& 15).toNatClampNeg) = X4_checking_r row ck := by rw [X4_checking_r]
    exact W.iret (v := tb_f (((ck_lp row ck 5) &&& 15).toNatClampNeg)) hx hb hr (fun t ht hW => ⟨⟨_, (), rfl, e_2, po.ret ht hW hP9 hK hD9⟩, hS.F ht⟩) hS.2.2 dX4_checking_39
  · obtain ⟨n, rfl⟩ := nI_m1_pos c_1
    refine va_gets hx hb hE.1 hS hown (hts (.fieldLink RX4 192 "PulseRows" "CHECK_TABLE" "[I") (List.mem_of_getElem? (i := 1) rfl)) (fun _ h9 => h9) dX4_checking_10 ?_
    refine lv_iload_n hx hb dX4_checking_13 rfl (lv_at hl 1 rfl) ?_
    refine lv_bipush (v := 15) hx hb dX4_checking_14 (by decide) ?_
    refine lv_iand hx hb dX4_checking_16 ?_
    refine va_ti (v := .int (tb_f ((cc &&& 15).toNatClampNeg))) hx hb hE.2.1 hS (pk_andIn _ 4 (by decide) (by decide)) rfl dX4_checking_17 ?_
    refine lv_iload_n hx hb dX4_checking_18 rfl (lv_at hl 2 rfl) ?_
    refine lv_iload_n hx hb dX4_checking_19 rfl (lv_at hl 0 rfl) ?_
    have hPc := hP.sub (ws' := []) [] rfl
    have hDc := hD.sub (ws' := []) [] (by decide) rfl
    have hKc := hK.sub (tys' := []) [] rfl
    have hFc := va_free (wc := []) hD hS hA [] rfl
    refine va_calli (va_runS (As := [.int row, .int (nI (n + 1) - 1)]) (rest := [.int (tb_f ((cc &&& 15).toNatClampNeg))]) ⟨hx, hb, hml, hown, hts⟩ (k_X4_nibbleAt l dC dI H.size row (nI (n + 1) - 1)) (va_cwS 2 hts gX4_checking_X4_nibbleAt rfl rfl rfl (by decide +kernel) ⟨Nat.le_of_ble_eq_true rfl, Nat.le_of_ble_eq_true rfl⟩) ⟨pr.blind, fun U hU hW => ⟨rfl, pr.call hU hW hPc hKc hDc⟩⟩ rfl rfl hl.1 rfl (lv_room (Nat.le_of_ble_eq_true rfl)) dX4_checking_20 ⟨Nat.le_of_ble_eq_true rfl, Nat.le_of_ble_eq_true rfl⟩) hS (fun q _ h => hFc q h) hFc (fun r_3 u t H1 locs ht hvm hw hB hz1 hk1 hS => ?_)
    subst r_3
    obtain ⟨hP, hD⟩ := po.join (wr := []) hP hD [] [] rfl rfl (by decide) (by decide) hk1 hFc ht hB
    generalize H1 = H at hP hS ⊢
    clear ht hvm hB hz1 hk1 hPc hDc hKc hFc
    have hP : va_P (dC, dI) vwCl [] H := hP
    have hD : va_D A [] := hD
    refine W.widen (k := 0) (n := 0) (Nat.le_of_ble_eq_true rfl) (Nat.le_of_ble_eq_true rfl) ?_
    refine lv_ixor hx hb dX4_checking_23 ?_
    refine lv_istore_n (lv' := [(2, .int ((tb_f ((cc &&& 15).toNatClampNeg)) ^^^ (X4_nibbleAt_r row (nI (n + 1) - 1)))), (3, .int (nI (n + 1) - 1)), (0, .int row), (1, .int ct)]) hx hb dX4_checking_24 rfl hl (by decide) rfl (fun ls hl => ?_)
    refine lv_iinc (v := (nI (n + 1) - 1) + (-1)) (lv' := [(3, .int ((nI (n + 1) - 1) + (-1))), (2, .int ((tb_f ((cc &&& 15).toNatClampNeg)) ^^^ (X4_nibbleAt_r row (nI (n + 1) - 1)))), (0, .int row), (1, .int ct)]) hx hb dX4_checking_25 hl (k := 1) rfl rfl (by decide) rfl (fun ls hl => ?_)
    refine lv_goto (tgt := 6) hx hb dX4_checking_28 (by decide) ?_
    rw [nI_m1_m1] at hl
    exact ih n ((tb_f ((cc &&& 15).toNatClampNeg)) ^^^ (X4_nibbleAt_r row (nI (n + 1) - 1))) _ _ _ (Nat.lt_succ_self n) ⟨(by omega), hP.sub [] rfl, hD.sub [] (by decide) rfl, hS, lv_sub hl [0, 1, 2, 3] rfl, hLP⟩
def X4_check_r (row : Int32) : Int32 := X4_checking_r row (cnt_lp row 9 0)
set_option maxHeartbeats 4000000 in
set_option maxRecDepth 100000 in
theorem k_X4_check (l : Launch) (dC : Nat → ClassId) (dI : Nat → Nat → Nat) (sz : Nat) (tb : Nat) (h0 : Nat) (tol : Int32) (a1 : Nat) (a2 : Nat) (a3 : Nat) (a4 : Nat) (a5 : Nat) (fc : Int32) (le : Int64) (cal : Int64) (inf : Int32) (nib : Int32) (nc : Int32) (row : Int32)  : Met l yX4_check wsX4_check ({ frames := 2, cells := 0, slots := 0, locals := 44 }) (va_Pc [.ref h0, .int row] (prE tb (dC, dI) [] [(h0, .inr (5, [.int tol, .ref a1, .ref a2, .ref a3, .ref a4, .ref a5, .int fc, .long le, .long cal, .int inf, .int nib, .int nc]))] sz)) (va_Qi (fun (r : Int32) (_ : Unit) => r = X4_check_r row) (fun _ t => po (dC, dI) [] (va_A [(h0, .inr (5, [.int tol, .ref a1, .ref a2, .ref a3, .ref a4, .ref a5, .int fc, .long le, .long cal, .int inf, .int nib, .int nc]))] sz) [(h0, .inr (5, [.int tol, .ref a1, .ref a2, .ref a3, .ref a4, .ref a5, .int fc, .long le, .long cal, .int inf, .int nib, .int nc]))] t) (va_A [(h0, .inr (5, [.int tol, .ref a1, .ref a2, .ref a3, .ref a4, .ref a5, .int fc, .long le, .long cal, .int inf, .int nib, .int nc]))] sz)) 0 0 (va_A [(h0, .inr (5, [.int tol, .ref a1, .ref a2, .ref a3, .ref a4, .ref a5, .int fc, .long le, .long cal, .int inf, .int nib, .int nc]))] sz) := by
  refine Met.ofW (cc := cX4_check) (maxL := 3) (ret := (some .int)) (by decide) rfl ?_
  intro p e s m args below meth c s₁ B hml hv
  obtain ⟨rfl, ⟨hsz, hP, hK, hD0⟩, hE⟩ := hv
  have hx := B.exec
  have hb := B.bytes
  have hr := B.returns
  have hts := atoms_spec (ws := wsX4_check) B.pre
  have hown : s.vm.findClass RX4 = some m.cls := findClass_of_methodNamed B.named
  have hlocks := B.notSynchronized
  subst hsz
  have hD := hD0.self (sz := s.heap.size)
  generalize hAe : va_A [(h0, .inr (5, [.int tol, .ref a1, .ref a2, .ref a3, .ref a4, .ref a5, .int fc, .long le, .long cal, .int inf, .int nib, .int nc]))] s.heap.size = A at hD hE ⊢
  have hA : ∀ q : Nat, s.heap.size ≤ q → A q := fun q h => by rw [← hAe]; exact Or.inr h
  have hS : va_S A s.heap s.heap [] := va_S.rf
  have hP : va_P (dC, dI) vwCl [(h0, .inr (5, [.int tol, .ref a1, .ref a2, .ref a3, .ref a4, .ref a5, .int fc, .long le, .long cal, .int inf, .int nib, .int nc]))] s.heap := hP
  have hl := lv_entry ([.ref h0, .int row]) (n := 3) (Nat.le_of_ble_eq_true rfl)
  rw [lg_entry_eq]
  generalize (lg_sl ([.ref h0, .int row]) ++ List.replicate (3 - (lg_sl ([.ref h0, .int row])).length) Slot.unset).toArray = ls at hl ⊢
  have hl : lv_has ls 3 [(0, .ref h0), (1, .int row)] := hl
  refine lv_iconst (v := 0) hx hb dX4_check_0 (by decide) ?_
  refine lv_istore_n (lv' := [(2, .int 0), (0, .ref h0), (1, .int row)]) hx hb dX4_check_1 rfl hl (by decide) rfl (fun ls hl => ?_)
  refine lp_w (hd := 2) (σ := Nat) (fun n k H locs ls => (k ≤ 8 ∧ k + n = 9) ∧ va_P (dC, dI) vwCl [(h0, .inr (5, [.int tol, .ref a1, .ref a2, .ref a3, .ref a4, .ref a5, .int fc, .long le, .long cal, .int inf, .int nib, .int nc]))] H ∧ va_D A [(h0, .inr (5, [.int tol, .ref a1, .ref a2, .ref a3, .ref a4, .ref a5, .int fc, .long le, .long cal, .int inf, .int nib, .int nc]))] ∧ va_S A s.heap H locs ∧ lv_has ls 3 [(2, .int (nI k)), (0, .ref h0), (1, .int row)] ∧ cnt_lp row n k = cnt_lp row 9 0) ?_ 9 0 _ _ _ ⟨⟨by omega, by omega⟩, hP, hD, hS, lv_sub hl [0, 1, 2] rfl, rfl⟩
  clear hP hD hS hl
  intro n k H locs ls hI ih
  obtain ⟨hinv, hP, hD, hS, hl, hLP⟩ := hI
  obtain ⟨n, rfl⟩ : ∃ j, n = j + 1 := ⟨n - 1, by omega⟩
  refine lv_iload_n hx hb dX4_check_2 rfl (lv_at hl 0 rfl) ?_
  refine lv_bipush (v := 8) hx hb dX4_check_3 (by decide) ?_
  refine lv_icmp_ge (tgt := 22) hx hb dX4_check_5 (by decide) (fun c_1 => ?_) (fun c_1 => ?_)
  · rw [cnt_lp, if_pos c_1] at hLP
    subst hLP
    refine lv_iload_n hx hb dX4_check_22 rfl (lv_at hl 2 rfl) ?_
    refine lv_iload_n hx hb dX4_check_23 rfl (lv_at hl 0 rfl) ?_
    have hPc := hP.sub (ws' := []) [] rfl
    have hDc := hD.sub (ws' := []) [] (by decide) rfl
    have hKc := hK.sub (tys' := []) [] rfl
    have hFc := va_free (wc := []) hD hS hA [] rfl
    refine va_calli (va_runS (As := [.int row, .int (nI (cnt_lp row 9 0))]) (rest := []) ⟨hx, hb, hml, hown, hts⟩ (k_X4_checking l dC dI H.size tb row (nI (cnt_lp row 9 0)) (cnt_lp row 9 0) rfl (cnt_lp_le row 9 0 (by omega))) (va_cwS 2 hts gX4_check_X4_checking rfl rfl rfl (by decide +kernel) ⟨Nat.le_of_ble_eq_true rfl, Nat.le_of_ble_eq_true rfl⟩) ⟨prE.blind, fun U hU hW => ⟨rfl, prE.call hE hS hFc hU hW hPc hKc hDc⟩⟩ rfl rfl hl.1 rfl (lv_room (Nat.le_of_ble_eq_true rfl)) dX4_check_24 ⟨Nat.le_of_ble_eq_true rfl, Nat.le_of_ble_eq_true rfl⟩) hS (fun q _ h => hFc q h) hFc (fun r_2 u t H1 locs ht hvm hw hB hz1 hk1 hS => ?_)
    subst r_2
    obtain ⟨hP, hD⟩ := po.join (wr := [(h0, .inr (5, [.int tol, .ref a1, .ref a2, .ref a3, .ref a4, .ref a5, .int fc, .long le, .long cal, .int inf, .int nib, .int nc]))]) hP hD [] [0] rfl rfl (by decide) (by decide) hk1 hFc ht hB
    generalize H1 = H at hP hS ⊢
    clear ht hvm hB hz1 hk1 hPc hDc hKc hFc
    have hP : va_P (dC, dI) vwCl [(h0, .inr (5, [.int tol, .ref a1, .ref a2, .ref a3, .ref a4, .ref a5, .int fc, .long le, .long cal, .int inf, .int nib, .int nc]))] H := hP
    have hD : va_D A [(h0, .inr (5, [.int tol, .ref a1, .ref a2, .ref a3, .ref a4, .ref a5, .int fc, .long le, .long cal, .int inf, .int nib, .int nc]))] := hD
    refine W.widen (k := 0) (n := 0) (Nat.le_of_ble_eq_true rfl) (Nat.le_of_ble_eq_true rfl) ?_
    have hP9 : va_P (dC, dI) vwCl [(h0, .inr (5, [.int tol, .ref a1, .ref a2, .ref a3, .ref a4, .ref a5, .int fc, .long le, .long cal, .int inf, .int nib, .int nc]))] H := by exact hP.sub [0] rfl
    have hD9 : va_D A [(h0, .inr (5, [.int tol, .ref a1, .ref a2, .ref a3, .ref a4, .ref a5, .int fc, .long le, .long cal, .int inf, .int nib, .int nc]))] := by exact hD.sub [0] (by decide) rfl
    have e_3 : X4_checking_r row (cnt_lp row 9 0) = X4_check_r row := by rw [X4_check_r]
    exact W.iret (v := X4_checking_r row (cnt_lp row 9 0)) hx hb hr (fun t ht hW => ⟨⟨_, (), rfl, e_3, po.ret ht hW hP9 hK hD9⟩, hS.F ht⟩) hS.2.2 dX4_check_27
  · refine lv_iload_n hx hb dX4_check_8 rfl (lv_at hl 2 rfl) ?_
    refine lv_iconst (v := 4) hx hb dX4_check_9 (by decide) ?_
    refine lv_iload_n hx hb dX4_check_10 rfl (lv_at hl 0 rfl) ?_
    refine lv_imul hx hb dX4_check_11 ?_
    refine lv_iushr (v := ush row ((4 : Int32) * (nI k))) hx hb dX4_check_12 rfl ?_
    refine lv_if_eq (tgt := 22) hx hb dX4_check_13 (by decide) (fun c_4 => ?_) (fun c_4 => ?_)
    · rw [cnt_lp, if_neg c_1, if_pos c_4] at hLP
      subst hLP
      refine lv_iload_n hx hb dX4_check_22 rfl (lv_at hl 2 rfl) ?_
      refine lv_iload_n hx hb dX4_check_23 rfl (lv_at hl 0 rfl) ?_
      have hPc := hP.sub (ws' := []) [] rfl
      have hDc := hD.sub (ws' := []) [] (by decide) rfl
      have hKc := hK.sub (tys' := []) [] rfl
      have hFc := va_free (wc := []) hD hS hA [] rfl
      refine va_calli (va_runS (As := [.int row, .int (nI (cnt_lp row 9 0))]) (rest := []) ⟨hx, hb, hml, hown, hts⟩ (k_X4_checking l dC dI H.size tb row (nI (cnt_lp row 9 0)) (cnt_lp row 9 0) rfl (cnt_lp_le row 9 0 (by omega))) (va_cwS 2 hts gX4_check_X4_checking rfl rfl rfl (by decide +kernel) ⟨Nat.le_of_ble_eq_true rfl, Nat.le_of_ble_eq_true rfl⟩) ⟨prE.blind, fun U hU hW => ⟨rfl, prE.call hE hS hFc hU hW hPc hKc hDc⟩⟩ rfl rfl hl.1 rfl (lv_room (Nat.le_of_ble_eq_true rfl)) dX4_check_24 ⟨Nat.le_of_ble_eq_true rfl, Nat.le_of_ble_eq_true rfl⟩) hS (fun q _ h => hFc q h) hFc (fun r_5 u t H1 locs ht hvm hw hB hz1 hk1 hS => ?_)
      subst r_5
      obtain ⟨hP, hD⟩ := po.join (wr := [(h0, .inr (5, [.int tol, .ref a1, .ref a2, .ref a3, .ref a4, .ref a5, .int fc, .long le, .long cal, .int inf, .int nib, .int nc]))]) hP hD [] [0] rfl rfl (by decide) (by decide) hk1 hFc ht hB
      generalize H1 = H at hP hS ⊢
      clear ht hvm hB hz1 hk1 hPc hDc hKc hFc
      have hP : va_P (dC, dI) vwCl [(h0, .inr (5, [.int tol, .ref a1, .ref a2, .ref a3, .ref a4, .ref a5, .int fc, .long le, .long cal, .int inf, .int nib, .int nc]))] H := hP
      have hD : va_D A [(h0, .inr (5, [.int tol, .ref a1, .ref a2, .ref a3, .ref a4, .ref a5, .int fc, .long le, .long cal, .int inf, .int nib, .int nc]))] := hD
      refine W.widen (k := 0) (n := 0) (Nat.le_of_ble_eq_true rfl) (Nat.le_of_ble_eq_true rfl) ?_
      have hP9 : va_P (dC, dI) vwCl [(h0, .inr (5, [.int tol, .ref a1, .ref a2, .ref a3, .ref a4, .ref a5, .int fc, .long le, .long cal, .int inf, .int nib, .int nc]))] H := by exact hP.sub [0] rfl
      have hD9 : va_D A [(h0, .inr (5, [.int tol, .ref a1, .ref a2, .ref a3, .ref a4, .ref a5, .int fc, .long le, .long cal, .int inf, .int nib, .int nc]))] := by exact hD.sub [0] (by decide) rfl
      have e_6 : X4_checking_r row (cnt_lp row 9 0) = X4_check_r row := by rw [X4_check_r]
      exact W.iret (v := X4_checking_r row (cnt_lp row 9 0)) hx hb hr (fun t ht hW => ⟨⟨_, (), rfl, e_6, po.ret ht hW hP9 hK hD9⟩, hS.F ht⟩) hS.2.2 dX4_check_27
    · refine lv_iinc (v := (nI k) + 1) (lv' := [(2, .int ((nI k) + 1)), (0, .ref h0), (1, .int row)]) hx hb dX4_check_16 hl (k := 0) rfl rfl (by decide) rfl (fun ls hl => ?_)
      refine lv_goto (tgt := 2) hx hb dX4_check_19 (by decide) ?_
      rw [nI_1] at hl
      rw [cnt_lp, if_neg c_1, if_neg c_4] at hLP
      have hk8 : k < 8 := by
                        rcases Nat.lt_or_ge k 8 with q | q
                        · exact q
                        · exact absurd (show nI 8 ≤ nI k from nI_le q (by omega)) c_1
      exact ih n (k + 1) _ _ _ (Nat.lt_succ_self n) ⟨⟨by omega, by omega⟩, hP.sub [0] rfl, hD.sub [0] (by decide) rfl, hS, lv_sub hl [0, 1, 2] rfl, hLP⟩
