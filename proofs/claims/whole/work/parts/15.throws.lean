/-! What a throw needs beside the tables' good words: declares, castable, two statics of Throwable, the text. -/
def xa (ic : Nat) (E : String) (ns : List String) : List Cond := (vx_atS RX4 ic E ns).filter (fun w => !goodWord w)
def isDC : Cond → Bool
  | .declares _ => true
  | .castable _ _ => true
  | _ => false
theorem isDC_warm {w : Cond} (h : isDC w = true) {s U : State} (hW : s.WarmedH U.vm) (hZ : va_Nw w s) : va_Nw w U := by
  cases w <;> first | (exact hZ.warmD hW) | (exact hZ.warmC hW) | (simp [isDC] at h)
theorem isDC_tab {w : Cond} (h : isDC w = true) : w.onTables = true := by
  cases w <;> first | rfl | (simp [isDC] at h)
def ex (ic is : Nat) (E tx : String) (ns : List String) (sa : Nat) (A : Nat → Prop) (U : State) (H : Heap) : Prop := (∀ w ∈ xa ic E ns, va_Nw w U) ∧ vx_Zq Bundle.tN "UNASSIGNED_STACK" Bundle.steD A U H ∧ vx_Zq Bundle.tN "SUPPRESSED_SENTINEL" Bundle.listD A U H ∧ vk_R RX4 is tx sa U
theorem xa_all {ic : Nat} {E : String} {ns : List String} {args : Array Value} {s : State} (h1 : ∀ w ∈ (vx_atS RX4 ic E ns).filter goodWord, w.before args s = true) (h2 : ∀ w ∈ xa ic E ns, va_Nw w s) (h3 : (xa ic E ns).all isDC = true) : ∀ w ∈ vx_atS RX4 ic E ns, w.before args s = true := by
  intro w hw
  cases hg : goodWord w with
  | true => exact h1 w (List.mem_filter.mpr ⟨hw, hg⟩)
  | false =>
    have hm : w ∈ xa ic E ns := List.mem_filter.mpr ⟨hw, by rw [hg]; rfl⟩
    exact (h2 w hm).use (isDC_tab (List.all_eq_true.mp h3 w hm))
theorem ex.call {ic is : Nat} {E tx : String} {ns : List String} {sa : Nat} {A A' : Nat → Prop} {s U : State} {H : Heap} {locs : List Loc} (h3 : (xa ic E ns).all isDC = true) (h : ex ic is E tx ns sa A s s.heap) (hS : va_S A s.heap H locs) (hF : ∀ q, A' q → A q) (hU : U.heap = H) (hW : s.WarmedH U.vm) : ex ic is E tx ns sa A' U U.heap := by
  obtain ⟨g1, g2, g3, g4⟩ := h
  rw [hU]
  exact ⟨fun w hw => isDC_warm (List.all_eq_true.mp h3 w hw) hW (g1 w hw), ((g2.kept hS.2.1).narrow hF).moved hW.alike, ((g3.kept hS.2.1).narrow hF).moved hW.alike, g4.warm hW⟩
theorem ex.blind {ic is : Nat} {E tx : String} {ns : List String} {sa : Nat} {A : Nat → Prop} {U : State} {g : JFrame} {mk : MethodId} {a : Array Value} (h3 : (xa ic E ns).all isDC = true) (h : ex ic is E tx ns sa A U U.heap) : ex ic is E tx ns sa A (U.calling g mk a) (U.calling g mk a).heap := by
  obtain ⟨g1, g2, g3, g4⟩ := h
  exact ⟨fun w hw => va_Nw.same (isDC_tab (List.all_eq_true.mp h3 w hw)) (u := U) (U := U.calling g mk a) rfl (g1 w hw), g2.moved (u := U) (U := U.calling g mk a) (Vm.Alike.refl U.vm), g3.moved (u := U) (U := U.calling g mk a) (Vm.Alike.refl U.vm), g4.same (u := U) (U := U.calling g mk a) rfl⟩
def prX (ic is : Nat) (E tx : String) (ns : List String) (sa : Nat) (D : va_G) (tys : List (ClassId × FieldType)) (ws : va_W) (sz : Nat) (U : State) : Prop := pr D tys ws sz U ∧ ex ic is E tx ns sa (va_A ws sz) U U.heap
theorem prX.blind {ic is : Nat} {E tx : String} {ns : List String} {sa : Nat} {D : va_G} {tys : List (ClassId × FieldType)} {ws : va_W} {sz : Nat} {av : List Value} (h3 : (xa ic E ns).all isDC = true) : FrameBlind (va_Pc av (prX ic is E tx ns sa D tys ws sz)) :=
  fun a U g mk q => ⟨q.1, (pr.blind (av := av) a U g mk ⟨q.1, q.2.1⟩).2, ex.blind h3 q.2.2⟩
theorem prX.call {ic is : Nat} {E tx : String} {ns : List String} {sa : Nat} {D : va_G} {tys : List (ClassId × FieldType)} {ws : va_W} {A A0 : Nat → Prop} {H : Heap} {s U : State} {locs : List Loc} (h3 : (xa ic E ns).all isDC = true) (hE : ex ic is E tx ns sa A0 s s.heap) (hS : va_S A0 s.heap H locs) (hF : ∀ q, va_A ws H.size q → A0 q) (hU : U.heap = H) (hW : s.WarmedH U.vm) (hP : va_P D vwCl ws H) (hK : va_K D vwCl tys s) (hD : va_D A ws) : prX ic is E tx ns sa D tys ws H.size U :=
  ⟨pr.call hU hW hP hK hD, hE.call h3 hS hF hU hW⟩
theorem px_x {D : va_G} {tys : List (ClassId × FieldType)} {ws : va_W} {A : Nat → Prop} {H : Heap} {locs : List Loc} {s t : State} (hP : va_P D vwCl ws H) (hK : va_K D vwCl tys s) (hD : va_D A ws) (hS : va_S A s.heap H locs) (ha : s.vm.Alike t.vm) (h1 : H.size ≤ t.heap.size) (h2 : ∀ q : Nat, q < H.size → t.heap[q]? = H[q]?) : po D tys A ws t ∧ va_F A s t :=
  ⟨⟨hP.kept (fun k q hk => h2 q.1 (hP k q hk).lt), va_K.moved ha hK, hD⟩, Nat.le_trans hS.1 h1, fun q g1 g2 => (h2 q (Nat.lt_of_lt_of_le g1 hS.1)).trans (hS.2.1 q g1 g2)⟩
abbrev eN : String := "java/lang/ArrayIndexOutOfBoundsException"
abbrev nsN : List String := ["java/lang/IndexOutOfBoundsException", "java/lang/RuntimeException", "java/lang/Exception"]
abbrev eC : String := "java/lang/ArithmeticException"
abbrev nsC : List String := ["java/lang/RuntimeException", "java/lang/Exception"]
theorem dcN : (xa 80 eN nsN).all isDC = true := by decide +kernel
theorem dcC : (xa 111 eC nsC).all isDC = true := by decide +kernel
def wN : List Cond := wsX4_nibble ++ (vx_atS RX4 80 eN nsN).filter goodWord
theorem wN_1 : ∀ w ∈ wsX4_nibble, w ∈ wN := fun _ h => List.mem_append_left _ h
theorem wN_2 : ∀ w ∈ (vx_atS RX4 80 eN nsN).filter goodWord, w ∈ wN := fun _ h => List.mem_append_right _ h
theorem wC_1 : ∀ w ∈ wsX4_calibrate, w ∈ wsX4_calibrate := fun _ h => h
theorem wC_2 : ∀ w ∈ (vx_atS RX4 111 eC nsC).filter goodWord, w ∈ wsX4_calibrate := fun _ h => List.mem_cons_of_mem _ (List.mem_append_right _ h)
def X4_nibble_r (fc : Int32) (ff : Nat → Int32) (ix : Int32) : Int32 := if ix < 0 then 0 else (if 8 ≤ ix then 0 else (if (X4_hasFrame_r fc (fc - 1)) = 0 then 0 else (X4_nibbleAt_r (ff ((fc - 1).toNatClampNeg)) ((7 : Int32) - ix))))
def X4_nibble_t (fc : Int32) (ix : Int32) : Int32 := if ix < 0 then 1 else (if 8 ≤ ix then 1 else (if (X4_hasFrame_r fc (fc - 1)) = 0 then 1 else 0))
set_option maxHeartbeats 4000000 in
set_option maxRecDepth 100000 in
theorem k_X4_nibble (l : Launch) (hst : l.stackTraces = false) (dC : Nat → ClassId) (dI : Nat → Nat → Nat) (sz sa : Nat) (h0 : Nat) (tol : Int32) (a1 : Nat) (a2 : Nat) (a3 : Nat) (a4 : Nat) (a5 : Nat) (fc : Int32) (le : Int64) (cal : Int64) (inf : Int32) (nib : Int32) (nc : Int32) (cA5 : ClassId) (ff : Nat → Int32) (ix : Int32)  : vx_Met l yX4_nibble wN ({ frames := 7, cells := 1, slots := 6, locals := 95 }) (va_Pc [.ref h0, .int ix] (prX 80 78 eN "no such nibble" nsN sa (dC, dI) [(cA5, .int)] [(h0, .inr (5, [.int tol, .ref a1, .ref a2, .ref a3, .ref a4, .ref a5, .int fc, .long le, .long cal, .int inf, .int nib, .int nc])), (a5, .inl (cA5, 64, .inl ff))] sz)) (va_Qi (fun (r : Int32) (_ : Unit) => r = X4_nibble_r fc ff ix ∧ X4_nibble_t fc ix = 0) (fun _ t => po (dC, dI) [(cA5, .int)] (va_A [(h0, .inr (5, [.int tol, .ref a1, .ref a2, .ref a3, .ref a4, .ref a5, .int fc, .long le, .long cal, .int inf, .int nib, .int nc])), (a5, .inl (cA5, 64, .inl ff))] sz) [(h0, .inr (5, [.int tol, .ref a1, .ref a2, .ref a3, .ref a4, .ref a5, .int fc, .long le, .long cal, .int inf, .int nib, .int nc])), (a5, .inl (cA5, 64, .inl ff))] t) (va_A [(h0, .inr (5, [.int tol, .ref a1, .ref a2, .ref a3, .ref a4, .ref a5, .int fc, .long le, .long cal, .int inf, .int nib, .int nc])), (a5, .inl (cA5, 64, .inl ff))] sz)) (vx_X (fun _ : Unit => X4_nibble_t fc ix = 1) (fun E _ t => E = eN ∧ po (dC, dI) [(cA5, .int)] (va_A [(h0, .inr (5, [.int tol, .ref a1, .ref a2, .ref a3, .ref a4, .ref a5, .int fc, .long le, .long cal, .int inf, .int nib, .int nc])), (a5, .inl (cA5, 64, .inl ff))] sz) [(h0, .inr (5, [.int tol, .ref a1, .ref a2, .ref a3, .ref a4, .ref a5, .int fc, .long le, .long cal, .int inf, .int nib, .int nc])), (a5, .inl (cA5, 64, .inl ff))] t) (va_A [(h0, .inr (5, [.int tol, .ref a1, .ref a2, .ref a3, .ref a4, .ref a5, .int fc, .long le, .long cal, .int inf, .int nib, .int nc])), (a5, .inl (cA5, 64, .inl ff))] sz)) 1 6 (va_A [(h0, .inr (5, [.int tol, .ref a1, .ref a2, .ref a3, .ref a4, .ref a5, .int fc, .long le, .long cal, .int inf, .int nib, .int nc])), (a5, .inl (cA5, 64, .inl ff))] sz) := by
  refine vx_ofW (cc := cX4_nibble) (maxL := 2) (ret := (some .int)) (by decide) rfl ?_
  intro p e s m args below meth c s₁ B hml hnt hv
  obtain ⟨rfl, ⟨hsz, hP, hK, hD0⟩, hX⟩ := hv
  have hx := B.exec
  have hb := B.bytes
  have hr := B.returns
  have hts0 := atoms_spec (ws := wN) B.pre
  have hts : ∀ w ∈ wsX4_nibble, w.before _ s = true := fun w h => hts0 w (wN_1 w h)
  have hat : ∀ w ∈ vx_atS RX4 80 eN nsN, w.before _ s = true := fun w h => xa_all (fun w h9 => hts0 w (wN_2 w h9)) hX.1 dcN w h
  have hown : s.vm.findClass RX4 = some m.cls := findClass_of_methodNamed B.named
  have hlocks := B.notSynchronized
  subst hsz
  have hD := hD0.self (sz := s.heap.size)
  generalize hAe : va_A [(h0, .inr (5, [.int tol, .ref a1, .ref a2, .ref a3, .ref a4, .ref a5, .int fc, .long le, .long cal, .int inf, .int nib, .int nc])), (a5, .inl (cA5, 64, .inl ff))] s.heap.size = A at hD hX ⊢
  have hA : ∀ q : Nat, s.heap.size ≤ q → A q := fun q h => by rw [← hAe]; exact Or.inr h
  have hS : va_S A s.heap s.heap [] := va_S.rf
  have hP : va_P (dC, dI) vwCl [(h0, .inr (5, [.int tol, .ref a1, .ref a2, .ref a3, .ref a4, .ref a5, .int fc, .long le, .long cal, .int inf, .int nib, .int nc])), (a5, .inl (cA5, 64, .inl ff))] s.heap := hP
  have iX4 : ∀ w ∈ wsX40, w ∈ wsX4_nibble := by decide +kernel
  have hl := lv_entry ([.ref h0, .int ix]) (n := 2) (Nat.le_of_ble_eq_true rfl)
  rw [lg_entry_eq]
  generalize (lg_sl ([.ref h0, .int ix]) ++ List.replicate (2 - (lg_sl ([.ref h0, .int ix])).length) Slot.unset).toArray = ls at hl ⊢
  have hl : lv_has ls 2 [(0, .ref h0), (1, .int ix)] := hl
  refine lv_iload_n hx hb dX4_nibble_0 rfl (lv_at hl 1 rfl) ?_
  refine lv_if_lt (tgt := 23) hx hb dX4_nibble_1 (by decide) (fun c_1 => ?_) (fun c_1 => ?_)
  · have hP9 : va_P (dC, dI) vwCl [(h0, .inr (5, [.int tol, .ref a1, .ref a2, .ref a3, .ref a4, .ref a5, .int fc, .long le, .long cal, .int inf, .int nib, .int nc])), (a5, .inl (cA5, 64, .inl ff))] s.heap := hP.sub [0, 1] rfl
    have hD9 : va_D A [(h0, .inr (5, [.int tol, .ref a1, .ref a2, .ref a3, .ref a4, .ref a5, .int fc, .long le, .long cal, .int inf, .int nib, .int nc])), (a5, .inl (cA5, 64, .inl ff))] := hD.sub [0, 1] (by decide) rfl
    have e2 : X4_nibble_t fc ix = 1 := by rw [X4_nibble_t, if_pos c_1]
    exact vx_throwS (own := RX4) (cls := eN) (text := "no such nibble") (names := nsN) (sa := sa) hx hb hst hown (by decide +kernel) (by decide +kernel) (hts (.classLink RX4 76 RJx00060) (by decide +kernel)) (hts (.initialized RJx00060) (by decide +kernel)) hX.2.2.2 hat (by decide +kernel) hX.2.1 hX.2.2.1 hS (hl.1.trans hml.symm) dX4_nibble_23 dX4_nibble_26 dX4_nibble_27 dX4_nibble_29 dX4_nibble_32 (fun x hx9 => absurd (hnt x hx9) id) (Nat.le_of_ble_eq_true rfl) (Nat.le_of_ble_eq_true rfl) (Nat.le_of_ble_eq_true rfl) (Nat.le_of_ble_eq_true rfl) hlocks (fun t ha h1 h2 => ⟨(), e2, ⟨rfl, (px_x hP9 hK hD9 hS ha h1 h2).1⟩, (px_x hP9 hK hD9 hS ha h1 h2).2⟩) hS.2.2 (Nat.le_of_ble_eq_true rfl) (Nat.le_of_ble_eq_true rfl)
  · refine lv_iload_n hx hb dX4_nibble_4 rfl (lv_at hl 1 rfl) ?_
    refine lv_bipush (v := 8) hx hb dX4_nibble_5 (by decide) ?_
    refine lv_icmp_ge (tgt := 23) hx hb dX4_nibble_7 (by decide) (fun c_2 => ?_) (fun c_2 => ?_)
    · have hP9 : va_P (dC, dI) vwCl [(h0, .inr (5, [.int tol, .ref a1, .ref a2, .ref a3, .ref a4, .ref a5, .int fc, .long le, .long cal, .int inf, .int nib, .int nc])), (a5, .inl (cA5, 64, .inl ff))] s.heap := hP.sub [0, 1] rfl
      have hD9 : va_D A [(h0, .inr (5, [.int tol, .ref a1, .ref a2, .ref a3, .ref a4, .ref a5, .int fc, .long le, .long cal, .int inf, .int nib, .int nc])), (a5, .inl (cA5, 64, .inl ff))] := hD.sub [0, 1] (by decide) rfl
      have e2 : X4_nibble_t fc ix = 1 := by rw [X4_nibble_t, if_neg c_1, if_pos c_2]
      exact vx_throwS (own := RX4) (cls := eN) (text := "no such nibble") (names := nsN) (sa := sa) hx hb hst hown (by decide +kernel) (by decide +kernel) (hts (.classLink RX4 76 RJx00060) (by decide +kernel)) (hts (.initialized RJx00060) (by decide +kernel)) hX.2.2.2 hat (by decide +kernel) hX.2.1 hX.2.2.1 hS (hl.1.trans hml.symm) dX4_nibble_23 dX4_nibble_26 dX4_nibble_27 dX4_nibble_29 dX4_nibble_32 (fun x hx9 => absurd (hnt x hx9) id) (Nat.le_of_ble_eq_true rfl) (Nat.le_of_ble_eq_true rfl) (Nat.le_of_ble_eq_true rfl) (Nat.le_of_ble_eq_true rfl) hlocks (fun t ha h1 h2 => ⟨(), e2, ⟨rfl, (px_x hP9 hK hD9 hS ha h1 h2).1⟩, (px_x hP9 hK hD9 hS ha h1 h2).2⟩) hS.2.2 (Nat.le_of_ble_eq_true rfl) (Nat.le_of_ble_eq_true rfl)
    · refine lv_aload_n hx hb dX4_nibble_10 rfl (lv_at hl 0 rfl) ?_
      refine lv_aload_n hx hb dX4_nibble_11 rfl (lv_at hl 0 rfl) ?_
      refine va_get (D := (dC, dI)) (ci := 5) (v := .int fc) (C := RX4) (T := TX4) (N := 12) hx hb hts iX4 hown hK hP 0 rfl rfl 6 (by decide) (hts (.fieldLink RX4 69 "PulseRows" "frameCount" "I") (List.mem_of_getElem? (i := 1) rfl)) (fun _ h9 => h9) rfl dX4_nibble_12 ?_
      refine lv_iconst (v := 1) hx hb dX4_nibble_15 (by decide) ?_
      refine lv_isub hx hb dX4_nibble_16 ?_
      have hPc := hP.sub (ws' := [(h0, .inr (5, [.int tol, .ref a1, .ref a2, .ref a3, .ref a4, .ref a5, .int fc, .long le, .long cal, .int inf, .int nib, .int nc])), (a5, .inl (cA5, 64, .inl ff))]) [0, 1] rfl
      have hDc := hD.sub (ws' := [(h0, .inr (5, [.int tol, .ref a1, .ref a2, .ref a3, .ref a4, .ref a5, .int fc, .long le, .long cal, .int inf, .int nib, .int nc])), (a5, .inl (cA5, 64, .inl ff))]) [0, 1] (by decide) rfl
      have hKc := hK.sub (tys' := [(cA5, .int)]) [0] rfl
      have hFc := va_free (wc := [(h0, .inr (5, [.int tol, .ref a1, .ref a2, .ref a3, .ref a4, .ref a5, .int fc, .long le, .long cal, .int inf, .int nib, .int nc])), (a5, .inl (cA5, 64, .inl ff))]) hD hS hA [0, 1] rfl
      refine va_calli (va_runV (As := [.int (fc - 1)]) (rest := []) ⟨hx, hb, hml, hown, hts⟩ (k_X4_hasFrame l dC dI s.heap.size h0 tol a1 a2 a3 a4 a5 fc le cal inf nib nc cA5 ff (fc - 1)) (cwV 1 hts gX4_nibble_X4_hasFrame rfl rfl rfl (by decide +kernel) ⟨Nat.le_of_ble_eq_true rfl, Nat.le_of_ble_eq_true rfl⟩) ⟨pr.blind, va_recv hKc hPc (ci := 5) (q0 := 0) rfl rfl, fun U hU hW => ⟨rfl, pr.call hU hW hPc hKc hDc⟩⟩ rfl rfl hl.1 rfl (lv_room (Nat.le_of_ble_eq_true rfl)) dX4_nibble_17 ⟨Nat.le_of_ble_eq_true rfl, Nat.le_of_ble_eq_true rfl⟩) hS (fun q _ h => hFc q h) hFc (fun r_3 u t H1 locs ht hvm hw hB hz1 hk1 hS => ?_)
      subst r_3
      obtain ⟨hP, hD⟩ := po.join (wr := []) hP hD [0, 1] [] rfl rfl (by decide) (by decide) hk1 hFc ht hB
      generalize H1 = H at hP hS ⊢
      clear ht hvm hB hz1 hk1 hPc hDc hKc hFc
      have hP : va_P (dC, dI) vwCl [(h0, .inr (5, [.int tol, .ref a1, .ref a2, .ref a3, .ref a4, .ref a5, .int fc, .long le, .long cal, .int inf, .int nib, .int nc])), (a5, .inl (cA5, 64, .inl ff))] H := hP
      have hD : va_D A [(h0, .inr (5, [.int tol, .ref a1, .ref a2, .ref a3, .ref a4, .ref a5, .int fc, .long le, .long cal, .int inf, .int nib, .int nc])), (a5, .inl (cA5, 64, .inl ff))] := hD
      refine W.widen (k := 0) (n := 0) (Nat.le_of_ble_eq_true rfl) (Nat.le_of_ble_eq_true rfl) ?_
      refine lv_if_ne (tgt := 33) hx hb dX4_nibble_20 (by decide) (fun c_4 => ?_) (fun c_4 => ?_)
      · refine lv_aload_n hx hb dX4_nibble_33 rfl (lv_at hl 0 rfl) ?_
        refine va_get (D := (dC, dI)) (ci := 5) (v := .ref a5) (C := RX4) (T := TX4) (N := 12) hx hb hts iX4 hown hK hP 0 rfl rfl 5 (by decide) (hts (.fieldLink RX4 41 "PulseRows" "frames" "[I") (List.mem_of_getElem? (i := 5) rfl)) (fun _ h9 => h9) rfl dX4_nibble_34 ?_
        refine lv_aload_n hx hb dX4_nibble_37 rfl (lv_at hl 0 rfl) ?_
        refine va_get (D := (dC, dI)) (ci := 5) (v := .int fc) (C := RX4) (T := TX4) (N := 12) hx hb hts iX4 hown hK hP 0 rfl rfl 6 (by decide) (hts (.fieldLink RX4 69 "PulseRows" "frameCount" "I") (List.mem_of_getElem? (i := 1) rfl)) (fun _ h9 => h9) rfl dX4_nibble_38 ?_
        refine lv_iconst (v := 1) hx hb dX4_nibble_41 (by decide) ?_
        refine lv_isub hx hb dX4_nibble_42 ?_
        refine va_iald hx hb hK hP 1 0 rfl rfl (hasFrame_in c_4).1 dX4_nibble_43 ?_
        refine lv_bipush (v := 7) hx hb dX4_nibble_44 (by decide) ?_
        refine lv_iload_n hx hb dX4_nibble_46 rfl (lv_at hl 1 rfl) ?_
        refine lv_isub hx hb dX4_nibble_47 ?_
        have hPc := hP.sub (ws' := []) [] rfl
        have hDc := hD.sub (ws' := []) [] (by decide) rfl
        have hKc := hK.sub (tys' := []) [] rfl
        have hFc := va_free (wc := []) hD hS hA [] rfl
        refine va_calli (va_runS (As := [.int (ff ((fc - 1).toNatClampNeg)), .int ((7 : Int32) - ix)]) (rest := []) ⟨hx, hb, hml, hown, hts⟩ (k_X4_nibbleAt l dC dI H.size (ff ((fc - 1).toNatClampNeg)) ((7 : Int32) - ix)) (va_cwS 2 hts gX4_nibble_X4_nibbleAt rfl rfl rfl (by decide +kernel) ⟨Nat.le_of_ble_eq_true rfl, Nat.le_of_ble_eq_true rfl⟩) ⟨pr.blind, fun U hU hW => ⟨rfl, pr.call hU hW hPc hKc hDc⟩⟩ rfl rfl hl.1 rfl (lv_room (Nat.le_of_ble_eq_true rfl)) dX4_nibble_48 ⟨Nat.le_of_ble_eq_true rfl, Nat.le_of_ble_eq_true rfl⟩) hS (fun q _ h => hFc q h) hFc (fun r_5 u t H1 locs ht hvm hw hB hz1 hk1 hS => ?_)
        subst r_5
        obtain ⟨hP, hD⟩ := po.join (wr := [(h0, .inr (5, [.int tol, .ref a1, .ref a2, .ref a3, .ref a4, .ref a5, .int fc, .long le, .long cal, .int inf, .int nib, .int nc])), (a5, .inl (cA5, 64, .inl ff))]) hP hD [] [0, 1] rfl rfl (by decide) (by decide) hk1 hFc ht hB
        generalize H1 = H at hP hS ⊢
        clear ht hvm hB hz1 hk1 hPc hDc hKc hFc
        have hP : va_P (dC, dI) vwCl [(h0, .inr (5, [.int tol, .ref a1, .ref a2, .ref a3, .ref a4, .ref a5, .int fc, .long le, .long cal, .int inf, .int nib, .int nc])), (a5, .inl (cA5, 64, .inl ff))] H := hP
        have hD : va_D A [(h0, .inr (5, [.int tol, .ref a1, .ref a2, .ref a3, .ref a4, .ref a5, .int fc, .long le, .long cal, .int inf, .int nib, .int nc])), (a5, .inl (cA5, 64, .inl ff))] := hD
        refine W.widen (k := 0) (n := 0) (Nat.le_of_ble_eq_true rfl) (Nat.le_of_ble_eq_true rfl) ?_
        have hP9 : va_P (dC, dI) vwCl [(h0, .inr (5, [.int tol, .ref a1, .ref a2, .ref a3, .ref a4, .ref a5, .int fc, .long le, .long cal, .int inf, .int nib, .int nc])), (a5, .inl (cA5, 64, .inl ff))] H := hP.sub [0, 1] rfl
        have hD9 : va_D A [(h0, .inr (5, [.int tol, .ref a1, .ref a2, .ref a3, .ref a4, .ref a5, .int fc, .long le, .long cal, .int inf, .int nib, .int nc])), (a5, .inl (cA5, 64, .inl ff))] := hD.sub [0, 1] (by decide) rfl
        refine vx_ret ?_
        refine W.widen (k := 1) (n := 6) (Nat.le_of_ble_eq_true rfl) (Nat.le_of_ble_eq_true rfl) ?_
        have e1 : X4_nibbleAt_r (ff ((fc - 1).toNatClampNeg)) ((7 : Int32) - ix) = X4_nibble_r fc ff ix := by rw [X4_nibble_r, if_neg c_1, if_neg c_2, if_neg c_4]
        have e2 : X4_nibble_t fc ix = 0 := (by rw [X4_nibble_t, if_neg c_1, if_neg c_2, if_neg c_4])
        exact W.iret (v := X4_nibbleAt_r (ff ((fc - 1).toNatClampNeg)) ((7 : Int32) - ix)) hx hb hr (fun t ht hW => ⟨⟨_, (), rfl, ⟨e1, e2⟩, po.ret ht hW hP9 hK hD9⟩, hS.F ht⟩) hS.2.2 dX4_nibble_51
      · have hP9 : va_P (dC, dI) vwCl [(h0, .inr (5, [.int tol, .ref a1, .ref a2, .ref a3, .ref a4, .ref a5, .int fc, .long le, .long cal, .int inf, .int nib, .int nc])), (a5, .inl (cA5, 64, .inl ff))] H := hP.sub [0, 1] rfl
        have hD9 : va_D A [(h0, .inr (5, [.int tol, .ref a1, .ref a2, .ref a3, .ref a4, .ref a5, .int fc, .long le, .long cal, .int inf, .int nib, .int nc])), (a5, .inl (cA5, 64, .inl ff))] := hD.sub [0, 1] (by decide) rfl
        have e2 : X4_nibble_t fc ix = 1 := by rw [X4_nibble_t, if_neg c_1, if_neg c_2, if_pos c_4]
        exact vx_throwS (own := RX4) (cls := eN) (text := "no such nibble") (names := nsN) (sa := sa) hx hb hst hown (by decide +kernel) (by decide +kernel) (hts (.classLink RX4 76 RJx00060) (by decide +kernel)) (hts (.initialized RJx00060) (by decide +kernel)) hX.2.2.2 hat (by decide +kernel) hX.2.1 hX.2.2.1 hS (hl.1.trans hml.symm) dX4_nibble_23 dX4_nibble_26 dX4_nibble_27 dX4_nibble_29 dX4_nibble_32 (fun x hx9 => absurd (hnt x hx9) id) (Nat.le_of_ble_eq_true rfl) (Nat.le_of_ble_eq_true rfl) (Nat.le_of_ble_eq_true rfl) (Nat.le_of_ble_eq_true rfl) hlocks (fun t ha h1 h2 => ⟨(), e2, ⟨rfl, (px_x hP9 hK hD9 hS ha h1 h2).1⟩, (px_x hP9 hK hD9 hS ha h1 h2).2⟩) hS.2.2 (Nat.le_of_ble_eq_true rfl) (Nat.le_of_ble_eq_true rfl)
def X4_calibrate_r (tol : Int32) (cal : Int64) (len : Int64) : Int32 := if len = 0 then 0 else (if (X4_isTaken_r tol cal len) = 0 then 0 else ((56000 / len).toInt32))
def X4_calibrate_t (len : Int64) : Int32 := if len = 0 then 1 else 0
set_option maxHeartbeats 4000000 in
set_option maxRecDepth 100000 in
theorem k_X4_calibrate (l : Launch) (hst : l.stackTraces = false) (dC : Nat → ClassId) (dI : Nat → Nat → Nat) (sz sa : Nat) (h0 : Nat) (tol : Int32) (a1 : Nat) (a2 : Nat) (a3 : Nat) (a4 : Nat) (a5 : Nat) (fc : Int32) (le : Int64) (cal : Int64) (inf : Int32) (nib : Int32) (nc : Int32) (len : Int64)  : vx_Met l yX4_calibrate wsX4_calibrate ({ frames := 6, cells := 1, slots := 6, locals := 82 }) (va_Pc [.ref h0, .long len] (prX 111 109 eC "a calibration of length 0" nsC sa (dC, dI) [] [(h0, .inr (5, [.int tol, .ref a1, .ref a2, .ref a3, .ref a4, .ref a5, .int fc, .long le, .long cal, .int inf, .int nib, .int nc]))] sz)) (va_Qi (fun (r : Int32) (_ : Unit) => r = X4_calibrate_r tol cal len ∧ X4_calibrate_t len = 0) (fun _ t => po (dC, dI) [] (va_A [(h0, .inr (5, [.int tol, .ref a1, .ref a2, .ref a3, .ref a4, .ref a5, .int fc, .long le, .long cal, .int inf, .int nib, .int nc]))] sz) [(h0, .inr (5, [.int tol, .ref a1, .ref a2, .ref a3, .ref a4, .ref a5, .int fc, .long le, .long cal, .int inf, .int nib, .int nc]))] t) (va_A [(h0, .inr (5, [.int tol, .ref a1, .ref a2, .ref a3, .ref a4, .ref a5, .int fc, .long le, .long cal, .int inf, .int nib, .int nc]))] sz)) (vx_X (fun _ : Unit => X4_calibrate_t len = 1) (fun E _ t => E = eC ∧ po (dC, dI) [] (va_A [(h0, .inr (5, [.int tol, .ref a1, .ref a2, .ref a3, .ref a4, .ref a5, .int fc, .long le, .long cal, .int inf, .int nib, .int nc]))] sz) [(h0, .inr (5, [.int tol, .ref a1, .ref a2, .ref a3, .ref a4, .ref a5, .int fc, .long le, .long cal, .int inf, .int nib, .int nc]))] t) (va_A [(h0, .inr (5, [.int tol, .ref a1, .ref a2, .ref a3, .ref a4, .ref a5, .int fc, .long le, .long cal, .int inf, .int nib, .int nc]))] sz)) 1 6 (va_A [(h0, .inr (5, [.int tol, .ref a1, .ref a2, .ref a3, .ref a4, .ref a5, .int fc, .long le, .long cal, .int inf, .int nib, .int nc]))] sz) := by
  refine vx_ofW (cc := cX4_calibrate) (maxL := 3) (ret := (some .int)) (by decide) rfl ?_
  intro p e s m args below meth c s₁ B hml hnt hv
  obtain ⟨rfl, ⟨hsz, hP, hK, hD0⟩, hX⟩ := hv
  have hx := B.exec
  have hb := B.bytes
  have hr := B.returns
  have hts0 := atoms_spec (ws := wsX4_calibrate) B.pre
  have hts : ∀ w ∈ wsX4_calibrate, w.before _ s = true := fun w h => hts0 w (wC_1 w h)
  have hat : ∀ w ∈ vx_atS RX4 111 eC nsC, w.before _ s = true := fun w h => xa_all (fun w h9 => hts0 w (wC_2 w h9)) hX.1 dcC w h
  have hown : s.vm.findClass RX4 = some m.cls := findClass_of_methodNamed B.named
  have hlocks := B.notSynchronized
  subst hsz
  have hD := hD0.self (sz := s.heap.size)
  generalize hAe : va_A [(h0, .inr (5, [.int tol, .ref a1, .ref a2, .ref a3, .ref a4, .ref a5, .int fc, .long le, .long cal, .int inf, .int nib, .int nc]))] s.heap.size = A at hD hX ⊢
  have hA : ∀ q : Nat, s.heap.size ≤ q → A q := fun q h => by rw [← hAe]; exact Or.inr h
  have hS : va_S A s.heap s.heap [] := va_S.rf
  have hP : va_P (dC, dI) vwCl [(h0, .inr (5, [.int tol, .ref a1, .ref a2, .ref a3, .ref a4, .ref a5, .int fc, .long le, .long cal, .int inf, .int nib, .int nc]))] s.heap := hP
  have hl := lv_entry ([.ref h0, .long len]) (n := 3) (Nat.le_of_ble_eq_true rfl)
  rw [lg_entry_eq]
  generalize (lg_sl ([.ref h0, .long len]) ++ List.replicate (3 - (lg_sl ([.ref h0, .long len])).length) Slot.unset).toArray = ls at hl ⊢
  have hl : lv_has ls 3 [(0, .ref h0), (1, .long len)] := hl
  refine lv_lload_n hx hb dX4_calibrate_0 rfl (lv_at hl 1 rfl) ?_
  refine lv_lconst (v := 0) hx hb dX4_calibrate_1 (by decide) ?_
  refine W.lcmp hx hb dX4_calibrate_2 ?_
  refine lv_if_ne (tgt := 16) hx hb dX4_calibrate_3 (by decide) (fun c_1 => ?_) (fun c_1 => ?_)
  · rw [lg_cmp_eq] at c_1
    refine lv_aload_n hx hb dX4_calibrate_16 rfl (lv_at hl 0 rfl) ?_
    refine lv_lload_n hx hb dX4_calibrate_17 rfl (lv_at hl 1 rfl) ?_
    have hPc := hP.sub (ws' := [(h0, .inr (5, [.int tol, .ref a1, .ref a2, .ref a3, .ref a4, .ref a5, .int fc, .long le, .long cal, .int inf, .int nib, .int nc]))]) [0] rfl
    have hDc := hD.sub (ws' := [(h0, .inr (5, [.int tol, .ref a1, .ref a2, .ref a3, .ref a4, .ref a5, .int fc, .long le, .long cal, .int inf, .int nib, .int nc]))]) [0] (by decide) rfl
    have hKc := hK.sub (tys' := []) [] rfl
    have hFc := va_free (wc := [(h0, .inr (5, [.int tol, .ref a1, .ref a2, .ref a3, .ref a4, .ref a5, .int fc, .long le, .long cal, .int inf, .int nib, .int nc]))]) hD hS hA [0] rfl
    refine va_calli (va_runV (As := [.long len]) (rest := []) ⟨hx, hb, hml, hown, hts⟩ (k_X4_isTaken l dC dI s.heap.size h0 tol a1 a2 a3 a4 a5 fc le cal inf nib nc len) (cwV 1 hts gX4_calibrate_X4_isTaken rfl rfl rfl (by decide +kernel) ⟨Nat.le_of_ble_eq_true rfl, Nat.le_of_ble_eq_true rfl⟩) ⟨pr.blind, va_recv hKc hPc (ci := 5) (q0 := 0) rfl rfl, fun U hU hW => ⟨rfl, pr.call hU hW hPc hKc hDc⟩⟩ rfl rfl hl.1 rfl (lv_room (Nat.le_of_ble_eq_true rfl)) dX4_calibrate_18 ⟨Nat.le_of_ble_eq_true rfl, Nat.le_of_ble_eq_true rfl⟩) hS (fun q _ h => hFc q h) hFc (fun r_2 u t H1 locs ht hvm hw hB hz1 hk1 hS => ?_)
    subst r_2
    obtain ⟨hP, hD⟩ := po.join (wr := []) hP hD [0] [] rfl rfl (by decide) (by decide) hk1 hFc ht hB
    generalize H1 = H at hP hS ⊢
    clear ht hvm hB hz1 hk1 hPc hDc hKc hFc
    have hP : va_P (dC, dI) vwCl [(h0, .inr (5, [.int tol, .ref a1, .ref a2, .ref a3, .ref a4, .ref a5, .int fc, .long le, .long cal, .int inf, .int nib, .int nc]))] H := hP
    have hD : va_D A [(h0, .inr (5, [.int tol, .ref a1, .ref a2, .ref a3, .ref a4, .ref a5, .int fc, .long le, .long cal, .int inf, .int nib, .int nc]))] := hD
    refine W.widen (k := 0) (n := 0) (Nat.le_of_ble_eq_true rfl) (Nat.le_of_ble_eq_true rfl) ?_
    refine lv_if_eq (tgt := 33) hx hb dX4_calibrate_21 (by decide) (fun c_3 => ?_) (fun c_3 => ?_)
    · refine lv_iconst (v := 0) hx hb dX4_calibrate_33 (by decide) ?_
      have hP9 : va_P (dC, dI) vwCl [(h0, .inr (5, [.int tol, .ref a1, .ref a2, .ref a3, .ref a4, .ref a5, .int fc, .long le, .long cal, .int inf, .int nib, .int nc]))] H := hP.sub [0] rfl
      have hD9 : va_D A [(h0, .inr (5, [.int tol, .ref a1, .ref a2, .ref a3, .ref a4, .ref a5, .int fc, .long le, .long cal, .int inf, .int nib, .int nc]))] := hD.sub [0] (by decide) rfl
      refine vx_ret ?_
      refine W.widen (k := 1) (n := 6) (Nat.le_of_ble_eq_true rfl) (Nat.le_of_ble_eq_true rfl) ?_
      have e1 : (0 : Int32) = X4_calibrate_r tol cal len := by rw [X4_calibrate_r, if_neg c_1, if_pos c_3]
      have e2 : X4_calibrate_t len = 0 := (by rw [X4_calibrate_t, if_neg c_1])
      exact W.iret (v := 0) hx hb hr (fun t ht hW => ⟨⟨_, (), rfl, ⟨e1, e2⟩, po.ret ht hW hP9 hK hD9⟩, hS.F ht⟩) hS.2.2 dX4_calibrate_34
    · refine lv_ldc2 hx hb hown (hts (.constantLong RX4 115 (56000)) (List.mem_of_getElem? (i := 3) rfl)) dX4_calibrate_24 ?_
      refine lv_lload_n hx hb dX4_calibrate_27 rfl (lv_at hl 1 rfl) ?_
      refine lv_ldiv hx hb dX4_calibrate_28 (fun h9 => c_1 h9) ?_
      refine lv_l2i (v := (56000 / len).toInt32) hx hb dX4_calibrate_29 rfl ?_
      refine lv_goto (tgt := 34) hx hb dX4_calibrate_30 (by decide) ?_
      have hP9 : va_P (dC, dI) vwCl [(h0, .inr (5, [.int tol, .ref a1, .ref a2, .ref a3, .ref a4, .ref a5, .int fc, .long le, .long cal, .int inf, .int nib, .int nc]))] H := hP.sub [0] rfl
      have hD9 : va_D A [(h0, .inr (5, [.int tol, .ref a1, .ref a2, .ref a3, .ref a4, .ref a5, .int fc, .long le, .long cal, .int inf, .int nib, .int nc]))] := hD.sub [0] (by decide) rfl
      refine vx_ret ?_
      refine W.widen (k := 1) (n := 6) (Nat.le_of_ble_eq_true rfl) (Nat.le_of_ble_eq_true rfl) ?_
      have e1 : (56000 / len).toInt32 = X4_calibrate_r tol cal len := by rw [X4_calibrate_r, if_neg c_1, if_neg c_3]
      have e2 : X4_calibrate_t len = 0 := (by rw [X4_calibrate_t, if_neg c_1])
      exact W.iret (v := (56000 / len).toInt32) hx hb hr (fun t ht hW => ⟨⟨_, (), rfl, ⟨e1, e2⟩, po.ret ht hW hP9 hK hD9⟩, hS.F ht⟩) hS.2.2 dX4_calibrate_34
  · rw [lg_cmp_eq] at c_1
    have hP9 : va_P (dC, dI) vwCl [(h0, .inr (5, [.int tol, .ref a1, .ref a2, .ref a3, .ref a4, .ref a5, .int fc, .long le, .long cal, .int inf, .int nib, .int nc]))] s.heap := hP.sub [0] rfl
    have hD9 : va_D A [(h0, .inr (5, [.int tol, .ref a1, .ref a2, .ref a3, .ref a4, .ref a5, .int fc, .long le, .long cal, .int inf, .int nib, .int nc]))] := hD.sub [0] (by decide) rfl
    have e2 : X4_calibrate_t len = 1 := by rw [X4_calibrate_t, if_pos c_1]
    exact vx_throwS (own := RX4) (cls := eC) (text := "a calibration of length 0") (names := nsC) (sa := sa) hx hb hst hown (by decide +kernel) (by decide +kernel) (hts (.classLink RX4 107 "java/lang/ArithmeticException") (by decide +kernel)) (hts (.initialized "java/lang/ArithmeticException") (by decide +kernel)) hX.2.2.2 hat (by decide +kernel) hX.2.1 hX.2.2.1 hS (hl.1.trans hml.symm) dX4_calibrate_6 dX4_calibrate_9 dX4_calibrate_10 dX4_calibrate_12 dX4_calibrate_15 (fun x hx9 => absurd (hnt x hx9) id) (Nat.le_of_ble_eq_true rfl) (Nat.le_of_ble_eq_true rfl) (Nat.le_of_ble_eq_true rfl) (Nat.le_of_ble_eq_true rfl) hlocks (fun t ha h1 h2 => ⟨(), e2, ⟨rfl, (px_x hP9 hK hD9 hS ha h1 h2).1⟩, (px_x hP9 hK hD9 hS ha h1 h2).2⟩) hS.2.2 (Nat.le_of_ble_eq_true rfl) (Nat.le_of_ble_eq_true rfl)
