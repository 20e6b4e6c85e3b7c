set_option maxHeartbeats 4000000 in
set_option maxRecDepth 100000 in
theorem k_X0_init (l : Launch) (dC : Nat → ClassId) (dI : Nat → Nat → Nat) (sz : Nat) (h0 : Nat) (sta : Int32) (lvl : Int32) (snc : Int64) (tld : Int64)  : Met l yX0_init wsX0_init ({ frames := 1, cells := 0, slots := 0, locals := 12 }) (va_Pc [.ref h0] (pr (dC, dI) [] [(h0, .inr (1, [.int sta, .int lvl, .long snc, .long tld]))] sz)) (va_Qv (fun _ : Unit => True) (fun _ t => po (dC, dI) [] (va_A [(h0, .inr (1, [.int sta, .int lvl, .long snc, .long tld]))] sz) [(h0, .inr (1, [.int sta, .int lvl, .long snc, .long tld]))] t) (va_A [(h0, .inr (1, [.int sta, .int lvl, .long snc, .long tld]))] sz)) 0 0 (va_A [(h0, .inr (1, [.int sta, .int lvl, .long snc, .long tld]))] sz) := by
  refine Met.ofW (cc := cX0_init) (maxL := 1) (ret := none) (by decide) rfl ?_
  intro p e s m args below meth c s₁ B hml hv
  obtain ⟨rfl, hsz, hP, hK, hD0⟩ := hv
  have hx := B.exec
  have hb := B.bytes
  have hr := B.returns
  have hts := atoms_spec (ws := wsX0_init) B.pre
  have hown : s.vm.findClass RX0 = some m.cls := findClass_of_methodNamed B.named
  have hlocks := B.notSynchronized
  have hin : meth.name = "<init>" := (name_of_methodNamed B.named B.method).1
  subst hsz
  have hD := hD0.self (sz := s.heap.size)
  generalize hAe : va_A [(h0, .inr (1, [.int sta, .int lvl, .long snc, .long tld]))] s.heap.size = A at hD ⊢
  have hA : ∀ q : Nat, s.heap.size ≤ q → A q := fun q h => by rw [← hAe]; exact Or.inr h
  have hS : va_S A s.heap s.heap [] := va_S.rf
  have hP : va_P (dC, dI) vwCl [(h0, .inr (1, [.int sta, .int lvl, .long snc, .long tld]))] s.heap := hP
  have hl := lv_entry ([.ref h0]) (n := 1) (Nat.le_of_ble_eq_true rfl)
  rw [lg_entry_eq]
  generalize (lg_sl ([.ref h0]) ++ List.replicate (1 - (lg_sl ([.ref h0])).length) Slot.unset).toArray = ls at hl ⊢
  have hl : lv_has ls 1 [(0, .ref h0)] := hl
  refine lv_aload_n hx hb dX0_init_0 rfl (lv_at hl 0 rfl) ?_
  refine W.objInit hx hb hown (hts (.methodLink RX0 1 objectInit) (List.mem_of_getElem? (i := 1) rfl)) (hts (.instanceMethod objectInit) (List.mem_of_getElem? (i := 2) rfl)) (hts (.code objectInit ⟨#[0xb1]⟩ 1 none) (List.mem_of_getElem? (i := 3) rfl)) rfl (by rw [hml]; exact hl.1) rfl dX0_init_1 (Nat.le_of_ble_eq_true rfl) (Nat.le_of_ble_eq_true rfl) ?_
  refine W.eq (g2 := F0 m 4 ls []) rfl ?_
  have hP9 : va_P (dC, dI) vwCl [(h0, .inr (1, [.int sta, .int lvl, .long snc, .long tld]))] s.heap := by exact hP.sub [0] rfl
  have hD9 : va_D A [(h0, .inr (1, [.int sta, .int lvl, .long snc, .long tld]))] := by exact hD.sub [0] (by decide) rfl
  exact W.vret hx hb hr (fun t ht hW => ⟨⟨(), rfl, trivial, po.ret ht hW hP9 hK hD9⟩, hS.F ht⟩) hS.2.2 dX0_init_4
def X0_lastTime_r (tld : Int64) : Int64 := tld
set_option maxHeartbeats 4000000 in
set_option maxRecDepth 100000 in
theorem k_X0_lastTime (l : Launch) (dC : Nat → ClassId) (dI : Nat → Nat → Nat) (sz : Nat) (h0 : Nat) (sta : Int32) (lvl : Int32) (snc : Int64) (tld : Int64)  : Met l yX0_lastTime wsX0_lastTime ({ frames := 0, cells := 0, slots := 0, locals := 0 }) (va_Pc [.ref h0] (pr (dC, dI) [] [(h0, .inr (1, [.int sta, .int lvl, .long snc, .long tld]))] sz)) (va_Ql (fun (r : Int64) (_ : Unit) => r = X0_lastTime_r tld) (fun _ t => po (dC, dI) [] (va_A [(h0, .inr (1, [.int sta, .int lvl, .long snc, .long tld]))] sz) [(h0, .inr (1, [.int sta, .int lvl, .long snc, .long tld]))] t) (va_A [(h0, .inr (1, [.int sta, .int lvl, .long snc, .long tld]))] sz)) 0 0 (va_A [(h0, .inr (1, [.int sta, .int lvl, .long snc, .long tld]))] sz) := by
  refine Met.ofW (cc := cX0_lastTime) (maxL := 1) (ret := (some .long)) (by decide) rfl ?_
  intro p e s m args below meth c s₁ B hml hv
  obtain ⟨rfl, hsz, hP, hK, hD0⟩ := hv
  have hx := B.exec
  have hb := B.bytes
  have hr := B.returns
  have hts := atoms_spec (ws := wsX0_lastTime) B.pre
  have hown : s.vm.findClass RX0 = some m.cls := findClass_of_methodNamed B.named
  have hlocks := B.notSynchronized
  subst hsz
  have hD := hD0.self (sz := s.heap.size)
  generalize hAe : va_A [(h0, .inr (1, [.int sta, .int lvl, .long snc, .long tld]))] s.heap.size = A at hD ⊢
  have hA : ∀ q : Nat, s.heap.size ≤ q → A q := fun q h => by rw [← hAe]; exact Or.inr h
  have hS : va_S A s.heap s.heap [] := va_S.rf
  have hP : va_P (dC, dI) vwCl [(h0, .inr (1, [.int sta, .int lvl, .long snc, .long tld]))] s.heap := hP
  have iX0 : ∀ w ∈ wsX00, w ∈ wsX0_lastTime := by decide +kernel
  have hl := lv_entry ([.ref h0]) (n := 1) (Nat.le_of_ble_eq_true rfl)
  rw [lg_entry_eq]
  generalize (lg_sl ([.ref h0]) ++ List.replicate (1 - (lg_sl ([.ref h0])).length) Slot.unset).toArray = ls at hl ⊢
  have hl : lv_has ls 1 [(0, .ref h0)] := hl
  refine lv_aload_n hx hb dX0_lastTime_0 rfl (lv_at hl 0 rfl) ?_
  refine va_get (D := (dC, dI)) (ci := 1) (v := .long tld) (C := RX0) (T := TX0) (N := 4) hx hb hts iX0 hown hK hP 0 rfl rfl 3 (by decide) (hts (.fieldLink RX0 7 "PulseRows$BouncingSwitch" "toldLast" "J") (List.mem_of_getElem? (i := 1) rfl)) (fun _ h9 => h9) rfl dX0_lastTime_1 ?_
  have hP9 : va_P (dC, dI) vwCl [(h0, .inr (1, [.int sta, .int lvl, .long snc, .long tld]))] s.heap := by exact hP.sub [0] rfl
  have hD9 : va_D A [(h0, .inr (1, [.int sta, .int lvl, .long snc, .long tld]))] := by exact hD.sub [0] (by decide) rfl
  have e_1 : tld = X0_lastTime_r tld := by rw [X0_lastTime_r]
  exact W.lret (v := tld) hx hb hr (fun t ht hW => ⟨⟨_, (), rfl, e_1, po.ret ht hW hP9 hK hD9⟩, hS.F ht⟩) hS.2.2 dX0_lastTime_4
def X0_tell_state (sta : Int32) (lvl : Int32) (snc : Int64) (lev : Int32) (tm : Int64) : Int32 := if lev = lvl then (if lev = sta then sta else (if 10 ≤ (tm - snc) then lev else sta)) else (if lev = sta then sta else (if 10 ≤ (tm - tm) then lev else sta))
def X0_tell_lastLevel (lvl : Int32) (lev : Int32) : Int32 := if lev = lvl then lvl else lev
def X0_tell_levelSince (lvl : Int32) (snc : Int64) (lev : Int32) (tm : Int64) : Int64 := if lev = lvl then snc else tm
def X0_tell_toldLast (tm : Int64) : Int64 := tm
def X0_tell_r (sta : Int32) (lvl : Int32) (snc : Int64) (lev : Int32) (tm : Int64) : Int32 := if lev = lvl then (if lev = sta then 0 else (if 10 ≤ (tm - snc) then 1 else 0)) else (if lev = sta then 0 else (if 10 ≤ (tm - tm) then 1 else 0))
theorem X0_tell_r_z (sta : Int32) (lvl : Int32) (snc : Int64) (lev : Int32) (tm : Int64) (hz_lev : z01 lev) : z01 (X0_tell_r sta lvl snc lev tm) := by unfold X0_tell_r; repeat (first | split | with_reducible assumption | with_reducible exact z01_0 | with_reducible exact z01_1)
set_option maxHeartbeats 4000000 in
set_option maxRecDepth 100000 in
theorem k_X0_tell (l : Launch) (dC : Nat → ClassId) (dI : Nat → Nat → Nat) (sz : Nat) (h0 : Nat) (sta : Int32) (lvl : Int32) (snc : Int64) (tld : Int64) (lev : Int32) (tm : Int64) (hz_lev : z01 lev) : Met l yX0_tell wsX0_tell ({ frames := 0, cells := 0, slots := 0, locals := 0 }) (va_Pc [.ref h0, .int lev, .long tm] (pr (dC, dI) [] [(h0, .inr (1, [.int sta, .int lvl, .long snc, .long tld]))] sz)) (va_Qi (fun (r : Int32) (_ : Unit) => r = X0_tell_r sta lvl snc lev tm) (fun _ t => po (dC, dI) [] (va_A [(h0, .inr (1, [.int sta, .int lvl, .long snc, .long tld]))] sz) [(h0, .inr (1, [.int (X0_tell_state sta lvl snc lev tm), .int (X0_tell_lastLevel lvl lev), .long (X0_tell_levelSince lvl snc lev tm), .long (X0_tell_toldLast tm)]))] t) (va_A [(h0, .inr (1, [.int sta, .int lvl, .long snc, .long tld]))] sz)) 0 0 (va_A [(h0, .inr (1, [.int sta, .int lvl, .long snc, .long tld]))] sz) := by
  refine Met.ofW (cc := cX0_tell) (maxL := 4) (ret := (some .boolean)) (by decide) rfl ?_
  intro p e s m args below meth c s₁ B hml hv
  obtain ⟨rfl, hsz, hP, hK, hD0⟩ := hv
  have hx := B.exec
  have hb := B.bytes
  have hr := B.returns
  have hts := atoms_spec (ws := wsX0_tell) B.pre
  have hown : s.vm.findClass RX0 = some m.cls := findClass_of_methodNamed B.named
  have hlocks := B.notSynchronized
  subst hsz
  have hD := hD0.self (sz := s.heap.size)
  generalize hAe : va_A [(h0, .inr (1, [.int sta, .int lvl, .long snc, .long tld]))] s.heap.size = A at hD ⊢
  have hA : ∀ q : Nat, s.heap.size ≤ q → A q := fun q h => by rw [← hAe]; exact Or.inr h
  have hS : va_S A s.heap s.heap [] := va_S.rf
  have hP : va_P (dC, dI) vwCl [(h0, .inr (1, [.int sta, .int lvl, .long snc, .long tld]))] s.heap := hP
  have iX0 : ∀ w ∈ wsX00, w ∈ wsX0_tell := by decide +kernel
  have hl := lv_entry ([.ref h0, .int lev, .long tm]) (n := 4) (Nat.le_of_ble_eq_true rfl)
  rw [lg_entry_eq]
  generalize (lg_sl ([.ref h0, .int lev, .long tm]) ++ List.replicate (4 - (lg_sl ([.ref h0, .int lev, .long tm])).length) Slot.unset).toArray = ls at hl ⊢
  have hl : lv_has ls 4 [(0, .ref h0), (1, .int lev), (2, .long tm)] := hl
  refine lv_aload_n hx hb dX0_tell_0 rfl (lv_at hl 0 rfl) ?_
  refine lv_lload_n hx hb dX0_tell_1 rfl (lv_at hl 2 rfl) ?_
  refine va_put (D := (dC, dI)) (ci := 1) (v := .long tm) (ty := .long) (C := RX0) (T := TX0) (N := 4) hx hb hts iX0 tyX0 tyX0_ok nmX0 hown hK hP hD hS 0 rfl rfl 3 (by decide) (hts (.fieldLink RX0 7 "PulseRows$BouncingSwitch" "toldLast" "J") (List.mem_of_getElem? (i := 1) rfl)) (fun _ h9 => h9) rfl (by decide +kernel) rfl rfl (Nat.le_of_ble_eq_true rfl) dX0_tell_2 (fun H locs hP hD hS => ?_)
  have hP : va_P (dC, dI) vwCl [(h0, .inr (1, [.int sta, .int lvl, .long snc, .long tm]))] H := hP
  have hD : va_D A [(h0, .inr (1, [.int sta, .int lvl, .long snc, .long tm]))] := hD
  refine lv_iload_n hx hb dX0_tell_5 rfl (lv_at hl 1 rfl) ?_
  refine lv_aload_n hx hb dX0_tell_6 rfl (lv_at hl 0 rfl) ?_
  refine va_get (D := (dC, dI)) (ci := 1) (v := .int lvl) (C := RX0) (T := TX0) (N := 4) hx hb hts iX0 hown hK hP 0 rfl rfl 1 (by decide) (hts (.fieldLink RX0 13 "PulseRows$BouncingSwitch" "lastLevel" "Z") (List.mem_of_getElem? (i := 2) rfl)) (fun _ h9 => h9) rfl dX0_tell_7 ?_
  refine lv_icmp_eq (tgt := 23) hx hb dX0_tell_10 (by decide) (fun c_1 => ?_) (fun c_1 => ?_)
  · refine lv_iload_n hx hb dX0_tell_23 rfl (lv_at hl 1 rfl) ?_
    refine lv_aload_n hx hb dX0_tell_24 rfl (lv_at hl 0 rfl) ?_
    refine va_get (D := (dC, dI)) (ci := 1) (v := .int sta) (C := RX0) (T := TX0) (N := 4) hx hb hts iX0 hown hK hP 0 rfl rfl 0 (by decide) (hts (.fieldLink RX0 20 "PulseRows$BouncingSwitch" "state" "Z") (List.mem_of_getElem? (i := 4) rfl)) (fun _ h9 => h9) rfl dX0_tell_25 ?_
    refine lv_icmp_eq (tgt := 44) hx hb dX0_tell_28 (by decide) (fun c_2 => ?_) (fun c_2 => ?_)
    · refine lv_iconst (v := 0) hx hb dX0_tell_44 (by decide) ?_
      have e_3 : sta = X0_tell_state sta lvl snc lev tm := by rw [X0_tell_state, if_pos c_1, if_pos c_2]
      have e_4 : lvl = X0_tell_lastLevel lvl lev := by rw [X0_tell_lastLevel, if_pos c_1]
      have e_5 : snc = X0_tell_levelSince lvl snc lev tm := by rw [X0_tell_levelSince, if_pos c_1]
      have e_6 : tm = X0_tell_toldLast tm := by rw [X0_tell_toldLast]
      have hP9 : va_P (dC, dI) vwCl [(h0, .inr (1, [.int (X0_tell_state sta lvl snc lev tm), .int (X0_tell_lastLevel lvl lev), .long (X0_tell_levelSince lvl snc lev tm), .long (X0_tell_toldLast tm)]))] H := by rw [← e_3, ← e_4, ← e_5, ← e_6]; exact hP.sub [0] rfl
      have hD9 : va_D A [(h0, .inr (1, [.int (X0_tell_state sta lvl snc lev tm), .int (X0_tell_lastLevel lvl lev), .long (X0_tell_levelSince lvl snc lev tm), .long (X0_tell_toldLast tm)]))] := by rw [← e_3, ← e_4, ← e_5, ← e_6]; exact hD.sub [0] (by decide) rfl
      have e_7 : (0 : Int32) = X0_tell_r sta lvl snc lev tm := by rw [X0_tell_r, if_pos c_1, if_pos c_2]
      exact W.zret (v := 0) hx hb hr rfl (fun t ht hW => ⟨⟨_, (), rfl, e_7, po.ret ht hW hP9 hK hD9⟩, hS.F ht⟩) hS.2.2 dX0_tell_45
    · refine lv_lload_n hx hb dX0_tell_31 rfl (lv_at hl 2 rfl) ?_
      refine lv_aload_n hx hb dX0_tell_32 rfl (lv_at hl 0 rfl) ?_
      refine va_get (D := (dC, dI)) (ci := 1) (v := .long snc) (C := RX0) (T := TX0) (N := 4) hx hb hts iX0 hown hK hP 0 rfl rfl 2 (by decide) (hts (.fieldLink RX0 17 "PulseRows$BouncingSwitch" "levelSince" "J") (List.mem_of_getElem? (i := 3) rfl)) (fun _ h9 => h9) rfl dX0_tell_33 ?_
      refine lv_lsub hx hb dX0_tell_36 ?_
      refine lv_ldc2 hx hb hown (hts (.constantLong RX0 23 (10)) (List.mem_of_getElem? (i := 5) rfl)) dX0_tell_37 ?_
      refine W.lcmp hx hb dX0_tell_40 ?_
      refine lv_if_ge (tgt := 46) hx hb dX0_tell_41 (by decide) (fun c_8 => ?_) (fun c_8 => ?_)
      · rw [lg_cmp_ge] at c_8
        refine lv_aload_n hx hb dX0_tell_46 rfl (lv_at hl 0 rfl) ?_
        refine lv_iload_n hx hb dX0_tell_47 rfl (lv_at hl 1 rfl) ?_
        refine va_put (D := (dC, dI)) (ci := 1) (v := .int lev) (ty := .boolean) (C := RX0) (T := TX0) (N := 4) hx hb hts iX0 tyX0 tyX0_ok nmX0 hown hK hP hD hS 0 rfl rfl 0 (by decide) (hts (.fieldLink RX0 20 "PulseRows$BouncingSwitch" "state" "Z") (List.mem_of_getElem? (i := 4) rfl)) (fun _ h9 => h9) rfl (by decide +kernel) (hz_lev).nar (hz_lev).fit (Nat.le_of_ble_eq_true rfl) dX0_tell_48 (fun H locs hP hD hS => ?_)
        have hP : va_P (dC, dI) vwCl [(h0, .inr (1, [.int lev, .int lvl, .long snc, .long tm]))] H := hP
        have hD : va_D A [(h0, .inr (1, [.int lev, .int lvl, .long snc, .long tm]))] := hD
        refine lv_iconst (v := 1) hx hb dX0_tell_51 (by decide) ?_
        have e_9 : lev = X0_tell_state sta lvl snc lev tm := by rw [X0_tell_state, if_pos c_1, if_neg c_2, if_pos c_8]
        have e_10 : lvl = X0_tell_lastLevel lvl lev := by rw [X0_tell_lastLevel, if_pos c_1]
        have e_11 : snc = X0_tell_levelSince lvl snc lev tm := by rw [X0_tell_levelSince, if_pos c_1]
        have e_12 : tm = X0_tell_toldLast tm := by rw [X0_tell_toldLast]
        have hP9 : va_P (dC, dI) vwCl [(h0, .inr (1, [.int (X0_tell_state sta lvl snc lev tm), .int (X0_tell_lastLevel lvl lev), .long (X0_tell_levelSince lvl snc lev tm), .long (X0_tell_toldLast tm)]))] H := by rw [← e_9, ← e_10, ← e_11, ← e_12]; exact hP.sub [0] rfl
        have hD9 : va_D A [(h0, .inr (1, [.int (X0_tell_state sta lvl snc lev tm), .int (X0_tell_lastLevel lvl lev), .long (X0_tell_levelSince lvl snc lev tm), .long (X0_tell_toldLast tm)]))] := by rw [← e_9, ← e_10, ← e_11, ← e_12]; exact hD.sub [0] (by decide) rfl
        have e_13 : (1 : Int32) = X0_tell_r sta lvl snc lev tm := by rw [X0_tell_r, if_pos c_1, if_neg c_2, if_pos c_8]
        exact W.zret (v := 1) hx hb hr rfl (fun t ht hW => ⟨⟨_, (), rfl, e_13, po.ret ht hW hP9 hK hD9⟩, hS.F ht⟩) hS.2.2 dX0_tell_52
      · rw [lg_cmp_ge] at c_8
        refine lv_iconst (v := 0) hx hb dX0_tell_44 (by decide) ?_
        have e_14 : sta = X0_tell_state sta lvl snc lev tm := by rw [X0_tell_state, if_pos c_1, if_neg c_2, if_neg c_8]
        have e_15 : lvl = X0_tell_lastLevel lvl lev := by rw [X0_tell_lastLevel, if_pos c_1]
        have e_16 : snc = X0_tell_levelSince lvl snc lev tm := by rw [X0_tell_levelSince, if_pos c_1]
        have e_17 : tm = X0_tell_toldLast tm := by rw [X0_tell_toldLast]
        have hP9 : va_P (dC, dI) vwCl [(h0, .inr (1, [.int (X0_tell_state sta lvl snc lev tm), .int (X0_tell_lastLevel lvl lev), .long (X0_tell_levelSince lvl snc lev tm), .long (X0_tell_toldLast tm)]))] H := by rw [← e_14, ← e_15, ← e_16, ← e_17]; exact hP.sub [0] rfl
        have hD9 : va_D A [(h0, .inr (1, [.int (X0_tell_state sta lvl snc lev tm), .int (X0_tell_lastLevel lvl lev), .long (X0_tell_levelSince lvl snc lev tm), .long (X0_tell_toldLast tm)]))] := by rw [← e_14, ← e_15, ← e_16, ← e_17]; exact hD.sub [0] (by decide) rfl
        have e_18 : (0 : Int32) = X0_tell_r sta lvl snc lev tm := by rw [X0_tell_r, if_pos c_1, if_neg c_2, if_neg c_8]
        exact W.zret (v := 0) hx hb hr rfl (fun t ht hW => ⟨⟨_, (), rfl, e_18, po.ret ht hW hP9 hK hD9⟩, hS.F ht⟩) hS.2.2 dX0_tell_45
  · refine lv_aload_n hx hb dX0_tell_13 rfl (lv_at hl 0 rfl) ?_
    refine lv_iload_n hx hb dX0_tell_14 rfl (lv_at hl 1 rfl) ?_
    refine va_put (D := (dC, dI)) (ci := 1) (v := .int lev) (ty := .boolean) (C := RX0) (T := TX0) (N := 4) hx hb hts iX0 tyX0 tyX0_ok nmX0 hown hK hP hD hS 0 rfl rfl 1 (by decide) (hts (.fieldLink RX0 13 "PulseRows$BouncingSwitch" "lastLevel" "Z") (List.mem_of_getElem? (i := 2) rfl)) (fun _ h9 => h9) rfl (by decide +kernel) (hz_lev).nar (hz_lev).fit (Nat.le_of_ble_eq_true rfl) dX0_tell_15 (fun H locs hP hD hS => ?_)
    have hP : va_P (dC, dI) vwCl [(h0, .inr (1, [.int sta, .int lev, .long snc, .long tm]))] H := hP
    have hD : va_D A [(h0, .inr (1, [.int sta, .int lev, .long snc, .long tm]))] := hD
    refine lv_aload_n hx hb dX0_tell_18 rfl (lv_at hl 0 rfl) ?_
    refine lv_lload_n hx hb dX0_tell_19 rfl (lv_at hl 2 rfl) ?_
    refine va_put (D := (dC, dI)) (ci := 1) (v := .long tm) (ty := .long) (C := RX0) (T := TX0) (N := 4) hx hb hts iX0 tyX0 tyX0_ok nmX0 hown hK hP hD hS 0 rfl rfl 2 (by decide) (hts (.fieldLink RX0 17 "PulseRows$BouncingSwitch" "levelSince" "J") (List.mem_of_getElem? (i := 3) rfl)) (fun _ h9 => h9) rfl (by decide +kernel) rfl rfl (Nat.le_of_ble_eq_true rfl) dX0_tell_20 (fun H locs hP hD hS => ?_)
    have hP : va_P (dC, dI) vwCl [(h0, .inr (1, [.int sta, .int lev, .long tm, .long tm]))] H := hP
    have hD : va_D A [(h0, .inr (1, [.int sta, .int lev, .long tm, .long tm]))] := hD
    refine lv_iload_n hx hb dX0_tell_23 rfl (lv_at hl 1 rfl) ?_
    refine lv_aload_n hx hb dX0_tell_24 rfl (lv_at hl 0 rfl) ?_
    refine va_get (D := (dC, dI)) (ci := 1) (v := .int sta) (C := RX0) (T := TX0) (N := 4) hx hb hts iX0 hown hK hP 0 rfl rfl 0 (by decide) (hts (.fieldLink RX0 20 "PulseRows$BouncingSwitch" "state" "Z") (List.mem_of_getElem? (i := 4) rfl)) (fun _ h9 => h9) rfl dX0_tell_25 ?_
    refine lv_icmp_eq (tgt := 44) hx hb dX0_tell_28 (by decide) (fun c_19 => ?_) (fun c_19 => ?_)
    · refine lv_iconst (v := 0) hx hb dX0_tell_44 (by decide) ?_
      have e_20 : sta = X0_tell_state sta lvl snc lev tm := by rw [X0_tell_state, if_neg c_1, if_pos c_19]
      have e_21 : lev = X0_tell_lastLevel lvl lev := by rw [X0_tell_lastLevel, if_neg c_1]
      have e_22 : tm = X0_tell_levelSince lvl snc lev tm := by rw [X0_tell_levelSince, if_neg c_1]
      have e_23 : tm = X0_tell_toldLast tm := by rw [X0_tell_toldLast]
      have hP9 : va_P (dC, dI) vwCl [(h0, .inr (1, [.int (X0_tell_state sta lvl snc lev tm), .int (X0_tell_lastLevel lvl lev), .long (X0_tell_levelSince lvl snc lev tm), .long (X0_tell_toldLast tm)]))] H := by rw [← e_20, ← e_21, ← e_22, ← e_23]; exact hP.sub [0] rfl
      have hD9 : va_D A [(h0, .inr (1, [.int (X0_tell_state sta lvl snc lev tm), .int (X0_tell_lastLevel lvl lev), .long (X0_tell_levelSince lvl snc lev tm), .long (X0_tell_toldLast tm)]))] := by rw [← e_20, ← e_21, ← e_22, ← e_23]; exact hD.sub [0] (by decide) rfl
      have e_24 : (0 : Int32) = X0_tell_r sta lvl snc lev tm := by rw [X0_tell_r, if_neg c_1, if_pos c_19]
      exact W.zret (v := 0) hx hb hr rfl (fun t ht hW => ⟨⟨_, (), rfl, e_24, po.ret ht hW hP9 hK hD9⟩, hS.F ht⟩) hS.2.2 dX0_tell_45
    · refine lv_lload_n hx hb dX0_tell_31 rfl (lv_at hl 2 rfl) ?_
      refine lv_aload_n hx hb dX0_tell_32 rfl (lv_at hl 0 rfl) ?_
      refine va_get (D := (dC, dI)) (ci := 1) (v := .long tm) (C := RX0) (T := TX0) (N := 4) hx hb hts iX0 hown hK hP 0 rfl rfl 2 (by decide) (hts (.fieldLink RX0 17 "PulseRows$BouncingSwitch" "levelSince" "J") (List.mem_of_getElem? (i := 3) rfl)) (fun _ h9 => h9) rfl dX0_tell_33 ?_
      refine lv_lsub hx hb dX0_tell_36 ?_
      refine lv_ldc2 hx hb hown (hts (.constantLong RX0 23 (10)) (List.mem_of_getElem? (i := 5) rfl)) dX0_tell_37 ?_
      refine W.lcmp hx hb dX0_tell_40 ?_
      refine lv_if_ge (tgt := 46) hx hb dX0_tell_41 (by decide) (fun c_25 => ?_) (fun c_25 => ?_)
      · rw [lg_cmp_ge] at c_25
        refine lv_aload_n hx hb dX0_tell_46 rfl (lv_at hl 0 rfl) ?_
        refine lv_iload_n hx hb dX0_tell_47 rfl (lv_at hl 1 rfl) ?_
        refine va_put (D := (dC, dI)) (ci := 1) (v := .int lev) (ty := .boolean) (C := RX0) (T := TX0) (N := 4) hx hb hts iX0 tyX0 tyX0_ok nmX0 hown hK hP hD hS 0 rfl rfl 0 (by decide) (hts (.fieldLink RX0 20 "PulseRows$BouncingSwitch" "state" "Z") (List.mem_of_getElem? (i := 4) rfl)) (fun _ h9 => h9) rfl (by decide +kernel) (hz_lev).nar (hz_lev).fit (Nat.le_of_ble_eq_true rfl) dX0_tell_48 (fun H locs hP hD hS => ?_)
        have hP : va_P (dC, dI) vwCl [(h0, .inr (1, [.int lev, .int lev, .long tm, .long tm]))] H := hP
        have hD : va_D A [(h0, .inr (1, [.int lev, .int lev, .long tm, .long tm]))] := hD
        refine lv_iconst (v := 1) hx hb dX0_tell_51 (by decide) ?_
        have e_26 : lev = X0_tell_state sta lvl snc lev tm := by rw [X0_tell_state, if_neg c_1, if_neg c_19, if_pos c_25]
        have e_27 : lev = X0_tell_lastLevel lvl lev := by rw [X0_tell_lastLevel, if_neg c_1]
        have e_28 : tm = X0_tell_levelSince lvl snc lev tm := by rw [X0_tell_levelSince, if_neg c_1]
        have e_29 : tm = X0_tell_toldLast tm := by rw [X0_tell_toldLast]
        have hP9 : va_P (dC, dI) vwCl [(h0, .inr (1, [.int (X0_tell_state sta lvl snc lev tm), .int (X0_tell_lastLevel lvl lev), .long (X0_tell_levelSince lvl snc lev tm), .long (X0_tell_toldLast tm)]))] H := by rw [← e_26, ← e_27, ← e_28, ← e_29]; exact hP.sub [0] rfl
        have hD9 : va_D A [(h0, .inr (1, [.int (X0_tell_state sta lvl snc lev tm), .int (X0_tell_lastLevel lvl lev), .long (X0_tell_levelSince lvl snc lev tm), .long (X0_tell_toldLast tm)]))] := by rw [← e_26, ← e_27, ← e_28, ← e_29]; exact hD.sub [0] (by decide) rfl
        have e_30 : (1 : Int32) = X0_tell_r sta lvl snc lev tm := by rw [X0_tell_r, if_neg c_1, if_neg c_19, if_pos c_25]
        exact W.zret (v := 1) hx hb hr rfl (fun t ht hW => ⟨⟨_, (), rfl, e_30, po.ret ht hW hP9 hK hD9⟩, hS.F ht⟩) hS.2.2 dX0_tell_52
      · rw [lg_cmp_ge] at c_25
        refine lv_iconst (v := 0) hx hb dX0_tell_44 (by decide) ?_
        have e_31 : sta = X0_tell_state sta lvl snc lev tm := by rw [X0_tell_state, if_neg c_1, if_neg c_19, if_neg c_25]
        have e_32 : lev = X0_tell_lastLevel lvl lev := by rw [X0_tell_lastLevel, if_neg c_1]
        have e_33 : tm = X0_tell_levelSince lvl snc lev tm := by rw [X0_tell_levelSince, if_neg c_1]
        have e_34 : tm = X0_tell_toldLast tm := by rw [X0_tell_toldLast]
        have hP9 : va_P (dC, dI) vwCl [(h0, .inr (1, [.int (X0_tell_state sta lvl snc lev tm), .int (X0_tell_lastLevel lvl lev), .long (X0_tell_levelSince lvl snc lev tm), .long (X0_tell_toldLast tm)]))] H := by rw [← e_31, ← e_32, ← e_33, ← e_34]; exact hP.sub [0] rfl
        have hD9 : va_D A [(h0, .inr (1, [.int (X0_tell_state sta lvl snc lev tm), .int (X0_tell_lastLevel lvl lev), .long (X0_tell_levelSince lvl snc lev tm), .long (X0_tell_toldLast tm)]))] := by rw [← e_31, ← e_32, ← e_33, ← e_34]; exact hD.sub [0] (by decide) rfl
        have e_35 : (0 : Int32) = X0_tell_r sta lvl snc lev tm := by rw [X0_tell_r, if_neg c_1, if_neg c_19, if_neg c_25]
        exact W.zret (v := 0) hx hb hr rfl (fun t ht hW => ⟨⟨_, (), rfl, e_35, po.ret ht hW hP9 hK hD9⟩, hS.F ht⟩) hS.2.2 dX0_tell_45
set_option maxHeartbeats 4000000 in
set_option maxRecDepth 100000 in
theorem k_X1_init (l : Launch) (dC : Nat → ClassId) (dI : Nat → Nat → Nat) (sz : Nat) (h0 : Nat) (cnt : Int32) (str : Int32) (mk : Int32)  : Met l yX1_init wsX1_init ({ frames := 1, cells := 0, slots := 0, locals := 12 }) (va_Pc [.ref h0] (pr (dC, dI) [] [(h0, .inr (2, [.int cnt, .int str, .int mk]))] sz)) (va_Qv (fun _ : Unit => True) (fun _ t => po (dC, dI) [] (va_A [(h0, .inr (2, [.int cnt, .int str, .int mk]))] sz) [(h0, .inr (2, [.int cnt, .int str, .int mk]))] t) (va_A [(h0, .inr (2, [.int cnt, .int str, .int mk]))] sz)) 0 0 (va_A [(h0, .inr (2, [.int cnt, .int str, .int mk]))] sz) := by
  refine Met.ofW (cc := cX1_init) (maxL := 1) (ret := none) (by decide) rfl ?_
  intro p e s m args below meth c s₁ B hml hv
  obtain ⟨rfl, hsz, hP, hK, hD0⟩ := hv
  have hx := B.exec
  have hb := B.bytes
  have hr := B.returns
  have hts := atoms_spec (ws := wsX1_init) B.pre
  have hown : s.vm.findClass RX1 = some m.cls := findClass_of_methodNamed B.named
  have hlocks := B.notSynchronized
  have hin : meth.name = "<init>" := (name_of_methodNamed B.named B.method).1
  subst hsz
  have hD := hD0.self (sz := s.heap.size)
  generalize hAe : va_A [(h0, .inr (2, [.int cnt, .int str, .int mk]))] s.heap.size = A at hD ⊢
  have hA : ∀ q : Nat, s.heap.size ≤ q → A q := fun q h => by rw [← hAe]; exact Or.inr h
  have hS : va_S A s.heap s.heap [] := va_S.rf
  have hP : va_P (dC, dI) vwCl [(h0, .inr (2, [.int cnt, .int str, .int mk]))] s.heap := hP
  have hl := lv_entry ([.ref h0]) (n := 1) (Nat.le_of_ble_eq_true rfl)
  rw [lg_entry_eq]
  generalize (lg_sl ([.ref h0]) ++ List.replicate (1 - (lg_sl ([.ref h0])).length) Slot.unset).toArray = ls at hl ⊢
  have hl : lv_has ls 1 [(0, .ref h0)] := hl
  refine lv_aload_n hx hb dX1_init_0 rfl (lv_at hl 0 rfl) ?_
  refine W.objInit hx hb hown (hts (.methodLink RX1 1 objectInit) (List.mem_of_getElem? (i := 1) rfl)) (hts (.instanceMethod objectInit) (List.mem_of_getElem? (i := 2) rfl)) (hts (.code objectInit ⟨#[0xb1]⟩ 1 none) (List.mem_of_getElem? (i := 3) rfl)) rfl (by rw [hml]; exact hl.1) rfl dX1_init_1 (Nat.le_of_ble_eq_true rfl) (Nat.le_of_ble_eq_true rfl) ?_
  refine W.eq (g2 := F0 m 4 ls []) rfl ?_
  have hP9 : va_P (dC, dI) vwCl [(h0, .inr (2, [.int cnt, .int str, .int mk]))] s.heap := by exact hP.sub [0] rfl
  have hD9 : va_D A [(h0, .inr (2, [.int cnt, .int str, .int mk]))] := by exact hD.sub [0] (by decide) rfl
  exact W.vret hx hb hr (fun t ht hW => ⟨⟨(), rfl, trivial, po.ret ht hW hP9 hK hD9⟩, hS.F ht⟩) hS.2.2 dX1_init_4
def X1_add_count (cnt : Int32) : Int32 := cnt + 1
def X1_add_streak (str : Int32) : Int32 := str + 1
def X1_add_mark (str : Int32) (mk : Int32) : Int32 := if (str + 1) < 3 then mk else 1
set_option maxHeartbeats 4000000 in
set_option maxRecDepth 100000 in
theorem k_X1_add (l : Launch) (dC : Nat → ClassId) (dI : Nat → Nat → Nat) (sz : Nat) (h0 : Nat) (cnt : Int32) (str : Int32) (mk : Int32)  : Met l yX1_add wsX1_add ({ frames := 0, cells := 0, slots := 0, locals := 0 }) (va_Pc [.ref h0] (pr (dC, dI) [] [(h0, .inr (2, [.int cnt, .int str, .int mk]))] sz)) (va_Qv (fun _ : Unit => True) (fun _ t => po (dC, dI) [] (va_A [(h0, .inr (2, [.int cnt, .int str, .int mk]))] sz) [(h0, .inr (2, [.int (X1_add_count cnt), .int (X1_add_streak str), .int (X1_add_mark str mk)]))] t) (va_A [(h0, .inr (2, [.int cnt, .int str, .int mk]))] sz)) 0 0 (va_A [(h0, .inr (2, [.int cnt, .int str, .int mk]))] sz) := by
  refine Met.ofW (cc := cX1_add) (maxL := 1) (ret := none) (by decide) rfl ?_
  intro p e s m args below meth c s₁ B hml hv
  obtain ⟨rfl, hsz, hP, hK, hD0⟩ := hv
  have hx := B.exec
  have hb := B.bytes
  have hr := B.returns
  have hts := atoms_spec (ws := wsX1_add) B.pre
  have hown : s.vm.findClass RX1 = some m.cls := findClass_of_methodNamed B.named
  have hlocks := B.notSynchronized
  subst hsz
  have hD := hD0.self (sz := s.heap.size)
  generalize hAe : va_A [(h0, .inr (2, [.int cnt, .int str, .int mk]))] s.heap.size = A at hD ⊢
  have hA : ∀ q : Nat, s.heap.size ≤ q → A q := fun q h => by rw [← hAe]; exact Or.inr h
  have hS : va_S A s.heap s.heap [] := va_S.rf
  have hP : va_P (dC, dI) vwCl [(h0, .inr (2, [.int cnt, .int str, .int mk]))] s.heap := hP
  have iX1 : ∀ w ∈ wsX10, w ∈ wsX1_add := by decide +kernel
  have hl := lv_entry ([.ref h0]) (n := 1) (Nat.le_of_ble_eq_true rfl)
  rw [lg_entry_eq]
  generalize (lg_sl ([.ref h0]) ++ List.replicate (1 - (lg_sl ([.ref h0])).length) Slot.unset).toArray = ls at hl ⊢
  have hl : lv_has ls 1 [(0, .ref h0)] := hl
  refine lv_aload_n hx hb dX1_add_0 rfl (lv_at hl 0 rfl) ?_
  refine lv_dup hx hb dX1_add_1 rfl ?_
  refine va_get (D := (dC, dI)) (ci := 2) (v := .int cnt) (C := RX1) (T := TX1) (N := 3) hx hb hts iX1 hown hK hP 0 rfl rfl 0 (by decide) (hts (.fieldLink RX1 7 "PulseRows$FaultLog" "count" "I") (List.mem_of_getElem? (i := 1) rfl)) (fun _ h9 => h9) rfl dX1_add_2 ?_
  refine lv_iconst (v := 1) hx hb dX1_add_5 (by decide) ?_
  refine lv_iadd hx hb dX1_add_6 ?_
  refine va_put (D := (dC, dI)) (ci := 2) (v := .int (cnt + 1)) (ty := .int) (C := RX1) (T := TX1) (N := 3) hx hb hts iX1 tyX1 tyX1_ok nmX1 hown hK hP hD hS 0 rfl rfl 0 (by decide) (hts (.fieldLink RX1 7 "PulseRows$FaultLog" "count" "I") (List.mem_of_getElem? (i := 1) rfl)) (fun _ h9 => h9) rfl (by decide +kernel) rfl rfl (Nat.le_of_ble_eq_true rfl) dX1_add_7 (fun H locs hP hD hS => ?_)
  have hP : va_P (dC, dI) vwCl [(h0, .inr (2, [.int (cnt + 1), .int str, .int mk]))] H := hP
  have hD : va_D A [(h0, .inr (2, [.int (cnt + 1), .int str, .int mk]))] := hD
  refine lv_aload_n hx hb dX1_add_10 rfl (lv_at hl 0 rfl) ?_
  refine lv_dup hx hb dX1_add_11 rfl ?_
  refine va_get (D := (dC, dI)) (ci := 2) (v := .int str) (C := RX1) (T := TX1) (N := 3) hx hb hts iX1 hown hK hP 0 rfl rfl 1 (by decide) (hts (.fieldLink RX1 13 "PulseRows$FaultLog" "streak" "I") (List.mem_of_getElem? (i := 2) rfl)) (fun _ h9 => h9) rfl dX1_add_12 ?_
  refine lv_iconst (v := 1) hx hb dX1_add_15 (by decide) ?_
  refine lv_iadd hx hb dX1_add_16 ?_
  refine va_put (D := (dC, dI)) (ci := 2) (v := .int (str + 1)) (ty := .int) (C := RX1) (T := TX1) (N := 3) hx hb hts iX1 tyX1 tyX1_ok nmX1 hown hK hP hD hS 0 rfl rfl 1 (by decide) (hts (.fieldLink RX1 13 "PulseRows$FaultLog" "streak" "I") (List.mem_of_getElem? (i := 2) rfl)) (fun _ h9 => h9) rfl (by decide +kernel) rfl rfl (Nat.le_of_ble_eq_true rfl) dX1_add_17 (fun H locs hP hD hS => ?_)
  have hP : va_P (dC, dI) vwCl [(h0, .inr (2, [.int (cnt + 1), .int (str + 1), .int mk]))] H := hP
  have hD : va_D A [(h0, .inr (2, [.int (cnt + 1), .int (str + 1), .int mk]))] := hD
  refine lv_aload_n hx hb dX1_add_20 rfl (lv_at hl 0 rfl) ?_
  refine va_get (D := (dC, dI)) (ci := 2) (v := .int (str + 1)) (C := RX1) (T := TX1) (N := 3) hx hb hts iX1 hown hK hP 0 rfl rfl 1 (by decide) (hts (.fieldLink RX1 13 "PulseRows$FaultLog" "streak" "I") (List.mem_of_getElem? (i := 2) rfl)) (fun _ h9 => h9) rfl dX1_add_21 ?_
  refine lv_iconst (v := 3) hx hb dX1_add_24 (by decide) ?_
  refine lv_icmp_lt (tgt := 33) hx hb dX1_add_25 (by decide) (fun c_1 => ?_) (fun c_1 => ?_)
  · have e_2 : cnt + 1 = X1_add_count cnt := by rw [X1_add_count]
    have e_3 : str + 1 = X1_add_streak str := by rw [X1_add_streak]
    have e_4 : mk = X1_add_mark str mk := by rw [X1_add_mark, if_pos c_1]
    have hP9 : va_P (dC, dI) vwCl [(h0, .inr (2, [.int (X1_add_count cnt), .int (X1_add_streak str), .int (X1_add_mark str mk)]))] H := by rw [← e_2, ← e_3, ← e_4]; exact hP.sub [0] rfl
    have hD9 : va_D A [(h0, .inr (2, [.int (X1_add_count cnt), .int (X1_add_streak str), .int (X1_add_mark str mk)]))] := by rw [← e_2, ← e_3, ← e_4]; exact hD.sub [0] (by decide) rfl
    exact W.vret hx hb hr (fun t ht hW => ⟨⟨(), rfl, trivial, po.ret ht hW hP9 hK hD9⟩, hS.F ht⟩) hS.2.2 dX1_add_33
  · refine lv_aload_n hx hb dX1_add_28 rfl (lv_at hl 0 rfl) ?_
    refine lv_iconst (v := 1) hx hb dX1_add_29 (by decide) ?_
    refine va_put (D := (dC, dI)) (ci := 2) (v := .int 1) (ty := .boolean) (C := RX1) (T := TX1) (N := 3) hx hb hts iX1 tyX1 tyX1_ok nmX1 hown hK hP hD hS 0 rfl rfl 2 (by decide) (hts (.fieldLink RX1 16 "PulseRows$FaultLog" "mark" "Z") (List.mem_of_getElem? (i := 3) rfl)) (fun _ h9 => h9) rfl (by decide +kernel) rfl rfl (Nat.le_of_ble_eq_true rfl) dX1_add_30 (fun H locs hP hD hS => ?_)
    have hP : va_P (dC, dI) vwCl [(h0, .inr (2, [.int (cnt + 1), .int (str + 1), .int 1]))] H := hP
    have hD : va_D A [(h0, .inr (2, [.int (cnt + 1), .int (str + 1), .int 1]))] := hD
    have e_5 : cnt + 1 = X1_add_count cnt := by rw [X1_add_count]
    have e_6 : str + 1 = X1_add_streak str := by rw [X1_add_streak]
    have e_7 : (1 : Int32) = X1_add_mark str mk := by rw [X1_add_mark, if_neg c_1]
    have hP9 : va_P (dC, dI) vwCl [(h0, .inr (2, [.int (X1_add_count cnt), .int (X1_add_streak str), .int (X1_add_mark str mk)]))] H := by rw [← e_5, ← e_6, ← e_7]; exact hP.sub [0] rfl
    have hD9 : va_D A [(h0, .inr (2, [.int (X1_add_count cnt), .int (X1_add_streak str), .int (X1_add_mark str mk)]))] := by rw [← e_5, ← e_6, ← e_7]; exact hD.sub [0] (by decide) rfl
    exact W.vret hx hb hr (fun t ht hW => ⟨⟨(), rfl, trivial, po.ret ht hW hP9 hK hD9⟩, hS.F ht⟩) hS.2.2 dX1_add_33
set_option maxHeartbeats 4000000 in
set_option maxRecDepth 100000 in
theorem k_X1_endStreak (l : Launch) (dC : Nat → ClassId) (dI : Nat → Nat → Nat) (sz : Nat) (h0 : Nat) (cnt : Int32) (str : Int32) (mk : Int32)  : Met l yX1_endStreak wsX1_endStreak ({ frames := 0, cells := 0, slots := 0, locals := 0 }) (va_Pc [.ref h0] (pr (dC, dI) [] [(h0, .inr (2, [.int cnt, .int str, .int mk]))] sz)) (va_Qv (fun _ : Unit => True) (fun _ t => po (dC, dI) [] (va_A [(h0, .inr (2, [.int cnt, .int str, .int mk]))] sz) [(h0, .inr (2, [.int cnt, .int 0, .int mk]))] t) (va_A [(h0, .inr (2, [.int cnt, .int str, .int mk]))] sz)) 0 0 (va_A [(h0, .inr (2, [.int cnt, .int str, .int mk]))] sz) := by
  refine Met.ofW (cc := cX1_endStreak) (maxL := 1) (ret := none) (by decide) rfl ?_
  intro p e s m args below meth c s₁ B hml hv
  obtain ⟨rfl, hsz, hP, hK, hD0⟩ := hv
  have hx := B.exec
  have hb := B.bytes
  have hr := B.returns
  have hts := atoms_spec (ws := wsX1_endStreak) B.pre
  have hown : s.vm.findClass RX1 = some m.cls := findClass_of_methodNamed B.named
  have hlocks := B.notSynchronized
  subst hsz
  have hD := hD0.self (sz := s.heap.size)
  generalize hAe : va_A [(h0, .inr (2, [.int cnt, .int str, .int mk]))] s.heap.size = A at hD ⊢
  have hA : ∀ q : Nat, s.heap.size ≤ q → A q := fun q h => by rw [← hAe]; exact Or.inr h
  have hS : va_S A s.heap s.heap [] := va_S.rf
  have hP : va_P (dC, dI) vwCl [(h0, .inr (2, [.int cnt, .int str, .int mk]))] s.heap := hP
  have iX1 : ∀ w ∈ wsX10, w ∈ wsX1_endStreak := by decide +kernel
  have hl := lv_entry ([.ref h0]) (n := 1) (Nat.le_of_ble_eq_true rfl)
  rw [lg_entry_eq]
  generalize (lg_sl ([.ref h0]) ++ List.replicate (1 - (lg_sl ([.ref h0])).length) Slot.unset).toArray = ls at hl ⊢
  have hl : lv_has ls 1 [(0, .ref h0)] := hl
  refine lv_aload_n hx hb dX1_endStreak_0 rfl (lv_at hl 0 rfl) ?_
  refine lv_iconst (v := 0) hx hb dX1_endStreak_1 (by decide) ?_
  refine va_put (D := (dC, dI)) (ci := 2) (v := .int 0) (ty := .int) (C := RX1) (T := TX1) (N := 3) hx hb hts iX1 tyX1 tyX1_ok nmX1 hown hK hP hD hS 0 rfl rfl 1 (by decide) (hts (.fieldLink RX1 13 "PulseRows$FaultLog" "streak" "I") (List.mem_of_getElem? (i := 1) rfl)) (fun _ h9 => h9) rfl (by decide +kernel) rfl rfl (Nat.le_of_ble_eq_true rfl) dX1_endStreak_2 (fun H locs hP hD hS => ?_)
  have hP : va_P (dC, dI) vwCl [(h0, .inr (2, [.int cnt, .int 0, .int mk]))] H := hP
  have hD : va_D A [(h0, .inr (2, [.int cnt, .int 0, .int mk]))] := hD
  have hP9 : va_P (dC, dI) vwCl [(h0, .inr (2, [.int cnt, .int 0, .int mk]))] H := by exact hP.sub [0] rfl
  have hD9 : va_D A [(h0, .inr (2, [.int cnt, .int 0, .int mk]))] := by exact hD.sub [0] (by decide) rfl
  exact W.vret hx hb hr (fun t ht hW => ⟨⟨(), rfl, trivial, po.ret ht hW hP9 hK hD9⟩, hS.F ht⟩) hS.2.2 dX1_endStreak_5
def X1_total_r (cnt : Int32) : Int32 := cnt
set_option maxHeartbeats 4000000 in
set_option maxRecDepth 100000 in
theorem k_X1_total (l : Launch) (dC : Nat → ClassId) (dI : Nat → Nat → Nat) (sz : Nat) (h0 : Nat) (cnt : Int32) (str : Int32) (mk : Int32)  : Met l yX1_total wsX1_total ({ frames := 0, cells := 0, slots := 0, locals := 0 }) (va_Pc [.ref h0] (pr (dC, dI) [] [(h0, .inr (2, [.int cnt, .int str, .int mk]))] sz)) (va_Qi (fun (r : Int32) (_ : Unit) => r = X1_total_r cnt) (fun _ t => po (dC, dI) [] (va_A [(h0, .inr (2, [.int cnt, .int str, .int mk]))] sz) [(h0, .inr (2, [.int cnt, .int str, .int mk]))] t) (va_A [(h0, .inr (2, [.int cnt, .int str, .int mk]))] sz)) 0 0 (va_A [(h0, .inr (2, [.int cnt, .int str, .int mk]))] sz) := by
  refine Met.ofW (cc := cX1_total) (maxL := 1) (ret := (some .int)) (by decide) rfl ?_
  intro p e s m args below meth c s₁ B hml hv
  obtain ⟨rfl, hsz, hP, hK, hD0⟩ := hv
  have hx := B.exec
  have hb := B.bytes
  have hr := B.returns
  have hts := atoms_spec (ws := wsX1_total) B.pre
  have hown : s.vm.findClass RX1 = some m.cls := findClass_of_methodNamed B.named
  have hlocks := B.notSynchronized
  subst hsz
  have hD := hD0.self (sz := s.heap.size)
  generalize hAe : va_A [(h0, .inr (2, [.int cnt, .int str, .int mk]))] s.heap.size = A at hD ⊢
  have hA : ∀ q : Nat, s.heap.size ≤ q → A q := fun q h => by rw [← hAe]; exact Or.inr h
  have hS : va_S A s.heap s.heap [] := va_S.rf
  have hP : va_P (dC, dI) vwCl [(h0, .inr (2, [.int cnt, .int str, .int mk]))] s.heap := hP
  have iX1 : ∀ w ∈ wsX10, w ∈ wsX1_total := by decide +kernel
  have hl := lv_entry ([.ref h0]) (n := 1) (Nat.le_of_ble_eq_true rfl)
  rw [lg_entry_eq]
  generalize (lg_sl ([.ref h0]) ++ List.replicate (1 - (lg_sl ([.ref h0])).length) Slot.unset).toArray = ls at hl ⊢
  have hl : lv_has ls 1 [(0, .ref h0)] := hl
  refine lv_aload_n hx hb dX1_total_0 rfl (lv_at hl 0 rfl) ?_
  refine va_get (D := (dC, dI)) (ci := 2) (v := .int cnt) (C := RX1) (T := TX1) (N := 3) hx hb hts iX1 hown hK hP 0 rfl rfl 0 (by decide) (hts (.fieldLink RX1 7 "PulseRows$FaultLog" "count" "I") (List.mem_of_getElem? (i := 1) rfl)) (fun _ h9 => h9) rfl dX1_total_1 ?_
  have hP9 : va_P (dC, dI) vwCl [(h0, .inr (2, [.int cnt, .int str, .int mk]))] s.heap := by exact hP.sub [0] rfl
  have hD9 : va_D A [(h0, .inr (2, [.int cnt, .int str, .int mk]))] := by exact hD.sub [0] (by decide) rfl
  have e_1 : cnt = X1_total_r cnt := by rw [X1_total_r]
  exact W.iret (v := cnt) hx hb hr (fun t ht hW => ⟨⟨_, (), rfl, e_1, po.ret ht hW hP9 hK hD9⟩, hS.F ht⟩) hS.2.2 dX1_total_4
def X1_hasMark_r (mk : Int32) : Int32 := mk
theorem X1_hasMark_r_z (mk : Int32) (hz_mk : z01 mk) : z01 (X1_hasMark_r mk) := by unfold X1_hasMark_r; repeat (first | split | with_reducible assumption | with_reducible exact z01_0 | with_reducible exact z01_1 | with_reducible exact X0_tell_r_z _ _ _ _ _ (by assumption))
set_option maxHeartbeats 4000000 in
set_option maxRecDepth 100000 in
theorem k_X1_hasMark (l : Launch) (dC : Nat → ClassId) (dI : Nat → Nat → Nat) (sz : Nat) (h0 : Nat) (cnt : Int32) (str : Int32) (mk : Int32) (hz_mk : z01 mk) : Met l yX1_hasMark wsX1_hasMark ({ frames := 0, cells := 0, slots := 0, locals := 0 }) (va_Pc [.ref h0] (pr (dC, dI) [] [(h0, .inr (2, [.int cnt, .int str, .int mk]))] sz)) (va_Qi (fun (r : Int32) (_ : Unit) => r = X1_hasMark_r mk) (fun _ t => po (dC, dI) [] (va_A [(h0, .inr (2, [.int cnt, .int str, .int mk]))] sz) [(h0, .inr (2, [.int cnt, .int str, .int mk]))] t) (va_A [(h0, .inr (2, [.int cnt, .int str, .int mk]))] sz)) 0 0 (va_A [(h0, .inr (2, [.int cnt, .int str, .int mk]))] sz) := by
  refine Met.ofW (cc := cX1_hasMark) (maxL := 1) (ret := (some .boolean)) (by decide) rfl ?_
  intro p e s m args below meth c s₁ B hml hv
  obtain ⟨rfl, hsz, hP, hK, hD0⟩ := hv
  have hx := B.exec
  have hb := B.bytes
  have hr := B.returns
  have hts := atoms_spec (ws := wsX1_hasMark) B.pre
  have hown : s.vm.findClass RX1 = some m.cls := findClass_of_methodNamed B.named
  have hlocks := B.notSynchronized
  subst hsz
  have hD := hD0.self (sz := s.heap.size)
  generalize hAe : va_A [(h0, .inr (2, [.int cnt, .int str, .int mk]))] s.heap.size = A at hD ⊢
  have hA : ∀ q : Nat, s.heap.size ≤ q → A q := fun q h => by rw [← hAe]; exact Or.inr h
  have hS : va_S A s.heap s.heap [] := va_S.rf
  have hP : va_P (dC, dI) vwCl [(h0, .inr (2, [.int cnt, .int str, .int mk]))] s.heap := hP
  have iX1 : ∀ w ∈ wsX10, w ∈ wsX1_hasMark := by decide +kernel
  have hl := lv_entry ([.ref h0]) (n := 1) (Nat.le_of_ble_eq_true rfl)
  rw [lg_entry_eq]
  generalize (lg_sl ([.ref h0]) ++ List.replicate (1 - (lg_sl ([.ref h0])).length) Slot.unset).toArray = ls at hl ⊢
  have hl : lv_has ls 1 [(0, .ref h0)] := hl
  refine lv_aload_n hx hb dX1_hasMark_0 rfl (lv_at hl 0 rfl) ?_
  refine va_get (D := (dC, dI)) (ci := 2) (v := .int mk) (C := RX1) (T := TX1) (N := 3) hx hb hts iX1 hown hK hP 0 rfl rfl 2 (by decide) (hts (.fieldLink RX1 16 "PulseRows$FaultLog" "mark" "Z") (List.mem_of_getElem? (i := 1) rfl)) (fun _ h9 => h9) rfl dX1_hasMark_1 ?_
  have hP9 : va_P (dC, dI) vwCl [(h0, .inr (2, [.int cnt, .int str, .int mk]))] s.heap := by exact hP.sub [0] rfl
  have hD9 : va_D A [(h0, .inr (2, [.int cnt, .int str, .int mk]))] := by exact hD.sub [0] (by decide) rfl
  have e_1 : mk = X1_hasMark_r mk := by rw [X1_hasMark_r]
  exact W.zret (v := mk) hx hb hr (hz_mk).nar (fun t ht hW => ⟨⟨_, (), rfl, e_1, po.ret ht hW hP9 hK hD9⟩, hS.F ht⟩) hS.2.2 dX1_hasMark_4
set_option maxHeartbeats 4000000 in
set_option maxRecDepth 100000 in
theorem k_X2_dropRow (l : Launch) (dC : Nat → ClassId) (dI : Nat → Nat → Nat) (sz : Nat) (h0 : Nat) (a6 : Nat) (mcn : Int32) (bts : Int32) (bc : Int32)  : Met l yX2_dropRow wsX2_dropRow ({ frames := 0, cells := 0, slots := 0, locals := 0 }) (va_Pc [.ref h0] (pr (dC, dI) [] [(h0, .inr (3, [.ref a6, .int mcn, .int bts, .int bc]))] sz)) (va_Qv (fun _ : Unit => True) (fun _ t => po (dC, dI) [] (va_A [(h0, .inr (3, [.ref a6, .int mcn, .int bts, .int bc]))] sz) [(h0, .inr (3, [.ref a6, .int mcn, .int 0, .int 0]))] t) (va_A [(h0, .inr (3, [.ref a6, .int mcn, .int bts, .int bc]))] sz)) 0 0 (va_A [(h0, .inr (3, [.ref a6, .int mcn, .int bts, .int bc]))] sz) := by
  refine Met.ofW (cc := cX2_dropRow) (maxL := 1) (ret := none) (by decide) rfl ?_
  intro p e s m args below meth c s₁ B hml hv
  obtain ⟨rfl, hsz, hP, hK, hD0⟩ := hv
  have hx := B.exec
  have hb := B.bytes
  have hr := B.returns
  have hts := atoms_spec (ws := wsX2_dropRow) B.pre
  have hown : s.vm.findClass RX2 = some m.cls := findClass_of_methodNamed B.named
  have hlocks := B.notSynchronized
  subst hsz
  have hD := hD0.self (sz := s.heap.size)
  generalize hAe : va_A [(h0, .inr (3, [.ref a6, .int mcn, .int bts, .int bc]))] s.heap.size = A at hD ⊢
  have hA : ∀ q : Nat, s.heap.size ≤ q → A q := fun q h => by rw [← hAe]; exact Or.inr h
  have hS : va_S A s.heap s.heap [] := va_S.rf
  have hP : va_P (dC, dI) vwCl [(h0, .inr (3, [.ref a6, .int mcn, .int bts, .int bc]))] s.heap := hP
  have iX2 : ∀ w ∈ wsX20, w ∈ wsX2_dropRow := by decide +kernel
  have hl := lv_entry ([.ref h0]) (n := 1) (Nat.le_of_ble_eq_true rfl)
  rw [lg_entry_eq]
  generalize (lg_sl ([.ref h0]) ++ List.replicate (1 - (lg_sl ([.ref h0])).length) Slot.unset).toArray = ls at hl ⊢
  have hl : lv_has ls 1 [(0, .ref h0)] := hl
  refine lv_aload_n hx hb dX2_dropRow_0 rfl (lv_at hl 0 rfl) ?_
  refine lv_iconst (v := 0) hx hb dX2_dropRow_1 (by decide) ?_
  refine va_put (D := (dC, dI)) (ci := 3) (v := .int 0) (ty := .int) (C := RX2) (T := TX2) (N := 4) hx hb hts iX2 tyX2 tyX2_ok nmX2 hown hK hP hD hS 0 rfl rfl 2 (by decide) (hts (.fieldLink RX2 22 "PulseRows$SlowChannel" "bits" "I") (List.mem_of_getElem? (i := 1) rfl)) (fun _ h9 => h9) rfl (by decide +kernel) rfl rfl (Nat.le_of_ble_eq_true rfl) dX2_dropRow_2 (fun H locs hP hD hS => ?_)
  have hP : va_P (dC, dI) vwCl [(h0, .inr (3, [.ref a6, .int mcn, .int 0, .int bc]))] H := hP
  have hD : va_D A [(h0, .inr (3, [.ref a6, .int mcn, .int 0, .int bc]))] := hD
  refine lv_aload_n hx hb dX2_dropRow_5 rfl (lv_at hl 0 rfl) ?_
  refine lv_iconst (v := 0) hx hb dX2_dropRow_6 (by decide) ?_
  refine va_put (D := (dC, dI)) (ci := 3) (v := .int 0) (ty := .int) (C := RX2) (T := TX2) (N := 4) hx hb hts iX2 tyX2 tyX2_ok nmX2 hown hK hP hD hS 0 rfl rfl 3 (by decide) (hts (.fieldLink RX2 18 "PulseRows$SlowChannel" "bitCount" "I") (List.mem_of_getElem? (i := 2) rfl)) (fun _ h9 => h9) rfl (by decide +kernel) rfl rfl (Nat.le_of_ble_eq_true rfl) dX2_dropRow_7 (fun H locs hP hD hS => ?_)
  have hP : va_P (dC, dI) vwCl [(h0, .inr (3, [.ref a6, .int mcn, .int 0, .int 0]))] H := hP
  have hD : va_D A [(h0, .inr (3, [.ref a6, .int mcn, .int 0, .int 0]))] := hD
  have hP9 : va_P (dC, dI) vwCl [(h0, .inr (3, [.ref a6, .int mcn, .int 0, .int 0]))] H := by exact hP.sub [0] rfl
  have hD9 : va_D A [(h0, .inr (3, [.ref a6, .int mcn, .int 0, .int 0]))] := by exact hD.sub [0] (by decide) rfl
  exact W.vret hx hb hr (fun t ht hW => ⟨⟨(), rfl, trivial, po.ret ht hW hP9 hK hD9⟩, hS.F ht⟩) hS.2.2 dX2_dropRow_10
def X2_size_r (mcn : Int32) : Int32 := mcn
set_option maxHeartbeats 4000000 in
set_option maxRecDepth 100000 in
theorem k_X2_size (l : Launch) (dC : Nat → ClassId) (dI : Nat → Nat → Nat) (sz : Nat) (h0 : Nat) (a6 : Nat) (mcn : Int32) (bts : Int32) (bc : Int32)  : Met l yX2_size wsX2_size ({ frames := 0, cells := 0, slots := 0, locals := 0 }) (va_Pc [.ref h0] (pr (dC, dI) [] [(h0, .inr (3, [.ref a6, .int mcn, .int bts, .int bc]))] sz)) (va_Qi (fun (r : Int32) (_ : Unit) => r = X2_size_r mcn) (fun _ t => po (dC, dI) [] (va_A [(h0, .inr (3, [.ref a6, .int mcn, .int bts, .int bc]))] sz) [(h0, .inr (3, [.ref a6, .int mcn, .int bts, .int bc]))] t) (va_A [(h0, .inr (3, [.ref a6, .int mcn, .int bts, .int bc]))] sz)) 0 0 (va_A [(h0, .inr (3, [.ref a6, .int mcn, .int bts, .int bc]))] sz) := by
  refine Met.ofW (cc := cX2_size) (maxL := 1) (ret := (some .int)) (by decide) rfl ?_
  intro p e s m args below meth c s₁ B hml hv
  obtain ⟨rfl, hsz, hP, hK, hD0⟩ := hv
  have hx := B.exec
  have hb := B.bytes
  have hr := B.returns
  have hts := atoms_spec (ws := wsX2_size) B.pre
  have hown : s.vm.findClass RX2 = some m.cls := findClass_of_methodNamed B.named
  have hlocks := B.notSynchronized
  subst hsz
  have hD := hD0.self (sz := s.heap.size)
  generalize hAe : va_A [(h0, .inr (3, [.ref a6, .int mcn, .int bts, .int bc]))] s.heap.size = A at hD ⊢
  have hA : ∀ q : Nat, s.heap.size ≤ q → A q := fun q h => by rw [← hAe]; exact Or.inr h
  have hS : va_S A s.heap s.heap [] := va_S.rf
  have hP : va_P (dC, dI) vwCl [(h0, .inr (3, [.ref a6, .int mcn, .int bts, .int bc]))] s.heap := hP
  have iX2 : ∀ w ∈ wsX20, w ∈ wsX2_size := by decide +kernel
  have hl := lv_entry ([.ref h0]) (n := 1) (Nat.le_of_ble_eq_true rfl)
  rw [lg_entry_eq]
  generalize (lg_sl ([.ref h0]) ++ List.replicate (1 - (lg_sl ([.ref h0])).length) Slot.unset).toArray = ls at hl ⊢
  have hl : lv_has ls 1 [(0, .ref h0)] := hl
  refine lv_aload_n hx hb dX2_size_0 rfl (lv_at hl 0 rfl) ?_
  refine va_get (D := (dC, dI)) (ci := 3) (v := .int mcn) (C := RX2) (T := TX2) (N := 4) hx hb hts iX2 hown hK hP 0 rfl rfl 1 (by decide) (hts (.fieldLink RX2 29 "PulseRows$SlowChannel" "messageCount" "I") (List.mem_of_getElem? (i := 1) rfl)) (fun _ h9 => h9) rfl dX2_size_1 ?_
  have hP9 : va_P (dC, dI) vwCl [(h0, .inr (3, [.ref a6, .int mcn, .int bts, .int bc]))] s.heap := by exact hP.sub [0] rfl
  have hD9 : va_D A [(h0, .inr (3, [.ref a6, .int mcn, .int bts, .int bc]))] := by exact hD.sub [0] (by decide) rfl
  have e_1 : mcn = X2_size_r mcn := by rw [X2_size_r]
  exact W.iret (v := mcn) hx hb hr (fun t ht hW => ⟨⟨_, (), rfl, e_1, po.ret ht hW hP9 hK hD9⟩, hS.F ht⟩) hS.2.2 dX2_size_4
set_option maxHeartbeats 4000000 in
set_option maxRecDepth 100000 in
theorem k_X3_init (l : Launch) (dC : Nat → ClassId) (dI : Nat → Nat → Nat) (sz : Nat) (h0 : Nat) (ta : Int32) (tbk : Int32) (sp : Int32)  : Met l yX3_init wsX3_init ({ frames := 1, cells := 0, slots := 0, locals := 12 }) (va_Pc [.ref h0] (pr (dC, dI) [] [(h0, .inr (4, [.int ta, .int tbk, .int sp]))] sz)) (va_Qv (fun _ : Unit => True) (fun _ t => po (dC, dI) [] (va_A [(h0, .inr (4, [.int ta, .int tbk, .int sp]))] sz) [(h0, .inr (4, [.int ta, .int tbk, .int sp]))] t) (va_A [(h0, .inr (4, [.int ta, .int tbk, .int sp]))] sz)) 0 0 (va_A [(h0, .inr (4, [.int ta, .int tbk, .int sp]))] sz) := by
  refine Met.ofW (cc := cX3_init) (maxL := 1) (ret := none) (by decide) rfl ?_
  intro p e s m args below meth c s₁ B hml hv
  obtain ⟨rfl, hsz, hP, hK, hD0⟩ := hv
  have hx := B.exec
  have hb := B.bytes
  have hr := B.returns
  have hts := atoms_spec (ws := wsX3_init) B.pre
  have hown : s.vm.findClass RX3 = some m.cls := findClass_of_methodNamed B.named
  have hlocks := B.notSynchronized
  have hin : meth.name = "<init>" := (name_of_methodNamed B.named B.method).1
  subst hsz
  have hD := hD0.self (sz := s.heap.size)
  generalize hAe : va_A [(h0, .inr (4, [.int ta, .int tbk, .int sp]))] s.heap.size = A at hD ⊢
  have hA : ∀ q : Nat, s.heap.size ≤ q → A q := fun q h => by rw [← hAe]; exact Or.inr h
  have hS : va_S A s.heap s.heap [] := va_S.rf
  have hP : va_P (dC, dI) vwCl [(h0, .inr (4, [.int ta, .int tbk, .int sp]))] s.heap := hP
  have hl := lv_entry ([.ref h0]) (n := 1) (Nat.le_of_ble_eq_true rfl)
  rw [lg_entry_eq]
  generalize (lg_sl ([.ref h0]) ++ List.replicate (1 - (lg_sl ([.ref h0])).length) Slot.unset).toArray = ls at hl ⊢
  have hl : lv_has ls 1 [(0, .ref h0)] := hl
  refine lv_aload_n hx hb dX3_init_0 rfl (lv_at hl 0 rfl) ?_
  refine W.objInit hx hb hown (hts (.methodLink RX3 1 objectInit) (List.mem_of_getElem? (i := 1) rfl)) (hts (.instanceMethod objectInit) (List.mem_of_getElem? (i := 2) rfl)) (hts (.code objectInit ⟨#[0xb1]⟩ 1 none) (List.mem_of_getElem? (i := 3) rfl)) rfl (by rw [hml]; exact hl.1) rfl dX3_init_1 (Nat.le_of_ble_eq_true rfl) (Nat.le_of_ble_eq_true rfl) ?_
  refine W.eq (g2 := F0 m 4 ls []) rfl ?_
  have hP9 : va_P (dC, dI) vwCl [(h0, .inr (4, [.int ta, .int tbk, .int sp]))] s.heap := by exact hP.sub [0] rfl
  have hD9 : va_D A [(h0, .inr (4, [.int ta, .int tbk, .int sp]))] := by exact hD.sub [0] (by decide) rfl
  exact W.vret hx hb hr (fun t ht hW => ⟨⟨(), rfl, trivial, po.ret ht hW hP9 hK hD9⟩, hS.F ht⟩) hS.2.2 dX3_init_4
def X3_moveTo_trackA (pa : Int32) : Int32 := pa
theorem X3_moveTo_trackA_z (pa : Int32) (hz_pa : z01 pa) : z01 (X3_moveTo_trackA pa) := by unfold X3_moveTo_trackA; repeat (first | split | with_reducible assumption | with_reducible exact z01_0 | with_reducible exact z01_1 | with_reducible exact X0_tell_r_z _ _ _ _ _ (by assumption) | with_reducible exact X1_hasMark_r_z _ (by assumption))
def X3_moveTo_trackB (pb : Int32) : Int32 := pb
theorem X3_moveTo_trackB_z (pb : Int32) (hz_pb : z01 pb) : z01 (X3_moveTo_trackB pb) := by unfold X3_moveTo_trackB; repeat (first | split | with_reducible assumption | with_reducible exact z01_0 | with_reducible exact z01_1 | with_reducible exact X0_tell_r_z _ _ _ _ _ (by assumption) | with_reducible exact X1_hasMark_r_z _ (by assumption) | with_reducible exact X3_moveTo_trackA_z _ (by assumption))
def X3_moveTo_steps (ta : Int32) (tbk : Int32) (sp : Int32) (pa : Int32) (pb : Int32) : Int32 := if pa = ta then (if pb = tbk then sp else (if ta = tbk then (sp + (-1)) else (sp + 1))) else (if pb = tbk then (if ta = tbk then (sp + 1) else (sp + (-1))) else sp)
def X3_moveTo_r (ta : Int32) (tbk : Int32) (pa : Int32) (pb : Int32) : Int32 := if pa = ta then 1 else (if pb = tbk then 1 else 0)
theorem X3_moveTo_r_z (ta : Int32) (tbk : Int32) (pa : Int32) (pb : Int32) (hz_pa : z01 pa) (hz_pb : z01 pb) : z01 (X3_moveTo_r ta tbk pa pb) := by unfold X3_moveTo_r; repeat (first | split | with_reducible assumption | with_reducible exact z01_0 | with_reducible exact z01_1 | with_reducible exact X0_tell_r_z _ _ _ _ _ (by assumption) | with_reducible exact X1_hasMark_r_z _ (by assumption) | with_reducible exact X3_moveTo_trackA_z _ (by assumption) | with_reducible exact X3_moveTo_trackB_z _ (by assumption))
set_option maxHeartbeats 4000000 in
set_option maxRecDepth 100000 in
theorem k_X3_moveTo (l : Launch) (dC : Nat → ClassId) (dI : Nat → Nat → Nat) (sz : Nat) (h0 : Nat) (ta : Int32) (tbk : Int32) (sp : Int32) (pa : Int32) (pb : Int32) (hz_pa : z01 pa) (hz_pb : z01 pb) : Met l yX3_moveTo wsX3_moveTo ({ frames := 0, cells := 0, slots := 0, locals := 0 }) (va_Pc [.ref h0, .int pa, .int pb] (pr (dC, dI) [] [(h0, .inr (4, [.int ta, .int tbk, .int sp]))] sz)) (va_Qi (fun (r : Int32) (_ : Unit) => r = X3_moveTo_r ta tbk pa pb) (fun _ t => po (dC, dI) [] (va_A [(h0, .inr (4, [.int ta, .int tbk, .int sp]))] sz) [(h0, .inr (4, [.int (X3_moveTo_trackA pa), .int (X3_moveTo_trackB pb), .int (X3_moveTo_steps ta tbk sp pa pb)]))] t) (va_A [(h0, .inr (4, [.int ta, .int tbk, .int sp]))] sz)) 0 0 (va_A [(h0, .inr (4, [.int ta, .int tbk, .int sp]))] sz) := by
  refine Met.ofW (cc := cX3_moveTo) (maxL := 6) (ret := (some .boolean)) (by decide) rfl ?_
  intro p e s m args below meth c s₁ B hml hv
  obtain ⟨rfl, hsz, hP, hK, hD0⟩ := hv
  have hx := B.exec
  have hb := B.bytes
  have hr := B.returns
  have hts := atoms_spec (ws := wsX3_moveTo) B.pre
  have hown : s.vm.findClass RX3 = some m.cls := findClass_of_methodNamed B.named
  have hlocks := B.notSynchronized
  subst hsz
  have hD := hD0.self (sz := s.heap.size)
  generalize hAe : va_A [(h0, .inr (4, [.int ta, .int tbk, .int sp]))] s.heap.size = A at hD ⊢
  have hA : ∀ q : Nat, s.heap.size ≤ q → A q := fun q h => by rw [← hAe]; exact Or.inr h
  have hS : va_S A s.heap s.heap [] := va_S.rf
  have hP : va_P (dC, dI) vwCl [(h0, .inr (4, [.int ta, .int tbk, .int sp]))] s.heap := hP
  have iX3 : ∀ w ∈ wsX30, w ∈ wsX3_moveTo := by decide +kernel
  have hl := lv_entry ([.ref h0, .int pa, .int pb]) (n := 6) (Nat.le_of_ble_eq_true rfl)
  rw [lg_entry_eq]
  generalize (lg_sl ([.ref h0, .int pa, .int pb]) ++ List.replicate (6 - (lg_sl ([.ref h0, .int pa, .int pb])).length) Slot.unset).toArray = ls at hl ⊢
  have hl : lv_has ls 6 [(0, .ref h0), (1, .int pa), (2, .int pb)] := hl
  refine lv_iload_n hx hb dX3_moveTo_0 rfl (lv_at hl 1 rfl) ?_
  refine lv_aload_n hx hb dX3_moveTo_1 rfl (lv_at hl 0 rfl) ?_
  refine va_get (D := (dC, dI)) (ci := 4) (v := .int ta) (C := RX3) (T := TX3) (N := 3) hx hb hts iX3 hown hK hP 0 rfl rfl 0 (by decide) (hts (.fieldLink RX3 7 "PulseRows$Wheel" "trackA" "Z") (List.mem_of_getElem? (i := 1) rfl)) (fun _ h9 => h9) rfl dX3_moveTo_2 ?_
  refine lv_icmp_eq (tgt := 12) hx hb dX3_moveTo_5 (by decide) (fun c_1 => ?_) (fun c_1 => ?_)
  · refine lv_iconst (v := 0) hx hb dX3_moveTo_12 (by decide) ?_
    refine lv_istore_n (lv' := [(3, .int 0), (0, .ref h0), (1, .int pa), (2, .int pb)]) hx hb dX3_moveTo_13 rfl hl (by decide) rfl (fun ls hl => ?_)
    refine lv_iload_n hx hb dX3_moveTo_14 rfl (lv_at hl 3 rfl) ?_
    refine lv_aload_n hx hb dX3_moveTo_15 rfl (lv_at hl 1 rfl) ?_
    refine va_get (D := (dC, dI)) (ci := 4) (v := .int tbk) (C := RX3) (T := TX3) (N := 3) hx hb hts iX3 hown hK hP 0 rfl rfl 1 (by decide) (hts (.fieldLink RX3 13 "PulseRows$Wheel" "trackB" "Z") (List.mem_of_getElem? (i := 2) rfl)) (fun _ h9 => h9) rfl dX3_moveTo_16 ?_
    refine lv_icmp_eq (tgt := 26) hx hb dX3_moveTo_19 (by decide) (fun c_2 => ?_) (fun c_2 => ?_)
    · refine lv_iconst (v := 0) hx hb dX3_moveTo_26 (by decide) ?_
      refine lv_istore (lv' := [(4, .int 0), (3, .int 0), (0, .ref h0), (1, .int pa), (2, .int pb)]) hx hb dX3_moveTo_27 hl (by decide) rfl (fun ls hl => ?_)
      refine lv_aload_n hx hb dX3_moveTo_29 rfl (lv_at hl 2 rfl) ?_
      refine va_get (D := (dC, dI)) (ci := 4) (v := .int ta) (C := RX3) (T := TX3) (N := 3) hx hb hts iX3 hown hK hP 0 rfl rfl 0 (by decide) (hts (.fieldLink RX3 7 "PulseRows$Wheel" "trackA" "Z") (List.mem_of_getElem? (i := 1) rfl)) (fun _ h9 => h9) rfl dX3_moveTo_30 ?_
      refine lv_aload_n hx hb dX3_moveTo_33 rfl (lv_at hl 2 rfl) ?_
      refine va_get (D := (dC, dI)) (ci := 4) (v := .int tbk) (C := RX3) (T := TX3) (N := 3) hx hb hts iX3 hown hK hP 0 rfl rfl 1 (by decide) (hts (.fieldLink RX3 13 "PulseRows$Wheel" "trackB" "Z") (List.mem_of_getElem? (i := 2) rfl)) (fun _ h9 => h9) rfl dX3_moveTo_34 ?_
      refine lv_icmp_ne (tgt := 44) hx hb dX3_moveTo_37 (by decide) (fun c_3 => ?_) (fun c_3 => ?_)
      · refine lv_iconst (v := 0) hx hb dX3_moveTo_44 (by decide) ?_
        refine lv_istore (lv' := [(5, .int 0), (4, .int 0), (3, .int 0), (0, .ref h0), (1, .int pa), (2, .int pb)]) hx hb dX3_moveTo_45 hl (by decide) rfl (fun ls hl => ?_)
        refine lv_aload_n hx hb dX3_moveTo_47 rfl (lv_at hl 3 rfl) ?_
        refine lv_iload_n hx hb dX3_moveTo_48 rfl (lv_at hl 4 rfl) ?_
        refine va_put (D := (dC, dI)) (ci := 4) (v := .int pa) (ty := .boolean) (C := RX3) (T := TX3) (N := 3) hx hb hts iX3 tyX3 tyX3_ok nmX3 hown hK hP hD hS 0 rfl rfl 0 (by decide) (hts (.fieldLink RX3 7 "PulseRows$Wheel" "trackA" "Z") (List.mem_of_getElem? (i := 1) rfl)) (fun _ h9 => h9) rfl (by decide +kernel) (hz_pa).nar (hz_pa).fit (Nat.le_of_ble_eq_true rfl) dX3_moveTo_49 (fun H locs hP hD hS => ?_)
        have hP : va_P (dC, dI) vwCl [(h0, .inr (4, [.int pa, .int tbk, .int sp]))] H := hP
        have hD : va_D A [(h0, .inr (4, [.int pa, .int tbk, .int sp]))] := hD
        refine lv_aload_n hx hb dX3_moveTo_52 rfl (lv_at hl 3 rfl) ?_
        refine lv_iload_n hx hb dX3_moveTo_53 rfl (lv_at hl 5 rfl) ?_
        refine va_put (D := (dC, dI)) (ci := 4) (v := .int pb) (ty := .boolean) (C := RX3) (T := TX3) (N := 3) hx hb hts iX3 tyX3 tyX3_ok nmX3 hown hK hP hD hS 0 rfl rfl 1 (by decide) (hts (.fieldLink RX3 13 "PulseRows$Wheel" "trackB" "Z") (List.mem_of_getElem? (i := 2) rfl)) (fun _ h9 => h9) rfl (by decide +kernel) (hz_pb).nar (hz_pb).fit (Nat.le_of_ble_eq_true rfl) dX3_moveTo_54 (fun H locs hP hD hS => ?_)
        have hP : va_P (dC, dI) vwCl [(h0, .inr (4, [.int pa, .int pb, .int sp]))] H := hP
        have hD : va_D A [(h0, .inr (4, [.int pa, .int pb, .int sp]))] := hD
        refine lv_iload_n hx hb dX3_moveTo_57 rfl (lv_at hl 2 rfl) ?_
        refine lv_if_eq (tgt := 68) hx hb dX3_moveTo_58 (by decide) (fun _ => ?_) (fun c9 => absurd c9 (by decide))
        refine lv_iload_n hx hb dX3_moveTo_68 rfl (lv_at hl 2 rfl) ?_
        refine lv_if_ne (tgt := 77) hx hb dX3_moveTo_69 (by decide) (fun c9 => absurd c9 (by decide)) (fun _ => ?_)
        refine lv_iload hx hb dX3_moveTo_72 (lv_at hl 1 rfl) ?_
        refine lv_if_eq (tgt := 97) hx hb dX3_moveTo_74 (by decide) (fun _ => ?_) (fun c9 => absurd c9 (by decide))
        refine lv_iconst (v := 1) hx hb dX3_moveTo_97 (by decide) ?_
        have e_7 : pa = X3_moveTo_trackA pa := by rw [X3_moveTo_trackA]
        have e_8 : pb = X3_moveTo_trackB pb := by rw [X3_moveTo_trackB]
        have e_9 : sp = X3_moveTo_steps ta tbk sp pa pb := by rw [X3_moveTo_steps, if_pos c_1, if_pos c_2]
        have hP9 : va_P (dC, dI) vwCl [(h0, .inr (4, [.int (X3_moveTo_trackA pa), .int (X3_moveTo_trackB pb), .int (X3_moveTo_steps ta tbk sp pa pb)]))] H := by rw [← e_7, ← e_8, ← e_9]; exact hP.sub [0] rfl
        have hD9 : va_D A [(h0, .inr (4, [.int (X3_moveTo_trackA pa), .int (X3_moveTo_trackB pb), .int (X3_moveTo_steps ta tbk sp pa pb)]))] := by rw [← e_7, ← e_8, ← e_9]; exact hD.sub [0] (by decide) rfl
        have e_10 : (1 : Int32) = X3_moveTo_r ta tbk pa pb := by rw [X3_moveTo_r, if_pos c_1]
        exact W.zret (v := 1) hx hb hr rfl (fun t ht hW => ⟨⟨_, (), rfl, e_10, po.ret ht hW hP9 hK hD9⟩, hS.F ht⟩) hS.2.2 dX3_moveTo_98
      · refine lv_iconst (v := 1) hx hb dX3_moveTo_40 (by decide) ?_
        refine lv_goto (tgt := 45) hx hb dX3_moveTo_41 (by decide) ?_
        refine lv_istore (lv' := [(5, .int 1), (4, .int 0), (3, .int 0), (0, .ref h0), (1, .int pa), (2, .int pb)]) hx hb dX3_moveTo_45 hl (by decide) rfl (fun ls hl => ?_)
        refine lv_aload_n hx hb dX3_moveTo_47 rfl (lv_at hl 3 rfl) ?_
        refine lv_iload_n hx hb dX3_moveTo_48 rfl (lv_at hl 4 rfl) ?_
        refine va_put (D := (dC, dI)) (ci := 4) (v := .int pa) (ty := .boolean) (C := RX3) (T := TX3) (N := 3) hx hb hts iX3 tyX3 tyX3_ok nmX3 hown hK hP hD hS 0 rfl rfl 0 (by decide) (hts (.fieldLink RX3 7 "PulseRows$Wheel" "trackA" "Z") (List.mem_of_getElem? (i := 1) rfl)) (fun _ h9 => h9) rfl (by decide +kernel) (hz_pa).nar (hz_pa).fit (Nat.le_of_ble_eq_true rfl) dX3_moveTo_49 (fun H locs hP hD hS => ?_)
        have hP : va_P (dC, dI) vwCl [(h0, .inr (4, [.int pa, .int tbk, .int sp]))] H := hP
        have hD : va_D A [(h0, .inr (4, [.int pa, .int tbk, .int sp]))] := hD
        refine lv_aload_n hx hb dX3_moveTo_52 rfl (lv_at hl 3 rfl) ?_
        refine lv_iload_n hx hb dX3_moveTo_53 rfl (lv_at hl 5 rfl) ?_
        refine va_put (D := (dC, dI)) (ci := 4) (v := .int pb) (ty := .boolean) (C := RX3) (T := TX3) (N := 3) hx hb hts iX3 tyX3 tyX3_ok nmX3 hown hK hP hD hS 0 rfl rfl 1 (by decide) (hts (.fieldLink RX3 13 "PulseRows$Wheel" "trackB" "Z") (List.mem_of_getElem? (i := 2) rfl)) (fun _ h9 => h9) rfl (by decide +kernel) (hz_pb).nar (hz_pb).fit (Nat.le_of_ble_eq_true rfl) dX3_moveTo_54 (fun H locs hP hD hS => ?_)
        have hP : va_P (dC, dI) vwCl [(h0, .inr (4, [.int pa, .int pb, .int sp]))] H := hP
        have hD : va_D A [(h0, .inr (4, [.int pa, .int pb, .int sp]))] := hD
        refine lv_iload_n hx hb dX3_moveTo_57 rfl (lv_at hl 2 rfl) ?_
        refine lv_if_eq (tgt := 68) hx hb dX3_moveTo_58 (by decide) (fun _ => ?_) (fun c9 => absurd c9 (by decide))
        refine lv_iload_n hx hb dX3_moveTo_68 rfl (lv_at hl 2 rfl) ?_
        refine lv_if_ne (tgt := 77) hx hb dX3_moveTo_69 (by decide) (fun c9 => absurd c9 (by decide)) (fun _ => ?_)
        refine lv_iload hx hb dX3_moveTo_72 (lv_at hl 1 rfl) ?_
        refine lv_if_eq (tgt := 97) hx hb dX3_moveTo_74 (by decide) (fun _ => ?_) (fun c9 => absurd c9 (by decide))
        refine lv_iconst (v := 1) hx hb dX3_moveTo_97 (by decide) ?_
        have e_14 : pa = X3_moveTo_trackA pa := by rw [X3_moveTo_trackA]
        have e_15 : pb = X3_moveTo_trackB pb := by rw [X3_moveTo_trackB]
        have e_16 : sp = X3_moveTo_steps ta tbk sp pa pb := by rw [X3_moveTo_steps, if_pos c_1, if_pos c_2]
        have hP9 : va_P (dC, dI) vwCl [(h0, .inr (4, [.int (X3_moveTo_trackA pa), .int (X3_moveTo_trackB pb), .int (X3_moveTo_steps ta tbk sp pa pb)]))] H := by rw [← e_14, ← e_15, ← e_16]; exact hP.sub [0] rfl
        have hD9 : va_D A [(h0, .inr (4, [.int (X3_moveTo_trackA pa), .int (X3_moveTo_trackB pb), .int (X3_moveTo_steps ta tbk sp pa pb)]))] := by rw [← e_14, ← e_15, ← e_16]; exact hD.sub [0] (by decide) rfl
        have e_17 : (1 : Int32) = X3_moveTo_r ta tbk pa pb := by rw [X3_moveTo_r, if_pos c_1]
        exact W.zret (v := 1) hx hb hr rfl (fun t ht hW => ⟨⟨_, (), rfl, e_17, po.ret ht hW hP9 hK hD9⟩, hS.F ht⟩) hS.2.2 dX3_moveTo_98
    · refine lv_iconst (v := 1) hx hb dX3_moveTo_22 (by decide) ?_
      refine lv_goto (tgt := 27) hx hb dX3_moveTo_23 (by decide) ?_
      refine lv_istore (lv' := [(4, .int 1), (3, .int 0), (0, .ref h0), (1, .int pa), (2, .int pb)]) hx hb dX3_moveTo_27 hl (by decide) rfl (fun ls hl => ?_)
      refine lv_aload_n hx hb dX3_moveTo_29 rfl (lv_at hl 2 rfl) ?_
      refine va_get (D := (dC, dI)) (ci := 4) (v := .int ta) (C := RX3) (T := TX3) (N := 3) hx hb hts iX3 hown hK hP 0 rfl rfl 0 (by decide) (hts (.fieldLink RX3 7 "PulseRows$Wheel" "trackA" "Z") (List.mem_of_getElem? (i := 1) rfl)) (fun _ h9 => h9) rfl dX3_moveTo_30 ?_
      refine lv_aload_n hx hb dX3_moveTo_33 rfl (lv_at hl 2 rfl) ?_
      refine va_get (D := (dC, dI)) (ci := 4) (v := .int tbk) (C := RX3) (T := TX3) (N := 3) hx hb hts iX3 hown hK hP 0 rfl rfl 1 (by decide) (hts (.fieldLink RX3 13 "PulseRows$Wheel" "trackB" "Z") (List.mem_of_getElem? (i := 2) rfl)) (fun _ h9 => h9) rfl dX3_moveTo_34 ?_
      refine lv_icmp_ne (tgt := 44) hx hb dX3_moveTo_37 (by decide) (fun c_18 => ?_) (fun c_18 => ?_)
      · refine lv_iconst (v := 0) hx hb dX3_moveTo_44 (by decide) ?_
        refine lv_istore (lv' := [(5, .int 0), (4, .int 1), (3, .int 0), (0, .ref h0), (1, .int pa), (2, .int pb)]) hx hb dX3_moveTo_45 hl (by decide) rfl (fun ls hl => ?_)
        refine lv_aload_n hx hb dX3_moveTo_47 rfl (lv_at hl 3 rfl) ?_
        refine lv_iload_n hx hb dX3_moveTo_48 rfl (lv_at hl 4 rfl) ?_
        refine va_put (D := (dC, dI)) (ci := 4) (v := .int pa) (ty := .boolean) (C := RX3) (T := TX3) (N := 3) hx hb hts iX3 tyX3 tyX3_ok nmX3 hown hK hP hD hS 0 rfl rfl 0 (by decide) (hts (.fieldLink RX3 7 "PulseRows$Wheel" "trackA" "Z") (List.mem_of_getElem? (i := 1) rfl)) (fun _ h9 => h9) rfl (by decide +kernel) (hz_pa).nar (hz_pa).fit (Nat.le_of_ble_eq_true rfl) dX3_moveTo_49 (fun H locs hP hD hS => ?_)
        have hP : va_P (dC, dI) vwCl [(h0, .inr (4, [.int pa, .int tbk, .int sp]))] H := hP
        have hD : va_D A [(h0, .inr (4, [.int pa, .int tbk, .int sp]))] := hD
        refine lv_aload_n hx hb dX3_moveTo_52 rfl (lv_at hl 3 rfl) ?_
        refine lv_iload_n hx hb dX3_moveTo_53 rfl (lv_at hl 5 rfl) ?_
        refine va_put (D := (dC, dI)) (ci := 4) (v := .int pb) (ty := .boolean) (C := RX3) (T := TX3) (N := 3) hx hb hts iX3 tyX3 tyX3_ok nmX3 hown hK hP hD hS 0 rfl rfl 1 (by decide) (hts (.fieldLink RX3 13 "PulseRows$Wheel" "trackB" "Z") (List.mem_of_getElem? (i := 2) rfl)) (fun _ h9 => h9) rfl (by decide +kernel) (hz_pb).nar (hz_pb).fit (Nat.le_of_ble_eq_true rfl) dX3_moveTo_54 (fun H locs hP hD hS => ?_)
        have hP : va_P (dC, dI) vwCl [(h0, .inr (4, [.int pa, .int pb, .int sp]))] H := hP
        have hD : va_D A [(h0, .inr (4, [.int pa, .int pb, .int sp]))] := hD
        refine lv_iload_n hx hb dX3_moveTo_57 rfl (lv_at hl 2 rfl) ?_
        refine lv_if_eq (tgt := 68) hx hb dX3_moveTo_58 (by decide) (fun _ => ?_) (fun c9 => absurd c9 (by decide))
        refine lv_iload_n hx hb dX3_moveTo_68 rfl (lv_at hl 2 rfl) ?_
        refine lv_if_ne (tgt := 77) hx hb dX3_moveTo_69 (by decide) (fun c9 => absurd c9 (by decide)) (fun _ => ?_)
        refine lv_iload hx hb dX3_moveTo_72 (lv_at hl 1 rfl) ?_
        refine lv_if_eq (tgt := 97) hx hb dX3_moveTo_74 (by decide) (fun c9 => absurd c9 (by decide)) (fun _ => ?_)
        refine lv_aload_n hx hb dX3_moveTo_77 rfl (lv_at hl 3 rfl) ?_
        refine lv_dup hx hb dX3_moveTo_78 rfl ?_
        refine va_get (D := (dC, dI)) (ci := 4) (v := .int sp) (C := RX3) (T := TX3) (N := 3) hx hb hts iX3 hown hK hP 0 rfl rfl 2 (by decide) (hts (.fieldLink RX3 16 "PulseRows$Wheel" "steps" "I") (List.mem_of_getElem? (i := 3) rfl)) (fun _ h9 => h9) rfl dX3_moveTo_79 ?_
        refine lv_iload_n hx hb dX3_moveTo_82 rfl (lv_at hl 2 rfl) ?_
        refine lv_iload hx hb dX3_moveTo_83 (lv_at hl 0 rfl) ?_
        refine lv_icmp_ne (tgt := 92) hx hb dX3_moveTo_85 (by decide) (fun c9 => absurd c9 (by decide)) (fun _ => ?_)
        refine lv_iconst (v := 1) hx hb dX3_moveTo_88 (by decide) ?_
        refine lv_goto (tgt := 93) hx hb dX3_moveTo_89 (by decide) ?_
        refine lv_iadd hx hb dX3_moveTo_93 ?_
        refine va_put (D := (dC, dI)) (ci := 4) (v := .int (sp + 1)) (ty := .int) (C := RX3) (T := TX3) (N := 3) hx hb hts iX3 tyX3 tyX3_ok nmX3 hown hK hP hD hS 0 rfl rfl 2 (by decide) (hts (.fieldLink RX3 16 "PulseRows$Wheel" "steps" "I") (List.mem_of_getElem? (i := 3) rfl)) (fun _ h9 => h9) rfl (by decide +kernel) rfl rfl (Nat.le_of_ble_eq_true rfl) dX3_moveTo_94 (fun H locs hP hD hS => ?_)
        have hP : va_P (dC, dI) vwCl [(h0, .inr (4, [.int pa, .int pb, .int (sp + 1)]))] H := hP
        have hD : va_D A [(h0, .inr (4, [.int pa, .int pb, .int (sp + 1)]))] := hD
        refine lv_iconst (v := 1) hx hb dX3_moveTo_97 (by decide) ?_
        have e_23 : pa = X3_moveTo_trackA pa := by rw [X3_moveTo_trackA]
        have e_24 : pb = X3_moveTo_trackB pb := by rw [X3_moveTo_trackB]
        have e_25 : sp + 1 = X3_moveTo_steps ta tbk sp pa pb := by rw [X3_moveTo_steps, if_pos c_1, if_neg c_2, if_neg c_18]
        have hP9 : va_P (dC, dI) vwCl [(h0, .inr (4, [.int (X3_moveTo_trackA pa), .int (X3_moveTo_trackB pb), .int (X3_moveTo_steps ta tbk sp pa pb)]))] H := by rw [← e_23, ← e_24, ← e_25]; exact hP.sub [0] rfl
        have hD9 : va_D A [(h0, .inr (4, [.int (X3_moveTo_trackA pa), .int (X3_moveTo_trackB pb), .int (X3_moveTo_steps ta tbk sp pa pb)]))] := by rw [← e_23, ← e_24, ← e_25]; exact hD.sub [0] (by decide) rfl
        have e_26 : (1 : Int32) = X3_moveTo_r ta tbk pa pb := by rw [X3_moveTo_r, if_pos c_1]
        exact W.zret (v := 1) hx hb hr rfl (fun t ht hW => ⟨⟨_, (), rfl, e_26, po.ret ht hW hP9 hK hD9⟩, hS.F ht⟩) hS.2.2 dX3_moveTo_98
      · refine lv_iconst (v := 1) hx hb dX3_moveTo_40 (by decide) ?_
        refine lv_goto (tgt := 45) hx hb dX3_moveTo_41 (by decide) ?_
        refine lv_istore (lv' := [(5, .int 1), (4, .int 1), (3, .int 0), (0, .ref h0), (1, .int pa), (2, .int pb)]) hx hb dX3_moveTo_45 hl (by decide) rfl (fun ls hl => ?_)
        refine lv_aload_n hx hb dX3_moveTo_47 rfl (lv_at hl 3 rfl) ?_
        refine lv_iload_n hx hb dX3_moveTo_48 rfl (lv_at hl 4 rfl) ?_
        refine va_put (D := (dC, dI)) (ci := 4) (v := .int pa) (ty := .boolean) (C := RX3) (T := TX3) (N := 3) hx hb hts iX3 tyX3 tyX3_ok nmX3 hown hK hP hD hS 0 rfl rfl 0 (by decide) (hts (.fieldLink RX3 7 "PulseRows$Wheel" "trackA" "Z") (List.mem_of_getElem? (i := 1) rfl)) (fun _ h9 => h9) rfl (by decide +kernel) (hz_pa).nar (hz_pa).fit (Nat.le_of_ble_eq_true rfl) dX3_moveTo_49 (fun H locs hP hD hS => ?_)
        have hP : va_P (dC, dI) vwCl [(h0, .inr (4, [.int pa, .int tbk, .int sp]))] H := hP
        have hD : va_D A [(h0, .inr (4, [.int pa, .int tbk, .int sp]))] := hD
        refine lv_aload_n hx hb dX3_moveTo_52 rfl (lv_at hl 3 rfl) ?_
        refine lv_iload_n hx hb dX3_moveTo_53 rfl (lv_at hl 5 rfl) ?_
        refine va_put (D := (dC, dI)) (ci := 4) (v := .int pb) (ty := .boolean) (C := RX3) (T := TX3) (N := 3) hx hb hts iX3 tyX3 tyX3_ok nmX3 hown hK hP hD hS 0 rfl rfl 1 (by decide) (hts (.fieldLink RX3 13 "PulseRows$Wheel" "trackB" "Z") (List.mem_of_getElem? (i := 2) rfl)) (fun _ h9 => h9) rfl (by decide +kernel) (hz_pb).nar (hz_pb).fit (Nat.le_of_ble_eq_true rfl) dX3_moveTo_54 (fun H locs hP hD hS => ?_)
        have hP : va_P (dC, dI) vwCl [(h0, .inr (4, [.int pa, .int pb, .int sp]))] H := hP
        have hD : va_D A [(h0, .inr (4, [.int pa, .int pb, .int sp]))] := hD
        refine lv_iload_n hx hb dX3_moveTo_57 rfl (lv_at hl 2 rfl) ?_
        refine lv_if_eq (tgt := 68) hx hb dX3_moveTo_58 (by decide) (fun _ => ?_) (fun c9 => absurd c9 (by decide))
        refine lv_iload_n hx hb dX3_moveTo_68 rfl (lv_at hl 2 rfl) ?_
        refine lv_if_ne (tgt := 77) hx hb dX3_moveTo_69 (by decide) (fun c9 => absurd c9 (by decide)) (fun _ => ?_)
        refine lv_iload hx hb dX3_moveTo_72 (lv_at hl 1 rfl) ?_
        refine lv_if_eq (tgt := 97) hx hb dX3_moveTo_74 (by decide) (fun c9 => absurd c9 (by decide)) (fun _ => ?_)
        refine lv_aload_n hx hb dX3_moveTo_77 rfl (lv_at hl 3 rfl) ?_
        refine lv_dup hx hb dX3_moveTo_78 rfl ?_
        refine va_get (D := (dC, dI)) (ci := 4) (v := .int sp) (C := RX3) (T := TX3) (N := 3) hx hb hts iX3 hown hK hP 0 rfl rfl 2 (by decide) (hts (.fieldLink RX3 16 "PulseRows$Wheel" "steps" "I") (List.mem_of_getElem? (i := 3) rfl)) (fun _ h9 => h9) rfl dX3_moveTo_79 ?_
        refine lv_iload_n hx hb dX3_moveTo_82 rfl (lv_at hl 2 rfl) ?_
        refine lv_iload hx hb dX3_moveTo_83 (lv_at hl 0 rfl) ?_
        refine lv_icmp_ne (tgt := 92) hx hb dX3_moveTo_85 (by decide) (fun _ => ?_) (fun c9 => absurd c9 (by decide))
        refine lv_iconst (v := (-1)) hx hb dX3_moveTo_92 (by decide) ?_
        refine lv_iadd hx hb dX3_moveTo_93 ?_
        refine va_put (D := (dC, dI)) (ci := 4) (v := .int (sp + (-1))) (ty := .int) (C := RX3) (T := TX3) (N := 3) hx hb hts iX3 tyX3 tyX3_ok nmX3 hown hK hP hD hS 0 rfl rfl 2 (by decide) (hts (.fieldLink RX3 16 "PulseRows$Wheel" "steps" "I") (List.mem_of_getElem? (i := 3) rfl)) (fun _ h9 => h9) rfl (by decide +kernel) rfl rfl (Nat.le_of_ble_eq_true rfl) dX3_moveTo_94 (fun H locs hP hD hS => ?_)
        have hP : va_P (dC, dI) vwCl [(h0, .inr (4, [.int pa, .int pb, .int (sp + (-1))]))] H := hP
        have hD : va_D A [(h0, .inr (4, [.int pa, .int pb, .int (sp + (-1))]))] := hD
        refine lv_iconst (v := 1) hx hb dX3_moveTo_97 (by decide) ?_
        have e_31 : pa = X3_moveTo_trackA pa := by rw [X3_moveTo_trackA]
        have e_32 : pb = X3_moveTo_trackB pb := by rw [X3_moveTo_trackB]
        have e_33 : sp + (-1) = X3_moveTo_steps ta tbk sp pa pb := by rw [X3_moveTo_steps, if_pos c_1, if_neg c_2, if_pos c_18]
        have hP9 : va_P (dC, dI) vwCl [(h0, .inr (4, [.int (X3_moveTo_trackA pa), .int (X3_moveTo_trackB pb), .int (X3_moveTo_steps ta tbk sp pa pb)]))] H := by rw [← e_31, ← e_32, ← e_33]; exact hP.sub [0] rfl
        have hD9 : va_D A [(h0, .inr (4, [.int (X3_moveTo_trackA pa), .int (X3_moveTo_trackB pb), .int (X3_moveTo_steps ta tbk sp pa pb)]))] := by rw [← e_31, ← e_32, ← e_33]; exact hD.sub [0] (by decide) rfl
        have e_34 : (1 : Int32) = X3_moveTo_r ta tbk pa pb := by rw [X3_moveTo_r, if_pos c_1]
        exact W.zret (v := 1) hx hb hr rfl (fun t ht hW => ⟨⟨_, (), rfl, e_34, po.ret ht hW hP9 hK hD9⟩, hS.F ht⟩) hS.2.2 dX3_moveTo_98
  · refine lv_iconst (v := 1) hx hb dX3_moveTo_8 (by decide) ?_
    refine lv_goto (tgt := 13) hx hb dX3_moveTo_9 (by decide) ?_
    refine lv_istore_n (lv' := [(3, .int 1), (0, .ref h0), (1, .int pa), (2, .int pb)]) hx hb dX3_moveTo_13 rfl hl (by decide) rfl (fun ls hl => ?_)
    refine lv_iload_n hx hb dX3_moveTo_14 rfl (lv_at hl 3 rfl) ?_
    refine lv_aload_n hx hb dX3_moveTo_15 rfl (lv_at hl 1 rfl) ?_
    refine va_get (D := (dC, dI)) (ci := 4) (v := .int tbk) (C := RX3) (T := TX3) (N := 3) hx hb hts iX3 hown hK hP 0 rfl rfl 1 (by decide) (hts (.fieldLink RX3 13 "PulseRows$Wheel" "trackB" "Z") (List.mem_of_getElem? (i := 2) rfl)) (fun _ h9 => h9) rfl dX3_moveTo_16 ?_
    refine lv_icmp_eq (tgt := 26) hx hb dX3_moveTo_19 (by decide) (fun c_35 => ?_) (fun c_35 => ?_)
    · refine lv_iconst (v := 0) hx hb dX3_moveTo_26 (by decide) ?_
      refine lv_istore (lv' := [(4, .int 0), (3, .int 1), (0, .ref h0), (1, .int pa), (2, .int pb)]) hx hb dX3_moveTo_27 hl (by decide) rfl (fun ls hl => ?_)
      refine lv_aload_n hx hb dX3_moveTo_29 rfl (lv_at hl 2 rfl) ?_
      refine va_get (D := (dC, dI)) (ci := 4) (v := .int ta) (C := RX3) (T := TX3) (N := 3) hx hb hts iX3 hown hK hP 0 rfl rfl 0 (by decide) (hts (.fieldLink RX3 7 "PulseRows$Wheel" "trackA" "Z") (List.mem_of_getElem? (i := 1) rfl)) (fun _ h9 => h9) rfl dX3_moveTo_30 ?_
      refine lv_aload_n hx hb dX3_moveTo_33 rfl (lv_at hl 2 rfl) ?_
      refine va_get (D := (dC, dI)) (ci := 4) (v := .int tbk) (C := RX3) (T := TX3) (N := 3) hx hb hts iX3 hown hK hP 0 rfl rfl 1 (by decide) (hts (.fieldLink RX3 13 "PulseRows$Wheel" "trackB" "Z") (List.mem_of_getElem? (i := 2) rfl)) (fun _ h9 => h9) rfl dX3_moveTo_34 ?_
      refine lv_icmp_ne (tgt := 44) hx hb dX3_moveTo_37 (by decide) (fun c_36 => ?_) (fun c_36 => ?_)
      · refine lv_iconst (v := 0) hx hb dX3_moveTo_44 (by decide) ?_
        refine lv_istore (lv' := [(5, .int 0), (4, .int 0), (3, .int 1), (0, .ref h0), (1, .int pa), (2, .int pb)]) hx hb dX3_moveTo_45 hl (by decide) rfl (fun ls hl => ?_)
        refine lv_aload_n hx hb dX3_moveTo_47 rfl (lv_at hl 3 rfl) ?_
        refine lv_iload_n hx hb dX3_moveTo_48 rfl (lv_at hl 4 rfl) ?_
        refine va_put (D := (dC, dI)) (ci := 4) (v := .int pa) (ty := .boolean) (C := RX3) (T := TX3) (N := 3) hx hb hts iX3 tyX3 tyX3_ok nmX3 hown hK hP hD hS 0 rfl rfl 0 (by decide) (hts (.fieldLink RX3 7 "PulseRows$Wheel" "trackA" "Z") (List.mem_of_getElem? (i := 1) rfl)) (fun _ h9 => h9) rfl (by decide +kernel) (hz_pa).nar (hz_pa).fit (Nat.le_of_ble_eq_true rfl) dX3_moveTo_49 (fun H locs hP hD hS => ?_)
        have hP : va_P (dC, dI) vwCl [(h0, .inr (4, [.int pa, .int tbk, .int sp]))] H := hP
        have hD : va_D A [(h0, .inr (4, [.int pa, .int tbk, .int sp]))] := hD
        refine lv_aload_n hx hb dX3_moveTo_52 rfl (lv_at hl 3 rfl) ?_
        refine lv_iload_n hx hb dX3_moveTo_53 rfl (lv_at hl 5 rfl) ?_
        refine va_put (D := (dC, dI)) (ci := 4) (v := .int pb) (ty := .boolean) (C := RX3) (T := TX3) (N := 3) hx hb hts iX3 tyX3 tyX3_ok nmX3 hown hK hP hD hS 0 rfl rfl 1 (by decide) (hts (.fieldLink RX3 13 "PulseRows$Wheel" "trackB" "Z") (List.mem_of_getElem? (i := 2) rfl)) (fun _ h9 => h9) rfl (by decide +kernel) (hz_pb).nar (hz_pb).fit (Nat.le_of_ble_eq_true rfl) dX3_moveTo_54 (fun H locs hP hD hS => ?_)
        have hP : va_P (dC, dI) vwCl [(h0, .inr (4, [.int pa, .int pb, .int sp]))] H := hP
        have hD : va_D A [(h0, .inr (4, [.int pa, .int pb, .int sp]))] := hD
        refine lv_iload_n hx hb dX3_moveTo_57 rfl (lv_at hl 2 rfl) ?_
        refine lv_if_eq (tgt := 68) hx hb dX3_moveTo_58 (by decide) (fun c9 => absurd c9 (by decide)) (fun _ => ?_)
        refine lv_iload hx hb dX3_moveTo_61 (lv_at hl 1 rfl) ?_
        refine lv_if_eq (tgt := 68) hx hb dX3_moveTo_63 (by decide) (fun _ => ?_) (fun c9 => absurd c9 (by decide))
        refine lv_iload_n hx hb dX3_moveTo_68 rfl (lv_at hl 2 rfl) ?_
        refine lv_if_ne (tgt := 77) hx hb dX3_moveTo_69 (by decide) (fun _ => ?_) (fun c9 => absurd c9 (by decide))
        refine lv_aload_n hx hb dX3_moveTo_77 rfl (lv_at hl 3 rfl) ?_
        refine lv_dup hx hb dX3_moveTo_78 rfl ?_
        refine va_get (D := (dC, dI)) (ci := 4) (v := .int sp) (C := RX3) (T := TX3) (N := 3) hx hb hts iX3 hown hK hP 0 rfl rfl 2 (by decide) (hts (.fieldLink RX3 16 "PulseRows$Wheel" "steps" "I") (List.mem_of_getElem? (i := 3) rfl)) (fun _ h9 => h9) rfl dX3_moveTo_79 ?_
        refine lv_iload_n hx hb dX3_moveTo_82 rfl (lv_at hl 2 rfl) ?_
        refine lv_iload hx hb dX3_moveTo_83 (lv_at hl 0 rfl) ?_
        refine lv_icmp_ne (tgt := 92) hx hb dX3_moveTo_85 (by decide) (fun _ => ?_) (fun c9 => absurd c9 (by decide))
        refine lv_iconst (v := (-1)) hx hb dX3_moveTo_92 (by decide) ?_
        refine lv_iadd hx hb dX3_moveTo_93 ?_
        refine va_put (D := (dC, dI)) (ci := 4) (v := .int (sp + (-1))) (ty := .int) (C := RX3) (T := TX3) (N := 3) hx hb hts iX3 tyX3 tyX3_ok nmX3 hown hK hP hD hS 0 rfl rfl 2 (by decide) (hts (.fieldLink RX3 16 "PulseRows$Wheel" "steps" "I") (List.mem_of_getElem? (i := 3) rfl)) (fun _ h9 => h9) rfl (by decide +kernel) rfl rfl (Nat.le_of_ble_eq_true rfl) dX3_moveTo_94 (fun H locs hP hD hS => ?_)
        have hP : va_P (dC, dI) vwCl [(h0, .inr (4, [.int pa, .int pb, .int (sp + (-1))]))] H := hP
        have hD : va_D A [(h0, .inr (4, [.int pa, .int pb, .int (sp + (-1))]))] := hD
        refine lv_iconst (v := 1) hx hb dX3_moveTo_97 (by decide) ?_
        have e_41 : pa = X3_moveTo_trackA pa := by rw [X3_moveTo_trackA]
        have e_42 : pb = X3_moveTo_trackB pb := by rw [X3_moveTo_trackB]
        have e_43 : sp + (-1) = X3_moveTo_steps ta tbk sp pa pb := by rw [X3_moveTo_steps, if_neg c_1, if_pos c_35, if_neg c_36]
        have hP9 : va_P (dC, dI) vwCl [(h0, .inr (4, [.int (X3_moveTo_trackA pa), .int (X3_moveTo_trackB pb), .int (X3_moveTo_steps ta tbk sp pa pb)]))] H := by rw [← e_41, ← e_42, ← e_43]; exact hP.sub [0] rfl
        have hD9 : va_D A [(h0, .inr (4, [.int (X3_moveTo_trackA pa), .int (X3_moveTo_trackB pb), .int (X3_moveTo_steps ta tbk sp pa pb)]))] := by rw [← e_41, ← e_42, ← e_43]; exact hD.sub [0] (by decide) rfl
        have e_44 : (1 : Int32) = X3_moveTo_r ta tbk pa pb := by rw [X3_moveTo_r, if_neg c_1, if_pos c_35]
        exact W.zret (v := 1) hx hb hr rfl (fun t ht hW => ⟨⟨_, (), rfl, e_44, po.ret ht hW hP9 hK hD9⟩, hS.F ht⟩) hS.2.2 dX3_moveTo_98
      · refine lv_iconst (v := 1) hx hb dX3_moveTo_40 (by decide) ?_
        refine lv_goto (tgt := 45) hx hb dX3_moveTo_41 (by decide) ?_
        refine lv_istore (lv' := [(5, .int 1), (4, .int 0), (3, .int 1), (0, .ref h0), (1, .int pa), (2, .int pb)]) hx hb dX3_moveTo_45 hl (by decide) rfl (fun ls hl => ?_)
        refine lv_aload_n hx hb dX3_moveTo_47 rfl (lv_at hl 3 rfl) ?_
        refine lv_iload_n hx hb dX3_moveTo_48 rfl (lv_at hl 4 rfl) ?_
        refine va_put (D := (dC, dI)) (ci := 4) (v := .int pa) (ty := .boolean) (C := RX3) (T := TX3) (N := 3) hx hb hts iX3 tyX3 tyX3_ok nmX3 hown hK hP hD hS 0 rfl rfl 0 (by decide) (hts (.fieldLink RX3 7 "PulseRows$Wheel" "trackA" "Z") (List.mem_of_getElem? (i := 1) rfl)) (fun _ h9 => h9) rfl (by decide +kernel) (hz_pa).nar (hz_pa).fit (Nat.le_of_ble_eq_true rfl) dX3_moveTo_49 (fun H locs hP hD hS => ?_)
        have hP : va_P (dC, dI) vwCl [(h0, .inr (4, [.int pa, .int tbk, .int sp]))] H := hP
        have hD : va_D A [(h0, .inr (4, [.int pa, .int tbk, .int sp]))] := hD
        refine lv_aload_n hx hb dX3_moveTo_52 rfl (lv_at hl 3 rfl) ?_
        refine lv_iload_n hx hb dX3_moveTo_53 rfl (lv_at hl 5 rfl) ?_
        refine va_put (D := (dC, dI)) (ci := 4) (v := .int pb) (ty := .boolean) (C := RX3) (T := TX3) (N := 3) hx hb hts iX3 tyX3 tyX3_ok nmX3 hown hK hP hD hS 0 rfl rfl 1 (by decide) (hts (.fieldLink RX3 13 "PulseRows$Wheel" "trackB" "Z") (List.mem_of_getElem? (i := 2) rfl)) (fun _ h9 => h9) rfl (by decide +kernel) (hz_pb).nar (hz_pb).fit (Nat.le_of_ble_eq_true rfl) dX3_moveTo_54 (fun H locs hP hD hS => ?_)
        have hP : va_P (dC, dI) vwCl [(h0, .inr (4, [.int pa, .int pb, .int sp]))] H := hP
        have hD : va_D A [(h0, .inr (4, [.int pa, .int pb, .int sp]))] := hD
        refine lv_iload_n hx hb dX3_moveTo_57 rfl (lv_at hl 2 rfl) ?_
        refine lv_if_eq (tgt := 68) hx hb dX3_moveTo_58 (by decide) (fun c9 => absurd c9 (by decide)) (fun _ => ?_)
        refine lv_iload hx hb dX3_moveTo_61 (lv_at hl 1 rfl) ?_
        refine lv_if_eq (tgt := 68) hx hb dX3_moveTo_63 (by decide) (fun _ => ?_) (fun c9 => absurd c9 (by decide))
        refine lv_iload_n hx hb dX3_moveTo_68 rfl (lv_at hl 2 rfl) ?_
        refine lv_if_ne (tgt := 77) hx hb dX3_moveTo_69 (by decide) (fun _ => ?_) (fun c9 => absurd c9 (by decide))
        refine lv_aload_n hx hb dX3_moveTo_77 rfl (lv_at hl 3 rfl) ?_
        refine lv_dup hx hb dX3_moveTo_78 rfl ?_
        refine va_get (D := (dC, dI)) (ci := 4) (v := .int sp) (C := RX3) (T := TX3) (N := 3) hx hb hts iX3 hown hK hP 0 rfl rfl 2 (by decide) (hts (.fieldLink RX3 16 "PulseRows$Wheel" "steps" "I") (List.mem_of_getElem? (i := 3) rfl)) (fun _ h9 => h9) rfl dX3_moveTo_79 ?_
        refine lv_iload_n hx hb dX3_moveTo_82 rfl (lv_at hl 2 rfl) ?_
        refine lv_iload hx hb dX3_moveTo_83 (lv_at hl 0 rfl) ?_
        refine lv_icmp_ne (tgt := 92) hx hb dX3_moveTo_85 (by decide) (fun c9 => absurd c9 (by decide)) (fun _ => ?_)
        refine lv_iconst (v := 1) hx hb dX3_moveTo_88 (by decide) ?_
        refine lv_goto (tgt := 93) hx hb dX3_moveTo_89 (by decide) ?_
        refine lv_iadd hx hb dX3_moveTo_93 ?_
        refine va_put (D := (dC, dI)) (ci := 4) (v := .int (sp + 1)) (ty := .int) (C := RX3) (T := TX3) (N := 3) hx hb hts iX3 tyX3 tyX3_ok nmX3 hown hK hP hD hS 0 rfl rfl 2 (by decide) (hts (.fieldLink RX3 16 "PulseRows$Wheel" "steps" "I") (List.mem_of_getElem? (i := 3) rfl)) (fun _ h9 => h9) rfl (by decide +kernel) rfl rfl (Nat.le_of_ble_eq_true rfl) dX3_moveTo_94 (fun H locs hP hD hS => ?_)
        have hP : va_P (dC, dI) vwCl [(h0, .inr (4, [.int pa, .int pb, .int (sp + 1)]))] H := hP
        have hD : va_D A [(h0, .inr (4, [.int pa, .int pb, .int (sp + 1)]))] := hD
        refine lv_iconst (v := 1) hx hb dX3_moveTo_97 (by decide) ?_
        have e_49 : pa = X3_moveTo_trackA pa := by rw [X3_moveTo_trackA]
        have e_50 : pb = X3_moveTo_trackB pb := by rw [X3_moveTo_trackB]
        have e_51 : sp + 1 = X3_moveTo_steps ta tbk sp pa pb := by rw [X3_moveTo_steps, if_neg c_1, if_pos c_35, if_pos c_36]
        have hP9 : va_P (dC, dI) vwCl [(h0, .inr (4, [.int (X3_moveTo_trackA pa), .int (X3_moveTo_trackB pb), .int (X3_moveTo_steps ta tbk sp pa pb)]))] H := by rw [← e_49, ← e_50, ← e_51]; exact hP.sub [0] rfl
        have hD9 : va_D A [(h0, .inr (4, [.int (X3_moveTo_trackA pa), .int (X3_moveTo_trackB pb), .int (X3_moveTo_steps ta tbk sp pa pb)]))] := by rw [← e_49, ← e_50, ← e_51]; exact hD.sub [0] (by decide) rfl
        have e_52 : (1 : Int32) = X3_moveTo_r ta tbk pa pb := by rw [X3_moveTo_r, if_neg c_1, if_pos c_35]
        exact W.zret (v := 1) hx hb hr rfl (fun t ht hW => ⟨⟨_, (), rfl, e_52, po.ret ht hW hP9 hK hD9⟩, hS.F ht⟩) hS.2.2 dX3_moveTo_98
    · refine lv_iconst (v := 1) hx hb dX3_moveTo_22 (by decide) ?_
      refine lv_goto (tgt := 27) hx hb dX3_moveTo_23 (by decide) ?_
      refine lv_istore (lv' := [(4, .int 1), (3, .int 1), (0, .ref h0), (1, .int pa), (2, .int pb)]) hx hb dX3_moveTo_27 hl (by decide) rfl (fun ls hl => ?_)
      refine lv_aload_n hx hb dX3_moveTo_29 rfl (lv_at hl 2 rfl) ?_
      refine va_get (D := (dC, dI)) (ci := 4) (v := .int ta) (C := RX3) (T := TX3) (N := 3) hx hb hts iX3 hown hK hP 0 rfl rfl 0 (by decide) (hts (.fieldLink RX3 7 "PulseRows$Wheel" "trackA" "Z") (List.mem_of_getElem? (i := 1) rfl)) (fun _ h9 => h9) rfl dX3_moveTo_30 ?_
      refine lv_aload_n hx hb dX3_moveTo_33 rfl (lv_at hl 2 rfl) ?_
      refine va_get (D := (dC, dI)) (ci := 4) (v := .int tbk) (C := RX3) (T := TX3) (N := 3) hx hb hts iX3 hown hK hP 0 rfl rfl 1 (by decide) (hts (.fieldLink RX3 13 "PulseRows$Wheel" "trackB" "Z") (List.mem_of_getElem? (i := 2) rfl)) (fun _ h9 => h9) rfl dX3_moveTo_34 ?_
      refine lv_icmp_ne (tgt := 44) hx hb dX3_moveTo_37 (by decide) (fun c_53 => ?_) (fun c_53 => ?_)
      · refine lv_iconst (v := 0) hx hb dX3_moveTo_44 (by decide) ?_
        refine lv_istore (lv' := [(5, .int 0), (4, .int 1), (3, .int 1), (0, .ref h0), (1, .int pa), (2, .int pb)]) hx hb dX3_moveTo_45 hl (by decide) rfl (fun ls hl => ?_)
        refine lv_aload_n hx hb dX3_moveTo_47 rfl (lv_at hl 3 rfl) ?_
        refine lv_iload_n hx hb dX3_moveTo_48 rfl (lv_at hl 4 rfl) ?_
        refine va_put (D := (dC, dI)) (ci := 4) (v := .int pa) (ty := .boolean) (C := RX3) (T := TX3) (N := 3) hx hb hts iX3 tyX3 tyX3_ok nmX3 hown hK hP hD hS 0 rfl rfl 0 (by decide) (hts (.fieldLink RX3 7 "PulseRows$Wheel" "trackA" "Z") (List.mem_of_getElem? (i := 1) rfl)) (fun _ h9 => h9) rfl (by decide +kernel) (hz_pa).nar (hz_pa).fit (Nat.le_of_ble_eq_true rfl) dX3_moveTo_49 (fun H locs hP hD hS => ?_)
        have hP : va_P (dC, dI) vwCl [(h0, .inr (4, [.int pa, .int tbk, .int sp]))] H := hP
        have hD : va_D A [(h0, .inr (4, [.int pa, .int tbk, .int sp]))] := hD
        refine lv_aload_n hx hb dX3_moveTo_52 rfl (lv_at hl 3 rfl) ?_
        refine lv_iload_n hx hb dX3_moveTo_53 rfl (lv_at hl 5 rfl) ?_
        refine va_put (D := (dC, dI)) (ci := 4) (v := .int pb) (ty := .boolean) (C := RX3) (T := TX3) (N := 3) hx hb hts iX3 tyX3 tyX3_ok nmX3 hown hK hP hD hS 0 rfl rfl 1 (by decide) (hts (.fieldLink RX3 13 "PulseRows$Wheel" "trackB" "Z") (List.mem_of_getElem? (i := 2) rfl)) (fun _ h9 => h9) rfl (by decide +kernel) (hz_pb).nar (hz_pb).fit (Nat.le_of_ble_eq_true rfl) dX3_moveTo_54 (fun H locs hP hD hS => ?_)
        have hP : va_P (dC, dI) vwCl [(h0, .inr (4, [.int pa, .int pb, .int sp]))] H := hP
        have hD : va_D A [(h0, .inr (4, [.int pa, .int pb, .int sp]))] := hD
        refine lv_iload_n hx hb dX3_moveTo_57 rfl (lv_at hl 2 rfl) ?_
        refine lv_if_eq (tgt := 68) hx hb dX3_moveTo_58 (by decide) (fun c9 => absurd c9 (by decide)) (fun _ => ?_)
        refine lv_iload hx hb dX3_moveTo_61 (lv_at hl 1 rfl) ?_
        refine lv_if_eq (tgt := 68) hx hb dX3_moveTo_63 (by decide) (fun c9 => absurd c9 (by decide)) (fun _ => ?_)
        refine lv_iconst (v := 0) hx hb dX3_moveTo_66 (by decide) ?_
        have e_56 : pa = X3_moveTo_trackA pa := by rw [X3_moveTo_trackA]
        have e_57 : pb = X3_moveTo_trackB pb := by rw [X3_moveTo_trackB]
        have e_58 : sp = X3_moveTo_steps ta tbk sp pa pb := by rw [X3_moveTo_steps, if_neg c_1, if_neg c_35]
        have hP9 : va_P (dC, dI) vwCl [(h0, .inr (4, [.int (X3_moveTo_trackA pa), .int (X3_moveTo_trackB pb), .int (X3_moveTo_steps ta tbk sp pa pb)]))] H := by rw [← e_56, ← e_57, ← e_58]; exact hP.sub [0] rfl
        have hD9 : va_D A [(h0, .inr (4, [.int (X3_moveTo_trackA pa), .int (X3_moveTo_trackB pb), .int (X3_moveTo_steps ta tbk sp pa pb)]))] := by rw [← e_56, ← e_57, ← e_58]; exact hD.sub [0] (by decide) rfl
        have e_59 : (0 : Int32) = X3_moveTo_r ta tbk pa pb := by rw [X3_moveTo_r, if_neg c_1, if_neg c_35]
        exact W.zret (v := 0) hx hb hr rfl (fun t ht hW => ⟨⟨_, (), rfl, e_59, po.ret ht hW hP9 hK hD9⟩, hS.F ht⟩) hS.2.2 dX3_moveTo_67
      · refine lv_iconst (v := 1) hx hb dX3_moveTo_40 (by decide) ?_
        refine lv_goto (tgt := 45) hx hb dX3_moveTo_41 (by decide) ?_
        refine lv_istore (lv' := [(5, .int 1), (4, .int 1), (3, .int 1), (0, .ref h0), (1, .int pa), (2, .int pb)]) hx hb dX3_moveTo_45 hl (by decide) rfl (fun ls hl => ?_)
        refine lv_aload_n hx hb dX3_moveTo_47 rfl (lv_at hl 3 rfl) ?_
        refine lv_iload_n hx hb dX3_moveTo_48 rfl (lv_at hl 4 rfl) ?_
        refine va_put (D := (dC, dI)) (ci := 4) (v := .int pa) (ty := .boolean) (C := RX3) (T := TX3) (N := 3) hx hb hts iX3 tyX3 tyX3_ok nmX3 hown hK hP hD hS 0 rfl rfl 0 (by decide) (hts (.fieldLink RX3 7 "PulseRows$Wheel" "trackA" "Z") (List.mem_of_getElem? (i := 1) rfl)) (fun _ h9 => h9) rfl (by decide +kernel) (hz_pa).nar (hz_pa).fit (Nat.le_of_ble_eq_true rfl) dX3_moveTo_49 (fun H locs hP hD hS => ?_)
        have hP : va_P (dC, dI) vwCl [(h0, .inr (4, [.int pa, .int tbk, .int sp]))] H := hP
        have hD : va_D A [(h0, .inr (4, [.int pa, .int tbk, .int sp]))] := hD
        refine lv_aload_n hx hb dX3_moveTo_52 rfl (lv_at hl 3 rfl) ?_
        refine lv_iload_n hx hb dX3_moveTo_53 rfl (lv_at hl 5 rfl) ?_
        refine va_put (D := (dC, dI)) (ci := 4) (v := .int pb) (ty := .boolean) (C := RX3) (T := TX3) (N := 3) hx hb hts iX3 tyX3 tyX3_ok nmX3 hown hK hP hD hS 0 rfl rfl 1 (by decide) (hts (.fieldLink RX3 13 "PulseRows$Wheel" "trackB" "Z") (List.mem_of_getElem? (i := 2) rfl)) (fun _ h9 => h9) rfl (by decide +kernel) (hz_pb).nar (hz_pb).fit (Nat.le_of_ble_eq_true rfl) dX3_moveTo_54 (fun H locs hP hD hS => ?_)
        have hP : va_P (dC, dI) vwCl [(h0, .inr (4, [.int pa, .int pb, .int sp]))] H := hP
        have hD : va_D A [(h0, .inr (4, [.int pa, .int pb, .int sp]))] := hD
        refine lv_iload_n hx hb dX3_moveTo_57 rfl (lv_at hl 2 rfl) ?_
        refine lv_if_eq (tgt := 68) hx hb dX3_moveTo_58 (by decide) (fun c9 => absurd c9 (by decide)) (fun _ => ?_)
        refine lv_iload hx hb dX3_moveTo_61 (lv_at hl 1 rfl) ?_
        refine lv_if_eq (tgt := 68) hx hb dX3_moveTo_63 (by decide) (fun c9 => absurd c9 (by decide)) (fun _ => ?_)
        refine lv_iconst (v := 0) hx hb dX3_moveTo_66 (by decide) ?_
        have e_62 : pa = X3_moveTo_trackA pa := by rw [X3_moveTo_trackA]
        have e_63 : pb = X3_moveTo_trackB pb := by rw [X3_moveTo_trackB]
        have e_64 : sp = X3_moveTo_steps ta tbk sp pa pb := by rw [X3_moveTo_steps, if_neg c_1, if_neg c_35]
        have hP9 : va_P (dC, dI) vwCl [(h0, .inr (4, [.int (X3_moveTo_trackA pa), .int (X3_moveTo_trackB pb), .int (X3_moveTo_steps ta tbk sp pa pb)]))] H := by rw [← e_62, ← e_63, ← e_64]; exact hP.sub [0] rfl
        have hD9 : va_D A [(h0, .inr (4, [.int (X3_moveTo_trackA pa), .int (X3_moveTo_trackB pb), .int (X3_moveTo_steps ta tbk sp pa pb)]))] := by rw [← e_62, ← e_63, ← e_64]; exact hD.sub [0] (by decide) rfl
        have e_65 : (0 : Int32) = X3_moveTo_r ta tbk pa pb := by rw [X3_moveTo_r, if_neg c_1, if_neg c_35]
        exact W.zret (v := 0) hx hb hr rfl (fun t ht hW => ⟨⟨_, (), rfl, e_65, po.ret ht hW hP9 hK hD9⟩, hS.F ht⟩) hS.2.2 dX3_moveTo_67
def X3_position_r (sp : Int32) : Int32 := sp
set_option maxHeartbeats 4000000 in
set_option maxRecDepth 100000 in
theorem k_X3_position (l : Launch) (dC : Nat → ClassId) (dI : Nat → Nat → Nat) (sz : Nat) (h0 : Nat) (ta : Int32) (tbk : Int32) (sp : Int32)  : Met l yX3_position wsX3_position ({ frames := 0, cells := 0, slots := 0, locals := 0 }) (va_Pc [.ref h0] (pr (dC, dI) [] [(h0, .inr (4, [.int ta, .int tbk, .int sp]))] sz)) (va_Qi (fun (r : Int32) (_ : Unit) => r = X3_position_r sp) (fun _ t => po (dC, dI) [] (va_A [(h0, .inr (4, [.int ta, .int tbk, .int sp]))] sz) [(h0, .inr (4, [.int ta, .int tbk, .int sp]))] t) (va_A [(h0, .inr (4, [.int ta, .int tbk, .int sp]))] sz)) 0 0 (va_A [(h0, .inr (4, [.int ta, .int tbk, .int sp]))] sz) := by
  refine Met.ofW (cc := cX3_position) (maxL := 1) (ret := (some .int)) (by decide) rfl ?_
  intro p e s m args below meth c s₁ B hml hv
  obtain ⟨rfl, hsz, hP, hK, hD0⟩ := hv
  have hx := B.exec
  have hb := B.bytes
  have hr := B.returns
  have hts := atoms_spec (ws := wsX3_position) B.pre
  have hown : s.vm.findClass RX3 = some m.cls := findClass_of_methodNamed B.named
  have hlocks := B.notSynchronized
  subst hsz
  have hD := hD0.self (sz := s.heap.size)
  generalize hAe : va_A [(h0, .inr (4, [.int ta, .int tbk, .int sp]))] s.heap.size = A at hD ⊢
  have hA : ∀ q : Nat, s.heap.size ≤ q → A q := fun q h => by rw [← hAe]; exact Or.inr h
  have hS : va_S A s.heap s.heap [] := va_S.rf
  have hP : va_P (dC, dI) vwCl [(h0, .inr (4, [.int ta, .int tbk, .int sp]))] s.heap := hP
  have iX3 : ∀ w ∈ wsX30, w ∈ wsX3_position := by decide +kernel
  have hl := lv_entry ([.ref h0]) (n := 1) (Nat.le_of_ble_eq_true rfl)
  rw [lg_entry_eq]
  generalize (lg_sl ([.ref h0]) ++ List.replicate (1 - (lg_sl ([.ref h0])).length) Slot.unset).toArray = ls at hl ⊢
  have hl : lv_has ls 1 [(0, .ref h0)] := hl
  refine lv_aload_n hx hb dX3_position_0 rfl (lv_at hl 0 rfl) ?_
  refine va_get (D := (dC, dI)) (ci := 4) (v := .int sp) (C := RX3) (T := TX3) (N := 3) hx hb hts iX3 hown hK hP 0 rfl rfl 2 (by decide) (hts (.fieldLink RX3 16 "PulseRows$Wheel" "steps" "I") (List.mem_of_getElem? (i := 1) rfl)) (fun _ h9 => h9) rfl dX3_position_1 ?_
  have hP9 : va_P (dC, dI) vwCl [(h0, .inr (4, [.int ta, .int tbk, .int sp]))] s.heap := by exact hP.sub [0] rfl
  have hD9 : va_D A [(h0, .inr (4, [.int ta, .int tbk, .int sp]))] := by exact hD.sub [0] (by decide) rfl
  have e_1 : sp = X3_position_r sp := by rw [X3_position_r]
  exact W.iret (v := sp) hx hb hr (fun t ht hW => ⟨⟨_, (), rfl, e_1, po.ret ht hW hP9 hK hD9⟩, hS.F ht⟩) hS.2.2 dX3_position_4
def X4_isOutsideTime_r (tm : Int64) : Int32 := if tm < 0 then 1 else (if tm ≤ 1152921504606846976 then 0 else 1)
theorem X4_isOutsideTime_r_z (tm : Int64) : z01 (X4_isOutsideTime_r tm) := by unfold X4_isOutsideTime_r; repeat (first | split | with_reducible assumption | with_reducible exact z01_0 | with_reducible exact z01_1 | with_reducible exact X0_tell_r_z _ _ _ _ _ (by assumption) | with_reducible exact X1_hasMark_r_z _ (by assumption) | with_reducible exact X3_moveTo_trackA_z _ (by assumption) | with_reducible exact X3_moveTo_trackB_z _ (by assumption) | with_reducible exact X3_moveTo_r_z _ _ _ _ (by assumption) (by assumption))
set_option maxHeartbeats 4000000 in
set_option maxRecDepth 100000 in
theorem k_X4_isOutsideTime (l : Launch) (dC : Nat → ClassId) (dI : Nat → Nat → Nat) (sz : Nat) (tm : Int64)  : Met l yX4_isOutsideTime wsX4_isOutsideTime ({ frames := 0, cells := 0, slots := 0, locals := 0 }) (va_Pc [.long tm] (pr (dC, dI) [] [] sz)) (va_Qi (fun (r : Int32) (_ : Unit) => r = X4_isOutsideTime_r tm) (fun _ t => po (dC, dI) [] (va_A [] sz) [] t) (va_A [] sz)) 0 0 (va_A [] sz) := by
  refine Met.ofW (cc := cX4_isOutsideTime) (maxL := 2) (ret := (some .boolean)) (by decide) rfl ?_
  intro p e s m args below meth c s₁ B hml hv
  obtain ⟨rfl, hsz, hP, hK, hD0⟩ := hv
  have hx := B.exec
  have hb := B.bytes
  have hr := B.returns
  have hts := atoms_spec (ws := wsX4_isOutsideTime) B.pre
  have hown : s.vm.findClass RX4 = some m.cls := findClass_of_methodNamed B.named
  have hlocks := B.notSynchronized
  subst hsz
  have hD := hD0.self (sz := s.heap.size)
  generalize hAe : va_A [] s.heap.size = A at hD ⊢
  have hA : ∀ q : Nat, s.heap.size ≤ q → A q := fun q h => by rw [← hAe]; exact Or.inr h
  have hS : va_S A s.heap s.heap [] := va_S.rf
  have hP : va_P (dC, dI) vwCl [] s.heap := hP
  have hl := lv_entry ([.long tm]) (n := 2) (Nat.le_of_ble_eq_true rfl)
  rw [lg_entry_eq]
  generalize (lg_sl ([.long tm]) ++ List.replicate (2 - (lg_sl ([.long tm])).length) Slot.unset).toArray = ls at hl ⊢
  have hl : lv_has ls 2 [(0, .long tm)] := hl
  refine lv_lload_n hx hb dX4_isOutsideTime_0 rfl (lv_at hl 0 rfl) ?_
  refine lv_lconst (v := 0) hx hb dX4_isOutsideTime_1 (by decide) ?_
  refine W.lcmp hx hb dX4_isOutsideTime_2 ?_
  refine lv_if_lt (tgt := 14) hx hb dX4_isOutsideTime_3 (by decide) (fun c_1 => ?_) (fun c_1 => ?_)
  · rw [lg_cmp_lt] at c_1
    refine lv_iconst (v := 1) hx hb dX4_isOutsideTime_14 (by decide) ?_
    refine lv_goto (tgt := 19) hx hb dX4_isOutsideTime_15 (by decide) ?_
    have hP9 : va_P (dC, dI) vwCl [] s.heap := by exact hP.sub [] rfl
    have hD9 : va_D A [] := by exact hD.sub [] (by decide) rfl
    have e_2 : (1 : Int32) = X4_isOutsideTime_r tm := by rw [X4_isOutsideTime_r, if_pos c_1]
    exact W.zret (v := 1) hx hb hr rfl (fun t ht hW => ⟨⟨_, (), rfl, e_2, po.ret ht hW hP9 hK hD9⟩, hS.F ht⟩) hS.2.2 dX4_isOutsideTime_19
  · rw [lg_cmp_lt] at c_1
    refine lv_lload_n hx hb dX4_isOutsideTime_6 rfl (lv_at hl 0 rfl) ?_
    refine lv_ldc2 hx hb hown (hts (.constantLong RX4 147 (1152921504606846976)) (List.mem_of_getElem? (i := 1) rfl)) dX4_isOutsideTime_7 ?_
    refine W.lcmp hx hb dX4_isOutsideTime_10 ?_
    refine lv_if_le (tgt := 18) hx hb dX4_isOutsideTime_11 (by decide) (fun c_3 => ?_) (fun c_3 => ?_)
    · rw [lg_cmp_le] at c_3
      refine lv_iconst (v := 0) hx hb dX4_isOutsideTime_18 (by decide) ?_
      have hP9 : va_P (dC, dI) vwCl [] s.heap := by exact hP.sub [] rfl
      have hD9 : va_D A [] := by exact hD.sub [] (by decide) rfl
      have e_4 : (0 : Int32) = X4_isOutsideTime_r tm := by rw [X4_isOutsideTime_r, if_neg c_1, if_pos c_3]
      exact W.zret (v := 0) hx hb hr rfl (fun t ht hW => ⟨⟨_, (), rfl, e_4, po.ret ht hW hP9 hK hD9⟩, hS.F ht⟩) hS.2.2 dX4_isOutsideTime_19
    · rw [lg_cmp_le] at c_3
      refine lv_iconst (v := 1) hx hb dX4_isOutsideTime_14 (by decide) ?_
      refine lv_goto (tgt := 19) hx hb dX4_isOutsideTime_15 (by decide) ?_
      have hP9 : va_P (dC, dI) vwCl [] s.heap := by exact hP.sub [] rfl
      have hD9 : va_D A [] := by exact hD.sub [] (by decide) rfl
      have e_5 : (1 : Int32) = X4_isOutsideTime_r tm := by rw [X4_isOutsideTime_r, if_neg c_1, if_neg c_3]
      exact W.zret (v := 1) hx hb hr rfl (fun t ht hW => ⟨⟨_, (), rfl, e_5, po.ret ht hW hP9 hK hD9⟩, hS.F ht⟩) hS.2.2 dX4_isOutsideTime_19
def X4_nibbleAt_r (row : Int32) (place : Int32) : Int32 := (ush row ((4 : Int32) * place)) &&& 15
set_option maxHeartbeats 4000000 in
set_option maxRecDepth 100000 in
theorem k_X4_nibbleAt (l : Launch) (dC : Nat → ClassId) (dI : Nat → Nat → Nat) (sz : Nat) (row : Int32) (place : Int32)  : Met l yX4_nibbleAt wsX4_nibbleAt ({ frames := 0, cells := 0, slots := 0, locals := 0 }) (va_Pc [.int row, .int place] (pr (dC, dI) [] [] sz)) (va_Qi (fun (r : Int32) (_ : Unit) => r = X4_nibbleAt_r row place) (fun _ t => po (dC, dI) [] (va_A [] sz) [] t) (va_A [] sz)) 0 0 (va_A [] sz) := by
  refine Met.ofW (cc := cX4_nibbleAt) (maxL := 2) (ret := (some .int)) (by decide) rfl ?_
  intro p e s m args below meth c s₁ B hml hv
  obtain ⟨rfl, hsz, hP, hK, hD0⟩ := hv
  have hx := B.exec
  have hb := B.bytes
  have hr := B.returns
  have hts := atoms_spec (ws := wsX4_nibbleAt) B.pre
  have hown : s.vm.findClass RX4 = some m.cls := findClass_of_methodNamed B.named
  have hlocks := B.notSynchronized
  subst hsz
  have hD := hD0.self (sz := s.heap.size)
  generalize hAe : va_A [] s.heap.size = A at hD ⊢
  have hA : ∀ q : Nat, s.heap.size ≤ q → A q := fun q h => by rw [← hAe]; exact Or.inr h
  have hS : va_S A s.heap s.heap [] := va_S.rf
  have hP : va_P (dC, dI) vwCl [] s.heap := hP
  have hl := lv_entry ([.int row, .int place]) (n := 2) (Nat.le_of_ble_eq_true rfl)
  rw [lg_entry_eq]
  generalize (lg_sl ([.int row, .int place]) ++ List.replicate (2 - (lg_sl ([.int row, .int place])).length) Slot.unset).toArray = ls at hl ⊢
  have hl : lv_has ls 2 [(0, .int row), (1, .int place)] := hl
  refine lv_iload_n hx hb dX4_nibbleAt_0 rfl (lv_at hl 0 rfl) ?_
  refine lv_iconst (v := 4) hx hb dX4_nibbleAt_1 (by decide) ?_
  refine lv_iload_n hx hb dX4_nibbleAt_2 rfl (lv_at hl 1 rfl) ?_
  refine lv_imul hx hb dX4_nibbleAt_3 ?_
  refine lv_iushr (v := ush row ((4 : Int32) * place)) hx hb dX4_nibbleAt_4 rfl ?_
  refine lv_bipush (v := 15) hx hb dX4_nibbleAt_5 (by decide) ?_
  refine lv_iand hx hb dX4_nibbleAt_7 ?_
  have hP9 : va_P (dC, dI) vwCl [] s.heap := by exact hP.sub [] rfl
  have hD9 : va_D A [] := by exact hD.sub [] (by decide) rfl
  have e_1 : (ush row ((4 : Int32) * place)) &&& 15 = X4_nibbleAt_r row place := by rw [X4_nibbleAt_r]
  exact W.iret (v := (ush row ((4 : Int32) * place)) &&& 15) hx hb hr (fun t ht hW => ⟨⟨_, (), rfl, e_1, po.ret ht hW hP9 hK hD9⟩, hS.F ht⟩) hS.2.2 dX4_nibbleAt_8
def X4_dataOf_r (frame : Int32) : Int32 := (ush frame 4) &&& 16777215
set_option maxHeartbeats 4000000 in
set_option maxRecDepth 100000 in
theorem k_X4_dataOf (l : Launch) (dC : Nat → ClassId) (dI : Nat → Nat → Nat) (sz : Nat) (frame : Int32)  : Met l yX4_dataOf wsX4_dataOf ({ frames := 0, cells := 0, slots := 0, locals := 0 }) (va_Pc [.int frame] (pr (dC, dI) [] [] sz)) (va_Qi (fun (r : Int32) (_ : Unit) => r = X4_dataOf_r frame) (fun _ t => po (dC, dI) [] (va_A [] sz) [] t) (va_A [] sz)) 0 0 (va_A [] sz) := by
  refine Met.ofW (cc := cX4_dataOf) (maxL := 1) (ret := (some .int)) (by decide) rfl ?_
  intro p e s m args below meth c s₁ B hml hv
  obtain ⟨rfl, hsz, hP, hK, hD0⟩ := hv
  have hx := B.exec
  have hb := B.bytes
  have hr := B.returns
  have hts := atoms_spec (ws := wsX4_dataOf) B.pre
  have hown : s.vm.findClass RX4 = some m.cls := findClass_of_methodNamed B.named
  have hlocks := B.notSynchronized
  subst hsz
  have hD := hD0.self (sz := s.heap.size)
  generalize hAe : va_A [] s.heap.size = A at hD ⊢
  have hA : ∀ q : Nat, s.heap.size ≤ q → A q := fun q h => by rw [← hAe]; exact Or.inr h
  have hS : va_S A s.heap s.heap [] := va_S.rf
  have hP : va_P (dC, dI) vwCl [] s.heap := hP
  have hl := lv_entry ([.int frame]) (n := 1) (Nat.le_of_ble_eq_true rfl)
  rw [lg_entry_eq]
  generalize (lg_sl ([.int frame]) ++ List.replicate (1 - (lg_sl ([.int frame])).length) Slot.unset).toArray = ls at hl ⊢
  have hl : lv_has ls 1 [(0, .int frame)] := hl
  refine lv_iload_n hx hb dX4_dataOf_0 rfl (lv_at hl 0 rfl) ?_
  refine lv_iconst (v := 4) hx hb dX4_dataOf_1 (by decide) ?_
  refine lv_iushr (v := ush frame 4) hx hb dX4_dataOf_2 rfl ?_
  refine lv_ldc hx hb hown (hts (.constant RX4 191 (16777215)) (List.mem_of_getElem? (i := 1) rfl)) dX4_dataOf_3 ?_
  refine lv_iand hx hb dX4_dataOf_5 ?_
  have hP9 : va_P (dC, dI) vwCl [] s.heap := by exact hP.sub [] rfl
  have hD9 : va_D A [] := by exact hD.sub [] (by decide) rfl
  have e_1 : (ush frame 4) &&& 16777215 = X4_dataOf_r frame := by rw [X4_dataOf_r]
  exact W.iret (v := (ush frame 4) &&& 16777215) hx hb hr (fun t ht hW => ⟨⟨_, (), rfl, e_1, po.ret ht hW hP9 hK hD9⟩, hS.F ht⟩) hS.2.2 dX4_dataOf_6
def X4_statusOf_r (frame : Int32) : Int32 := X4_nibbleAt_r frame 7
set_option maxHeartbeats 4000000 in
set_option maxRecDepth 100000 in
theorem k_X4_statusOf (l : Launch) (dC : Nat → ClassId) (dI : Nat → Nat → Nat) (sz : Nat) (frame : Int32)  : Met l yX4_statusOf wsX4_statusOf ({ frames := 1, cells := 0, slots := 0, locals := 21 }) (va_Pc [.int frame] (pr (dC, dI) [] [] sz)) (va_Qi (fun (r : Int32) (_ : Unit) => r = X4_statusOf_r frame) (fun _ t => po (dC, dI) [] (va_A [] sz) [] t) (va_A [] sz)) 0 0 (va_A [] sz) := by
  refine Met.ofW (cc := cX4_statusOf) (maxL := 1) (ret := (some .int)) (by decide) rfl ?_
  intro p e s m args below meth c s₁ B hml hv
  obtain ⟨rfl, hsz, hP, hK, hD0⟩ := hv
  have hx := B.exec
  have hb := B.bytes
  have hr := B.returns
  have hts := atoms_spec (ws := wsX4_statusOf) B.pre
  have hown : s.vm.findClass RX4 = some m.cls := findClass_of_methodNamed B.named
  have hlocks := B.notSynchronized
  subst hsz
  have hD := hD0.self (sz := s.heap.size)
  generalize hAe : va_A [] s.heap.size = A at hD ⊢
  have hA : ∀ q : Nat, s.heap.size ≤ q → A q := fun q h => by rw [← hAe]; exact Or.inr h
  have hS : va_S A s.heap s.heap [] := va_S.rf
  have hP : va_P (dC, dI) vwCl [] s.heap := hP
  have hl := lv_entry ([.int frame]) (n := 1) (Nat.le_of_ble_eq_true rfl)
  rw [lg_entry_eq]
  generalize (lg_sl ([.int frame]) ++ List.replicate (1 - (lg_sl ([.int frame])).length) Slot.unset).toArray = ls at hl ⊢
  have hl : lv_has ls 1 [(0, .int frame)] := hl
  refine lv_iload_n hx hb dX4_statusOf_0 rfl (lv_at hl 0 rfl) ?_
  refine lv_bipush (v := 7) hx hb dX4_statusOf_1 (by decide) ?_
  have hPc := hP.sub (ws' := []) [] rfl
  have hDc := hD.sub (ws' := []) [] (by decide) rfl
  have hKc := hK.sub (tys' := []) [] rfl
  have hFc := va_free (wc := []) hD hS hA [] rfl
  refine va_calli (va_runS (As := [.int frame, .int 7]) (rest := []) ⟨hx, hb, hml, hown, hts⟩ (k_X4_nibbleAt l dC dI s.heap.size frame 7) (va_cwS 2 hts gX4_statusOf_X4_nibbleAt rfl rfl rfl (by decide +kernel) ⟨Nat.le_of_ble_eq_true rfl, Nat.le_of_ble_eq_true rfl⟩) ⟨pr.blind, fun U hU hW => ⟨rfl, pr.call hU hW hPc hKc hDc⟩⟩ rfl rfl hl.1 rfl (lv_room (Nat.le_of_ble_eq_true rfl)) dX4_statusOf_3 ⟨Nat.le_of_ble_eq_true rfl, Nat.le_of_ble_eq_true rfl⟩) hS (fun q _ h => hFc q h) hFc (fun r_1 u t H1 locs ht hvm hw hB hz1 hk1 hS => ?_)
  subst r_1
  obtain ⟨hP, hD⟩ := po.join (wr := []) hP hD [] [] rfl rfl (by decide) (by decide) hk1 hFc ht hB
  generalize H1 = H at hP hS ⊢
  clear ht hvm hB hz1 hk1 hPc hDc hKc hFc
  have hP : va_P (dC, dI) vwCl [] H := hP
  have hD : va_D A [] := hD
  refine W.widen (k := 0) (n := 0) (Nat.le_of_ble_eq_true rfl) (Nat.le_of_ble_eq_true rfl) ?_
  have hP9 : va_P (dC, dI) vwCl [] H := by exact hP.sub [] rfl
  have hD9 : va_D A [] := by exact hD.sub [] (by decide) rfl
  have e_2 : X4_nibbleAt_r frame 7 = X4_statusOf_r frame := by rw [X4_statusOf_r]
  exact W.iret (v := X4_nibbleAt_r frame 7) hx hb hr (fun t ht hW => ⟨⟨_, (), rfl, e_2, po.ret ht hW hP9 hK hD9⟩, hS.F ht⟩) hS.2.2 dX4_statusOf_6
def J6_bitCount_0f7a4_r (bw : Int32) : Int32 := (((((((bw - ((ush bw 1) &&& 1431655765)) &&& 858993459) + ((ush (bw - ((ush bw 1) &&& 1431655765)) 2) &&& 858993459)) + (ush (((bw - ((ush bw 1) &&& 1431655765)) &&& 858993459) + ((ush (bw - ((ush bw 1) &&& 1431655765)) 2) &&& 858993459)) 4)) &&& 252645135) + (ush (((((bw - ((ush bw 1) &&& 1431655765)) &&& 858993459) + ((ush (bw - ((ush bw 1) &&& 1431655765)) 2) &&& 858993459)) + (ush (((bw - ((ush bw 1) &&& 1431655765)) &&& 858993459) + ((ush (bw - ((ush bw 1) &&& 1431655765)) 2) &&& 858993459)) 4)) &&& 252645135) 8)) + (ush ((((((bw - ((ush bw 1) &&& 1431655765)) &&& 858993459) + ((ush (bw - ((ush bw 1) &&& 1431655765)) 2) &&& 858993459)) + (ush (((bw - ((ush bw 1) &&& 1431655765)) &&& 858993459) + ((ush (bw - ((ush bw 1) &&& 1431655765)) 2) &&& 858993459)) 4)) &&& 252645135) + (ush (((((bw - ((ush bw 1) &&& 1431655765)) &&& 858993459) + ((ush (bw - ((ush bw 1) &&& 1431655765)) 2) &&& 858993459)) + (ush (((bw - ((ush bw 1) &&& 1431655765)) &&& 858993459) + ((ush (bw - ((ush bw 1) &&& 1431655765)) 2) &&& 858993459)) 4)) &&& 252645135) 8)) 16)) &&& 63
set_option maxHeartbeats 4000000 in
set_option maxRecDepth 100000 in
theorem k_J6_bitCount_0f7a4 (l : Launch) (dC : Nat → ClassId) (dI : Nat → Nat → Nat) (sz : Nat) (bw : Int32)  : Met l yJ6_bitCount_0f7a4 wsJ6_bitCount_0f7a4 ({ frames := 0, cells := 0, slots := 0, locals := 0 }) (va_Pc [.int bw] (pr (dC, dI) [] [] sz)) (va_Qi (fun (r : Int32) (_ : Unit) => r = J6_bitCount_0f7a4_r bw) (fun _ t => po (dC, dI) [] (va_A [] sz) [] t) (va_A [] sz)) 0 0 (va_A [] sz) := by
  refine Met.ofW (cc := cJ6_bitCount_0f7a4) (maxL := 1) (ret := (some .int)) (by decide) rfl ?_
  intro p e s m args below meth c s₁ B hml hv
  obtain ⟨rfl, hsz, hP, hK, hD0⟩ := hv
  have hx := B.exec
  have hb := B.bytes
  have hr := B.returns
  have hts := atoms_spec (ws := wsJ6_bitCount_0f7a4) B.pre
  have hown : s.vm.findClass RJ6 = some m.cls := findClass_of_methodNamed B.named
  have hlocks := B.notSynchronized
  subst hsz
  have hD := hD0.self (sz := s.heap.size)
  generalize hAe : va_A [] s.heap.size = A at hD ⊢
  have hA : ∀ q : Nat, s.heap.size ≤ q → A q := fun q h => by rw [← hAe]; exact Or.inr h
  have hS : va_S A s.heap s.heap [] := va_S.rf
  have hP : va_P (dC, dI) vwCl [] s.heap := hP
  have hl := lv_entry ([.int bw]) (n := 1) (Nat.le_of_ble_eq_true rfl)
  rw [lg_entry_eq]
  generalize (lg_sl ([.int bw]) ++ List.replicate (1 - (lg_sl ([.int bw])).length) Slot.unset).toArray = ls at hl ⊢
  have hl : lv_has ls 1 [(0, .int bw)] := hl
  refine lv_iload_n hx hb dJ6_bitCount_0f7a4_0 rfl (lv_at hl 0 rfl) ?_
  refine lv_iload_n hx hb dJ6_bitCount_0f7a4_1 rfl (lv_at hl 0 rfl) ?_
  refine lv_iconst (v := 1) hx hb dJ6_bitCount_0f7a4_2 (by decide) ?_
  refine lv_iushr (v := ush bw 1) hx hb dJ6_bitCount_0f7a4_3 rfl ?_
  refine lv_ldcw hx hb hown (hts (.constant RJ6 265 (1431655765)) (List.mem_of_getElem? (i := 1) rfl)) dJ6_bitCount_0f7a4_4 ?_
  refine lv_iand hx hb dJ6_bitCount_0f7a4_7 ?_
  refine lv_isub hx hb dJ6_bitCount_0f7a4_8 ?_
  refine lv_istore_n (lv' := [(0, .int (bw - ((ush bw 1) &&& 1431655765)))]) hx hb dJ6_bitCount_0f7a4_9 rfl hl (by decide) rfl (fun ls hl => ?_)
  refine lv_iload_n hx hb dJ6_bitCount_0f7a4_10 rfl (lv_at hl 0 rfl) ?_
  refine lv_ldcw hx hb hown (hts (.constant RJ6 266 (858993459)) (List.mem_of_getElem? (i := 2) rfl)) dJ6_bitCount_0f7a4_11 ?_
  refine lv_iand hx hb dJ6_bitCount_0f7a4_14 ?_
  refine lv_iload_n hx hb dJ6_bitCount_0f7a4_15 rfl (lv_at hl 0 rfl) ?_
  refine lv_iconst (v := 2) hx hb dJ6_bitCount_0f7a4_16 (by decide) ?_
  refine lv_iushr (v := ush (bw - ((ush bw 1) &&& 1431655765)) 2) hx hb dJ6_bitCount_0f7a4_17 rfl ?_
  refine lv_ldcw hx hb hown (hts (.constant RJ6 266 (858993459)) (List.mem_of_getElem? (i := 2) rfl)) dJ6_bitCount_0f7a4_18 ?_
  refine lv_iand hx hb dJ6_bitCount_0f7a4_21 ?_
  refine lv_iadd hx hb dJ6_bitCount_0f7a4_22 ?_
  refine lv_istore_n (lv' := [(0, .int (((bw - ((ush bw 1) &&& 1431655765)) &&& 858993459) + ((ush (bw - ((ush bw 1) &&& 1431655765)) 2) &&& 858993459)))]) hx hb dJ6_bitCount_0f7a4_23 rfl hl (by decide) rfl (fun ls hl => ?_)
  refine lv_iload_n hx hb dJ6_bitCount_0f7a4_24 rfl (lv_at hl 0 rfl) ?_
  refine lv_iload_n hx hb dJ6_bitCount_0f7a4_25 rfl (lv_at hl 0 rfl) ?_
  refine lv_iconst (v := 4) hx hb dJ6_bitCount_0f7a4_26 (by decide) ?_
  refine lv_iushr (v := ush (((bw - ((ush bw 1) &&& 1431655765)) &&& 858993459) + ((ush (bw - ((ush bw 1) &&& 1431655765)) 2) &&& 858993459)) 4) hx hb dJ6_bitCount_0f7a4_27 rfl ?_
  refine lv_iadd hx hb dJ6_bitCount_0f7a4_28 ?_
  refine lv_ldcw hx hb hown (hts (.constant RJ6 267 (252645135)) (List.mem_of_getElem? (i := 3) rfl)) dJ6_bitCount_0f7a4_29 ?_
  refine lv_iand hx hb dJ6_bitCount_0f7a4_32 ?_
  refine lv_istore_n (lv' := [(0, .int (((((bw - ((ush bw 1) &&& 1431655765)) &&& 858993459) + ((ush (bw - ((ush bw 1) &&& 1431655765)) 2) &&& 858993459)) + (ush (((bw - ((ush bw 1) &&& 1431655765)) &&& 858993459) + ((ush (bw - ((ush bw 1) &&& 1431655765)) 2) &&& 858993459)) 4)) &&& 252645135))]) hx hb dJ6_bitCount_0f7a4_33 rfl hl (by decide) rfl (fun ls hl => ?_)
  refine lv_iload_n hx hb dJ6_bitCount_0f7a4_34 rfl (lv_at hl 0 rfl) ?_
  refine lv_iload_n hx hb dJ6_bitCount_0f7a4_35 rfl (lv_at hl 0 rfl) ?_
  refine lv_bipush (v := 8) hx hb dJ6_bitCount_0f7a4_36 (by decide) ?_
  refine lv_iushr (v := ush (((((bw - ((ush bw 1) &&& 1431655765)) &&& 858993459) + ((ush (bw - ((ush bw 1) &&& 1431655765)) 2) &&& 858993459)) + (ush (((bw - ((ush bw 1) &&& 1431655765)) &&& 858993459) + ((ush (bw - ((ush bw 1) &&& 1431655765)) 2) &&& 858993459)) 4)) &&& 252645135) 8) hx hb dJ6_bitCount_0f7a4_38 rfl ?_
  refine lv_iadd hx hb dJ6_bitCount_0f7a4_39 ?_
  refine lv_istore_n (lv' := [(0, .int ((((((bw - ((ush bw 1) &&& 1431655765)) &&& 858993459) + ((ush (bw - ((ush bw 1) &&& 1431655765)) 2) &&& 858993459)) + (ush (((bw - ((ush bw 1) &&& 1431655765)) &&& 858993459) + ((ush (bw - ((ush bw 1) &&& 1431655765)) 2) &&& 858993459)) 4)) &&& 252645135) + (ush (((((bw - ((ush bw 1) &&& 1431655765)) &&& 858993459) + ((ush (bw - ((ush bw 1) &&& 1431655765)) 2) &&& 858993459)) + (ush (((bw - ((ush bw 1) &&& 1431655765)) &&& 858993459) + ((ush (bw - ((ush bw 1) &&& 1431655765)) 2) &&& 858993459)) 4)) &&& 252645135) 8)))]) hx hb dJ6_bitCount_0f7a4_40 rfl hl (by decide) rfl (fun ls hl => ?_)
  refine lv_iload_n hx hb dJ6_bitCount_0f7a4_41 rfl (lv_at hl 0 rfl) ?_
  refine lv_iload_n hx hb dJ6_bitCount_0f7a4_42 rfl (lv_at hl 0 rfl) ?_
  refine lv_bipush (v := 16) hx hb dJ6_bitCount_0f7a4_43 (by decide) ?_
  refine lv_iushr (v := ush ((((((bw - ((ush bw 1) &&& 1431655765)) &&& 858993459) + ((ush (bw - ((ush bw 1) &&& 1431655765)) 2) &&& 858993459)) + (ush (((bw - ((ush bw 1) &&& 1431655765)) &&& 858993459) + ((ush (bw - ((ush bw 1) &&& 1431655765)) 2) &&& 858993459)) 4)) &&& 252645135) + (ush (((((bw - ((ush bw 1) &&& 1431655765)) &&& 858993459) + ((ush (bw - ((ush bw 1) &&& 1431655765)) 2) &&& 858993459)) + (ush (((bw - ((ush bw 1) &&& 1431655765)) &&& 858993459) + ((ush (bw - ((ush bw 1) &&& 1431655765)) 2) &&& 858993459)) 4)) &&& 252645135) 8)) 16) hx hb dJ6_bitCount_0f7a4_45 rfl ?_
  refine lv_iadd hx hb dJ6_bitCount_0f7a4_46 ?_
  refine lv_istore_n (lv' := [(0, .int (((((((bw - ((ush bw 1) &&& 1431655765)) &&& 858993459) + ((ush (bw - ((ush bw 1) &&& 1431655765)) 2) &&& 858993459)) + (ush (((bw - ((ush bw 1) &&& 1431655765)) &&& 858993459) + ((ush (bw - ((ush bw 1) &&& 1431655765)) 2) &&& 858993459)) 4)) &&& 252645135) + (ush (((((bw - ((ush bw 1) &&& 1431655765)) &&& 858993459) + ((ush (bw - ((ush bw 1) &&& 1431655765)) 2) &&& 858993459)) + (ush (((bw - ((ush bw 1) &&& 1431655765)) &&& 858993459) + ((ush (bw - ((ush bw 1) &&& 1431655765)) 2) &&& 858993459)) 4)) &&& 252645135) 8)) + (ush ((((((bw - ((ush bw 1) &&& 1431655765)) &&& 858993459) + ((ush (bw - ((ush bw 1) &&& 1431655765)) 2) &&& 858993459)) + (ush (((bw - ((ush bw 1) &&& 1431655765)) &&& 858993459) + ((ush (bw - ((ush bw 1) &&& 1431655765)) 2) &&& 858993459)) 4)) &&& 252645135) + (ush (((((bw - ((ush bw 1) &&& 1431655765)) &&& 858993459) + ((ush (bw - ((ush bw 1) &&& 1431655765)) 2) &&& 858993459)) + (ush (((bw - ((ush bw 1) &&& 1431655765)) &&& 858993459) + ((ush (bw - ((ush bw 1) &&& 1431655765)) 2) &&& 858993459)) 4)) &&& 252645135) 8)) 16)))]) hx hb dJ6_bitCount_0f7a4_47 rfl hl (by decide) rfl (fun ls hl => ?_)
  refine lv_iload_n hx hb dJ6_bitCount_0f7a4_48 rfl (lv_at hl 0 rfl) ?_
  refine lv_bipush (v := 63) hx hb dJ6_bitCount_0f7a4_49 (by decide) ?_
  refine lv_iand hx hb dJ6_bitCount_0f7a4_51 ?_
  have hP9 : va_P (dC, dI) vwCl [] s.heap := by exact hP.sub [] rfl
  have hD9 : va_D A [] := by exact hD.sub [] (by decide) rfl
  have e_1 : (((((((bw - ((ush bw 1) &&& 1431655765)) &&& 858993459) + ((ush (bw - ((ush bw 1) &&& 1431655765)) 2) &&& 858993459)) + (ush (((bw - ((ush bw 1) &&& 1431655765)) &&& 858993459) + ((ush (bw - ((ush bw 1) &&& 1431655765)) 2) &&& 858993459)) 4)) &&& 252645135) + (ush (((((bw - ((ush bw 1) &&& 1431655765)) &&& 858993459) + ((ush (bw - ((ush bw 1) &&& 1431655765)) 2) &&& 858993459)) + (ush (((bw - ((ush bw 1) &&& 1431655765)) &&& 858993459) + ((ush (bw - ((ush bw 1) &&& 1431655765)) 2) &&& 858993459)) 4)) &&& 252645135) 8)) + (ush ((((((bw - ((ush bw 1) &&& 1431655765)) &&& 858993459) + ((ush (bw - ((ush bw 1) &&& 1431655765)) 2) &&& 858993459)) + (ush (((bw - ((ush bw 1) &&& 1431655765)) &&& 858993459) + ((ush (bw - ((ush bw 1) &&& 1431655765)) 2) &&& 858993459)) 4)) &&& 252645135) + (ush (((((bw - ((ush bw 1) &&& 1431655765)) &&& 858993459) + ((ush (bw - ((ush bw 1) &&& 1431655765)) 2) &&& 858993459)) + (ush (((bw - ((ush bw 1) &&& 1431655765)) &&& 858993459) + ((ush (bw - ((ush bw 1) &&& 1431655765)) 2) &&& 858993459)) 4)) &&& 252645135) 8)) 16)) &&& 63 = J6_bitCount_0f7a4_r bw := by rw [J6_bitCount_0f7a4_r]
  exact W.iret (v := (((((((bw - ((ush bw 1) &&& 1431655765)) &&& 858993459) + ((ush (bw - ((ush bw 1) &&& 1431655765)) 2) &&& 858993459)) + (ush (((bw - ((ush bw 1) &&& 1431655765)) &&& 858993459) + ((ush (bw - ((ush bw 1) &&& 1431655765)) 2) &&& 858993459)) 4)) &&& 252645135) + (ush (((((bw - ((ush bw 1) &&& 1431655765)) &&& 858993459) + ((ush (bw - ((ush bw 1) &&& 1431655765)) 2) &&& 858993459)) + (ush (((bw - ((ush bw 1) &&& 1431655765)) &&& 858993459) + ((ush (bw - ((ush bw 1) &&& 1431655765)) 2) &&& 858993459)) 4)) &&& 252645135) 8)) + (ush ((((((bw - ((ush bw 1) &&& 1431655765)) &&& 858993459) + ((ush (bw - ((ush bw 1) &&& 1431655765)) 2) &&& 858993459)) + (ush (((bw - ((ush bw 1) &&& 1431655765)) &&& 858993459) + ((ush (bw - ((ush bw 1) &&& 1431655765)) 2) &&& 858993459)) 4)) &&& 252645135) + (ush (((((bw - ((ush bw 1) &&& 1431655765)) &&& 858993459) + ((ush (bw - ((ush bw 1) &&& 1431655765)) 2) &&& 858993459)) + (ush (((bw - ((ush bw 1) &&& 1431655765)) &&& 858993459) + ((ush (bw - ((ush bw 1) &&& 1431655765)) 2) &&& 858993459)) 4)) &&& 252645135) 8)) 16)) &&& 63) hx hb hr (fun t ht hW => ⟨⟨_, (), rfl, e_1, po.ret ht hW hP9 hK hD9⟩, hS.F ht⟩) hS.2.2 dJ6_bitCount_0f7a4_52
