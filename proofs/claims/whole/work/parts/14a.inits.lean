def prI (D : va_G) (tys : List (ClassId × FieldType)) (ws : va_W) (sz : Nat) (U : State) : Prop := pr D tys ws sz U ∧ va_Nw (.methodLinkNest RX4 15 yX1_init "PulseRows") U ∧ va_Nw (.methodLinkNest RX4 22 yX2_init "PulseRows") U ∧ va_Nw (.methodLinkNest RX4 29 yX0_init "PulseRows") U ∧ va_Nw (.methodLinkNest RX4 36 yX3_init "PulseRows") U
theorem prI.blind {D : va_G} {tys : List (ClassId × FieldType)} {ws : va_W} {sz : Nat} {av : List Value} : FrameBlind (va_Pc av (prI D tys ws sz)) :=
  fun a U g mk q => ⟨q.1, (pr.blind (av := av) a U g mk ⟨q.1, q.2.1⟩).2, va_Nw.same rfl (u := U) (U := U.calling g mk a) rfl q.2.2.1, va_Nw.same rfl (u := U) (U := U.calling g mk a) rfl q.2.2.2.1, va_Nw.same rfl (u := U) (U := U.calling g mk a) rfl q.2.2.2.2.1, va_Nw.same rfl (u := U) (U := U.calling g mk a) rfl q.2.2.2.2.2⟩
set_option maxHeartbeats 4000000 in
set_option maxRecDepth 100000 in
theorem k_X2_init (l : Launch) (dC : Nat → ClassId) (dI : Nat → Nat → Nat) (sz : Nat) (h0 : Nat) : Met l yX2_init wsX2_init ({ frames := 1, cells := 1, slots := 4, locals := 12 }) (va_Pc [.ref h0] (pr (dC, dI) [] [(h0, .inr (3, [.null, .int 0, .int 0, .int 0]))] sz)) (va_Qv (fun _ : Unit => True) (fun _ t => ∃ q_6 : Nat, ∃ cq_6 : ClassId, po (dC, dI) [(cq_6, .int)] (va_A [(h0, .inr (3, [.null, .int 0, .int 0, .int 0]))] sz) [(h0, .inr (3, [.ref q_6, .int 0, .int 0, .int 0])), (q_6, .inl (cq_6, 4, .inl (fun _ => 0)))] t) (va_A [(h0, .inr (3, [.null, .int 0, .int 0, .int 0]))] sz)) 1 4 (va_A [(h0, .inr (3, [.null, .int 0, .int 0, .int 0]))] sz) := by
  refine Met.ofW (cc := cX2_init) (maxL := 1) (ret := none) (by decide) rfl ?_
  intro p e s m args below meth c s₁ B hml hv
  obtain ⟨rfl, hsz, hP, hK, hD0⟩ := hv
  have hx := B.exec
  have hb := B.bytes
  have hr := B.returns
  have hts := atoms_spec (ws := wsX2_init) B.pre
  have hown : s.vm.findClass RX2 = some m.cls := findClass_of_methodNamed B.named
  have hlocks := B.notSynchronized
  have hin : meth.name = "<init>" := (name_of_methodNamed B.named B.method).1
  subst hsz
  have hD := hD0.self (sz := s.heap.size)
  generalize hAe : va_A [(h0, .inr (3, [.null, .int 0, .int 0, .int 0]))] s.heap.size = A at hD ⊢
  have hA : ∀ q : Nat, s.heap.size ≤ q → A q := fun q h => by rw [← hAe]; exact Or.inr h
  have hS : va_S A s.heap s.heap [] := va_S.rf
  have hP : va_P (dC, dI) vwCl [(h0, .inr (3, [.null, .int 0, .int 0, .int 0]))] s.heap := hP
  have iX2 : ∀ w ∈ wsX20, w ∈ wsX2_init := by decide +kernel
  have hl := lv_entry ([.ref h0]) (n := 1) (Nat.le_of_ble_eq_true rfl)
  rw [lg_entry_eq]
  generalize (lg_sl ([.ref h0]) ++ List.replicate (1 - (lg_sl ([.ref h0])).length) Slot.unset).toArray = ls at hl ⊢
  have hl : lv_has ls 1 [(0, .ref h0)] := hl
  refine lv_aload_n hx hb dX2_init_0 rfl (lv_at hl 0 rfl) ?_
  refine W.objInit hx hb hown (hts (.methodLink RX2 3 objectInit) (List.mem_of_getElem? (i := 1) rfl)) (hts (.instanceMethod objectInit) (List.mem_of_getElem? (i := 2) rfl)) (hts (.code objectInit ⟨#[0xb1]⟩ 1 none) (List.mem_of_getElem? (i := 3) rfl)) rfl (by rw [hml]; exact hl.1) rfl dX2_init_1 (Nat.le_of_ble_eq_true rfl) (Nat.le_of_ble_eq_true rfl) ?_
  refine W.eq (g2 := F0 m 4 ls []) rfl ?_
  refine lv_aload_n hx hb dX2_init_4 rfl (lv_at hl 0 rfl) ?_
  refine lv_iconst (v := 4) hx hb dX2_init_5 (by decide) ?_
  refine va_newa (atype := .int) (n := 4) (a0 := (4, .inl (fun _ => 0))) (N' := 4) (ty := .int) hx hb (hts (.arrayClass .int) (List.mem_of_getElem? (i := 4) rfl)) rfl hK hP hD hS hA (fun _ => rfl) (by decide) (by decide) (by decide) (Nat.le_of_ble_eq_true rfl) (Nat.le_of_ble_eq_true rfl) dX2_init_6 (fun q_6 cq_6 H hK hP hD hS => ?_)
  have hP : va_P (dC, dI) vwCl [(h0, .inr (3, [.null, .int 0, .int 0, .int 0])), (q_6, .inl (cq_6, 4, .inl (fun _ => 0)))] H := hP
  have hD : va_D A [(h0, .inr (3, [.null, .int 0, .int 0, .int 0])), (q_6, .inl (cq_6, 4, .inl (fun _ => 0)))] := hD
  have hK : va_K (dC, dI) vwCl [(cq_6, .int)] s := hK
  refine W.widen (k := 1) (n := 4) (Nat.le_of_ble_eq_true rfl) (Nat.le_of_ble_eq_true rfl) ?_
  refine va_putF (D := (dC, dI)) (ci := 3) (v := .ref q_6) (ty := .array .int) (C := RX2) (T := TX2) (N := 4) hx hb hts iX2 tyX2 tyX2_ok nmX2 hown hK hP hD hS 0 rfl rfl 0 (by decide) (hts (.fieldLink RX2 11 "PulseRows$SlowChannel" "messages" "[I") (List.mem_of_getElem? (i := 5) rfl)) (fun _ h9 => h9) rfl hin rfl (by decide +kernel) rfl rfl (Nat.le_of_ble_eq_true rfl) dX2_init_8 (fun H locs hP hD hS => ?_)
  have hP : va_P (dC, dI) vwCl [(h0, .inr (3, [.ref q_6, .int 0, .int 0, .int 0])), (q_6, .inl (cq_6, 4, .inl (fun _ => 0)))] H := hP
  have hD : va_D A [(h0, .inr (3, [.ref q_6, .int 0, .int 0, .int 0])), (q_6, .inl (cq_6, 4, .inl (fun _ => 0)))] := hD
  have hP9 : va_P (dC, dI) vwCl [(h0, .inr (3, [.ref q_6, .int 0, .int 0, .int 0])), (q_6, .inl (cq_6, 4, .inl (fun _ => 0)))] H := by exact hP.sub [0, 1] rfl
  have hD9 : va_D A [(h0, .inr (3, [.ref q_6, .int 0, .int 0, .int 0])), (q_6, .inl (cq_6, 4, .inl (fun _ => 0)))] := by exact hD.sub [0, 1] (by decide) rfl
  exact W.vret hx hb hr (fun t ht hW => ⟨⟨(), rfl, trivial, q_6, cq_6, po.ret ht hW hP9 hK hD9⟩, hS.F ht⟩) hS.2.2 dX2_init_11
