/-! What the contracts are said in: a start and an end of a method over a list of cells; the class's one static row; booleans. -/
def z01 (x : Int32) : Prop := x = 0 ∨ x = 1
theorem z01.nar {x : Int32} (h : z01 x) : narrow .boolean (.int x) = .int x := by rcases h with rfl | rfl <;> rfl
theorem z01.fit {x : Int32} (h : z01 x) : fits .boolean (.int x) = true := by rcases h with rfl | rfl <;> rfl
theorem z01.vn {x : Int32} (h : z01 x) : vp_nar .boolean x = x := by rcases h with rfl | rfl <;> rfl
theorem z01_0 : z01 0 := Or.inl rfl
theorem z01_1 : z01 1 := Or.inr rfl
/-- the row CHECK_TABLE -/
def tb_f (j : Nat) : Int32 := ([0, 13, 7, 10, 14, 3, 9, 4, 1, 12, 6, 11, 15, 2, 8, 5] : List Int32).getD j 0
def pr (D : va_G) (tys : List (ClassId × FieldType)) (ws : va_W) (sz : Nat) (U : State) : Prop := U.heap.size = sz ∧ va_P D vwCl ws U.heap ∧ va_K D vwCl tys U ∧ va_D (fun _ => True) ws
def po (D : va_G) (tys : List (ClassId × FieldType)) (A : Nat → Prop) (ws : va_W) (t : State) : Prop := va_P D vwCl ws t.heap ∧ va_K D vwCl tys t ∧ va_D A ws
theorem pr.blind {D : va_G} {tys : List (ClassId × FieldType)} {ws : va_W} {sz : Nat} {av : List Value} : FrameBlind (va_Pc av (pr D tys ws sz)) :=
  fun a U g mk q => ⟨q.1, q.2.1, q.2.2.1, va_K.moved (u := U) (U := U.calling g mk a) (Vm.Alike.refl U.vm) q.2.2.2.1, q.2.2.2.2⟩
theorem pr.call {D : va_G} {tys : List (ClassId × FieldType)} {ws : va_W} {A : Nat → Prop} {H : Heap} {s U : State} (hU : U.heap = H) (hW : s.WarmedH U.vm) (hP : va_P D vwCl ws H) (hK : va_K D vwCl tys s) (hD : va_D A ws) : pr D tys ws H.size U :=
  ⟨by rw [hU], by rw [hU]; exact hP, va_K.moved hW.alike hK, hD.weaken (fun _ _ _ _ => trivial)⟩
theorem po.ret {D : va_G} {tys : List (ClassId × FieldType)} {ws : va_W} {A : Nat → Prop} {H : Heap} {s t : State} (ht : t.heap = H) (hW : s.WarmedH t.vm) (hP : va_P D vwCl ws H) (hK : va_K D vwCl tys s) (hD : va_D A ws) : po D tys A ws t :=
  ⟨by rw [ht]; exact hP, va_K.moved hW.alike hK, hD⟩
theorem po.join {A0 : Nat → Prop} {D : va_G} {tys : List (ClassId × FieldType)} {ws wc wr w1 : va_W} {H H1 : Heap} {t : State} (hP : va_P D vwCl ws H) (hD : va_D A0 ws) (isC isR : List Nat) (hC : isC.map (fun i => ws[i]?) = wc.map some) (hR : isR.map (fun i => ws[i]?) = wr.map some) (hn : va_nd isR = true) (hdis : ∀ i ∈ isR, i ∉ isC)
    (hk : ∀ q : Nat, q < H.size → ¬ va_A wc H.size q → H1[q]? = H[q]?) (hF : ∀ q, va_A wc H.size q → A0 q) (ht : t.heap = H1) (hB : po D tys (va_A wc H.size) w1 t) : va_P D vwCl (wr ++ w1) H1 ∧ va_D A0 (wr ++ w1) :=
  va_join hP hD isC isR hC hR hn hdis hk hF (by rw [← ht]; exact hB.1) hB.2.2
/-- the class's static row, and its nest mates' links -/
def en (tb : Nat) (A : Nat → Prop) (U : State) (H : Heap) : Prop := va_Z "PulseRows" "CHECK_TABLE" "[I" (.ref tb) A U H ∧ va_T .int tb 16 (fun j => .int (tb_f j)) A U H ∧ va_Nw (.methodLinkNest RX2 32 yX4_checking "PulseRows") U ∧ va_Nw (.methodLinkNest RX2 36 yX4_nibbleAt "PulseRows") U
def prE (tb : Nat) (D : va_G) (tys : List (ClassId × FieldType)) (ws : va_W) (sz : Nat) (U : State) : Prop := pr D tys ws sz U ∧ en tb (va_A ws sz) U U.heap
theorem en.call {tb : Nat} {A A' : Nat → Prop} {s U : State} {H : Heap} {locs : List Loc} (h : en tb A s s.heap) (hS : va_S A s.heap H locs) (hF : ∀ q, A' q → A q) (hU : U.heap = H) (hW : s.WarmedH U.vm) : en tb A' U U.heap := by
  obtain ⟨h1, h2, h3, h4⟩ := h
  rw [hU]
  exact ⟨((h1.kept hS.2.1).narrow hF).moved hW.alike, ((h2.kept hS.2.1).narrow hF).moved hW.alike, h3.warmM hW, h4.warmM hW⟩
theorem prE.blind {tb : Nat} {D : va_G} {tys : List (ClassId × FieldType)} {ws : va_W} {sz : Nat} {av : List Value} : FrameBlind (va_Pc av (prE tb D tys ws sz)) :=
  fun a U g mk q => ⟨q.1, (pr.blind (av := av) a U g mk ⟨q.1, q.2.1⟩).2, q.2.2.1.moved (u := U) (U := U.calling g mk a) (Vm.Alike.refl U.vm), q.2.2.2.1.moved (u := U) (U := U.calling g mk a) (Vm.Alike.refl U.vm), va_Nw.same rfl (u := U) (U := U.calling g mk a) rfl q.2.2.2.2.1, va_Nw.same rfl (u := U) (U := U.calling g mk a) rfl q.2.2.2.2.2⟩
theorem prE.call {tb : Nat} {D : va_G} {tys : List (ClassId × FieldType)} {ws : va_W} {A A0 : Nat → Prop} {H : Heap} {s U : State} {locs : List Loc} (hE : en tb A0 s s.heap) (hS : va_S A0 s.heap H locs) (hF : ∀ q, va_A ws H.size q → A0 q) (hU : U.heap = H) (hW : s.WarmedH U.vm) (hP : va_P D vwCl ws H) (hK : va_K D vwCl tys s) (hD : va_D A ws) : prE tb D tys ws H.size U :=
  ⟨pr.call hU hW hP hK hD, hE.call hS hF hU hW⟩
theorem tsw2 {x : Int32} (h0 : ¬ x = 0) (h1 : ¬ x = 1) (h2 : ¬ x = 2) : x.toInt < 0 ∨ 2 < x.toInt := by
  rw [← Int32.toInt_inj] at h0 h1 h2
  have e0 : (0 : Int32).toInt = 0 := rfl
  have e1 : (1 : Int32).toInt = 1 := rfl
  have e2 : (2 : Int32).toInt = 2 := rfl
  omega
def ush (x y : Int32) : Int32 := (x.toUInt32 >>> (y.toUInt32 &&& Int32.toUInt32 31)).toInt32
section LPW
variable {p : Program} {l : Launch} {e : Env} {R : Room} {s : State} {m : MethodId} {args : Array Value} {below : List Frame} {meth : Method} {c : Code} {cells slots : Nat} {Q : State → Prop}
/-- a loop: from every state of the invariant, with what a smaller measure gives -/
theorem lp_w {σ : Type} {hd : Nat} (I : Nat → σ → Heap → List Loc → Array Slot → Prop) (stp : ∀ (n : Nat) (v : σ) (H : Heap) (locs : List Loc) (ls : Array Slot), I n v H locs ls → (∀ (k : Nat) (v' : σ) (H' : Heap) (locs' : List Loc) (ls' : Array Slot), k < n → I k v' H' locs' ls' → W p l e R s m args below meth c H' locs' cells slots Q (F0 m hd ls' [])) → W p l e R s m args below meth c H locs cells slots Q (F0 m hd ls [])) :
    ∀ (n : Nat) (v : σ) (H : Heap) (locs : List Loc) (ls : Array Slot), I n v H locs ls → W p l e R s m args below meth c H locs cells slots Q (F0 m hd ls []) := by
  intro n
  induction n using Nat.strongRecOn with
  | _ n ih => exact fun v H locs ls h => stp n v H locs ls h (fun k v' H' locs' ls' hk h' => ih k hk v' H' locs' ls' h')
end LPW
