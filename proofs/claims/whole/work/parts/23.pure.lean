/-! Pure rows: one status into the slow channel, in the class and in its twin. -/
def SL (k : Nat) (bts bc mcn : Int32) (btf mf mef : Nat → Int32) : Prop := ∃ (b q : Nat) (v : Nat → Nat), bc = nI b ∧ b < 16 ∧ (∀ i, i < b → v i < 2 ∧ btf i = nI (v i)) ∧ bts = nI (pb v b) ∧ mcn = nI q ∧ 16 * q + b ≤ k ∧ ∀ i, i < q → mf i = mef i
theorem st_8 : ∀ t, t < 16 → ((nI t &&& 8 = 0) ↔ t < 8) := by decide +kernel
theorem st_8m : ∀ t, t < 16 → ((nI t < 8) ↔ t < 8) := by decide +kernel
theorem st_4 : ∀ t, t < 16 → ((nI t &&& 4 = 0) ↔ t / 4 % 2 = 0) := by decide +kernel
theorem st_b : ∀ t, t < 16 → nI t / 4 - nI t / 4 / 2 * 2 = nI (t / 4 % 2) := by decide +kernel
theorem SL.drop {k : Nat} {bts bc mcn : Int32} {btf mf mef : Nat → Int32} (h : SL k bts bc mcn btf mf mef) : SL (k + 1) 0 0 mcn btf mf mef := by
  obtain ⟨b, q, v, h1, h2, h3, h4, h5, h6, h7⟩ := h
  exact ⟨0, q, v, nI_0.symm, by decide, fun i hi => absurd hi (by omega), nI_0.symm, h5, by omega, h7⟩
set_option maxHeartbeats 1000000 in
theorem slow_step {k : Nat} {bts bc mcn : Int32} {btf mf mef : Nat → Int32} (h : SL k bts bc mcn btf mf mef) (hk : k ≤ 60) {st : Nat} (hst : st < 16) (flt bh mkd : Int32) :
    X5_slowBit_bits bc (nI st) = X2_take_bitCount bc (nI st) ∧
    X5_slowBit_messages bc mcn btf (nI st) = X2_take_messageCount mcn bts bc (nI st) ∧
    X5_slowBit_faults bc flt btf (nI st) = (if X2_take_r bts bc (nI st) = 0 then X5_fault_faults flt else flt) ∧
    X5_slowBit_behind bc bh btf (nI st) = (if X2_take_r bts bc (nI st) = 0 then X5_fault_behind bh else bh) ∧
    X5_slowBit_marked bc bh mkd btf (nI st) = (if X2_take_r bts bc (nI st) = 0 then X5_fault_marked bh mkd else mkd) ∧
    SL (k + 1) (X2_take_bits bts bc (nI st)) (X2_take_bitCount bc (nI st)) (X2_take_messageCount mcn bts bc (nI st)) (X5_slowBit_a_btf bc btf (nI st)) (X2_take_a_mf mcn bts bc mf (nI st)) (X5_slowBit_a_mef bc mcn btf mef (nI st)) := by
  obtain ⟨b, q, v, rfl, hb, hv, rfl, rfl, hq, hm⟩ := h
  have f8 := st_8 st hst
  have f8m := st_8m st hst
  have f4 := st_4 st hst
  have fb := st_b st hst
  have hbit : st / 4 % 2 < 2 := Nat.mod_lt _ (by decide)
  have n10 : ¬ (1 : Int32) = 0 := by decide
  by_cases c8 : st < 8
  · have p8 := f8.mpr c8
    have p8m := f8m.mpr c8
    by_cases cb : b = 0
    · subst cb
      have z : nI 0 = 0 := nI_0
      refine ⟨?_, ?_, ?_, ?_, ?_, ?_⟩
      · rw [X5_slowBit_bits, X2_take_bitCount, if_pos p8, if_pos p8m]
      · rw [X5_slowBit_messages, X2_take_messageCount, if_pos p8, if_pos p8m, if_pos z, if_pos z]
      · rw [X5_slowBit_faults, X2_take_r, if_pos p8, if_pos p8m, if_pos z, if_pos z, if_neg n10]
      · rw [X5_slowBit_behind, X2_take_r, if_pos p8, if_pos p8m, if_pos z, if_pos z, if_neg n10]
      · rw [X5_slowBit_marked, X2_take_r, if_pos p8, if_pos p8m, if_pos z, if_pos z, if_neg n10]
      · rw [X2_take_bits, X2_take_bitCount, X2_take_messageCount, X5_slowBit_a_btf, X2_take_a_mf, X5_slowBit_a_mef, if_pos p8, if_pos p8, if_pos p8, if_pos p8, if_pos p8m, if_pos p8m, if_pos z, if_pos z, if_pos z, if_pos z, if_pos z, if_pos z]
        exact ⟨0, q, v, rfl, by decide, hv, rfl, rfl, by omega, hm⟩
    · have hb0 : ¬ nI b = 0 := nI_ne0 (by omega) (by omega)
      obtain ⟨u, hu⟩ : ∃ u : Nat → Nat, u = fun i => if i = b then st / 4 % 2 else v i := ⟨_, rfl⟩
      have hub : u b = st / 4 % 2 := by rw [hu]; exact if_pos rfl
      have hui : ∀ i, i < b → u i = v i := fun i hi => by rw [hu]; exact if_neg (by omega)
      have hu2 : ∀ i, i < b + 1 → u i < 2 := by
        intro i hi
        rcases Nat.lt_or_ge i b with z | z
        · rw [hui i z]; exact (hv i z).1
        · rw [show i = b by omega, hub]; exact hbit
      have hB : pb v b < 32768 := Nat.lt_of_lt_of_le (pb_lt b (fun i hi => (hv i hi).1)) (Nat.le_trans (Nat.pow_le_pow_right (by decide) (show b ≤ 15 by omega)) (by decide))
      have hpu : pb u (b + 1) = pb v b * 2 + st / 4 % 2 := by
        rw [pb, hub, pb_congr b hui]
      have w0 : nI st &&& 4 = 0 → (nI (pb v b) <<< ((1 : Int32) &&& 31)) ||| 0 = nI (pb u (b + 1)) := by
        intro z
        rw [hpu, f4.mp z]
        exact bit_add (v := 0) hB (by decide)
      have w1 : ¬ nI st &&& 4 = 0 → (nI (pb v b) <<< ((1 : Int32) &&& 31)) ||| 1 = nI (pb u (b + 1)) := by
        intro z
        have z1 : st / 4 % 2 = 1 := by
          have : ¬ st / 4 % 2 = 0 := fun q => z (f4.mpr q)
          omega
        rw [hpu, z1]
        exact bit_add (v := 1) hB (by decide)
      have tbt : X2_take_bits (nI (pb v b)) (nI b) (nI st) = if 16 ≤ nI b + 1 then 0 else nI (pb u (b + 1)) := by
        rw [X2_take_bits, if_pos p8, if_neg hb0]
        by_cases c4 : nI st &&& 4 = 0
        · rw [if_pos c4, w0 c4]
        · rw [if_neg c4, w1 c4]
      have tmc : X2_take_messageCount (nI q) (nI (pb v b)) (nI b) (nI st) = if 16 ≤ nI b + 1 then X2_finishRow_messageCount (nI q) (nI (pb u (b + 1))) else nI q := by
        rw [X2_take_messageCount, if_pos p8, if_neg hb0]
        by_cases c4 : nI st &&& 4 = 0
        · rw [if_pos c4, w0 c4]
        · rw [if_neg c4, w1 c4]
      have tmf : X2_take_a_mf (nI q) (nI (pb v b)) (nI b) mf (nI st) = if 16 ≤ nI b + 1 then X2_finishRow_a_mf (nI q) mf (nI (pb u (b + 1))) else mf := by
        rw [X2_take_a_mf, if_pos p8, if_neg hb0]
        by_cases c4 : nI st &&& 4 = 0
        · rw [if_pos c4, w0 c4]
        · rw [if_neg c4, w1 c4]
      have trr : X2_take_r (nI (pb v b)) (nI b) (nI st) = if 16 ≤ nI b + 1 then X2_finishRow_r (nI (pb u (b + 1))) else 1 := by
        rw [X2_take_r, if_pos p8, if_neg hb0]
        by_cases c4 : nI st &&& 4 = 0
        · rw [if_pos c4, w0 c4]
        · rw [if_neg c4, w1 c4]
      have hY : ∀ i, i < b + 1 → (upd btf ((nI b).toNatClampNeg) ((nI st / 4) - (nI st / 4) / 2 * 2)) i = nI (u i) := by
        intro i hi
        rw [nI_clamp (by omega), fb]
        rcases Nat.lt_or_ge i b with z | z
        · rw [pk_un (by omega), (hv i z).2, hui i z]
        · rw [show i = b by omega, pk_us, hub]
      by_cases c16 : b = 15
      · subst c16
        have h16 : 16 ≤ nI 15 + 1 := by decide
        have n4 : ¬ 4 ≤ nI q := by
          intro z
          exact nI_ge (a := q) (b := 4) (by omega) (by decide) z
        rw [if_pos h16] at tbt tmc tmf trr
        by_cases cR : tbN (ckR u) = pb u 16 % 16
        · have kC := (rowC hu2).mpr cR
          have kM := (rowM hu2 hY).mpr cR
          rw [X2_finishRow_messageCount, if_pos kC, if_neg n4] at tmc
          rw [X2_finishRow_a_mf, if_pos kC, if_neg n4, rowU hu2] at tmf
          rw [X2_finishRow_r, if_pos kC] at trr
          refine ⟨?_, ?_, ?_, ?_, ?_, ?_⟩
          · rw [X5_slowBit_bits, X2_take_bitCount, if_pos p8, if_pos p8m]
          · rw [X5_slowBit_messages, if_pos p8m, if_neg hb0, if_pos h16, if_pos kM, tmc]
          · rw [X5_slowBit_faults, if_pos p8m, if_neg hb0, if_pos h16, if_pos kM, trr, if_neg n10]
          · rw [X5_slowBit_behind, if_pos p8m, if_neg hb0, if_pos h16, if_pos kM, trr, if_neg n10]
          · rw [X5_slowBit_marked, if_pos p8m, if_neg hb0, if_pos h16, if_pos kM, trr, if_neg n10]
          · rw [tbt, tmc, tmf, X2_take_bitCount, if_pos p8, if_neg hb0, if_pos h16, X5_slowBit_a_mef, if_pos p8m, if_neg hb0, if_pos h16, if_pos kM, rowA hu2 hY]
            refine ⟨0, q + 1, v, nI_0.symm, by decide, fun i hi => absurd hi (by omega), nI_0.symm, nI_1 q, by omega, ?_⟩
            intro i hi
            rw [nI_clamp (by omega)]
            rcases Nat.lt_or_ge i q with z | z
            · rw [pk_un (by omega), pk_un (by omega)]; exact hm i z
            · rw [show i = q by omega, pk_us, pk_us]
        · have kC := fun z => cR ((rowC hu2).mp z)
          have kM := fun z => cR ((rowM hu2 hY).mp z)
          rw [X2_finishRow_messageCount, if_neg kC] at tmc
          rw [X2_finishRow_a_mf, if_neg kC] at tmf
          rw [X2_finishRow_r, if_neg kC] at trr
          refine ⟨?_, ?_, ?_, ?_, ?_, ?_⟩
          · rw [X5_slowBit_bits, X2_take_bitCount, if_pos p8, if_pos p8m]
          · rw [X5_slowBit_messages, if_pos p8m, if_neg hb0, if_pos h16, if_neg kM, tmc]
          · rw [X5_slowBit_faults, if_pos p8m, if_neg hb0, if_pos h16, if_neg kM, trr, if_pos rfl]
          · rw [X5_slowBit_behind, if_pos p8m, if_neg hb0, if_pos h16, if_neg kM, trr, if_pos rfl]
          · rw [X5_slowBit_marked, if_pos p8m, if_neg hb0, if_pos h16, if_neg kM, trr, if_pos rfl]
          · rw [tbt, tmc, tmf, X2_take_bitCount, if_pos p8, if_neg hb0, if_pos h16, X5_slowBit_a_mef, if_pos p8m, if_neg hb0, if_pos h16, if_neg kM]
            exact ⟨0, q, v, nI_0.symm, by decide, fun i hi => absurd hi (by omega), nI_0.symm, rfl, by omega, hm⟩
      · have h16 : ¬ 16 ≤ nI b + 1 := by
          rw [nI_1]
          exact nI_ge (a := b + 1) (b := 16) (by omega) (by decide)
        rw [if_neg h16] at tbt tmc tmf trr
        refine ⟨?_, ?_, ?_, ?_, ?_, ?_⟩
        · rw [X5_slowBit_bits, X2_take_bitCount, if_pos p8, if_pos p8m]
        · rw [X5_slowBit_messages, if_pos p8m, if_neg hb0, if_neg h16, tmc]
        · rw [X5_slowBit_faults, if_pos p8m, if_neg hb0, if_neg h16, trr, if_neg n10]
        · rw [X5_slowBit_behind, if_pos p8m, if_neg hb0, if_neg h16, trr, if_neg n10]
        · rw [X5_slowBit_marked, if_pos p8m, if_neg hb0, if_neg h16, trr, if_neg n10]
        · rw [tbt, tmc, tmf, X2_take_bitCount, if_pos p8, if_neg hb0, if_neg h16, X5_slowBit_a_mef, if_pos p8m, if_neg hb0, if_neg h16, X5_slowBit_a_btf, if_pos p8m, if_neg hb0]
          exact ⟨b + 1, q, u, nI_1 b, by omega, fun i hi => ⟨hu2 i hi, hY i hi⟩, rfl, rfl, by omega, hm⟩
  · have p8 : ¬ nI st &&& 8 = 0 := fun z => c8 (f8.mp z)
    have p8m : ¬ nI st < 8 := fun z => c8 (f8m.mp z)
    refine ⟨?_, ?_, ?_, ?_, ?_, ?_⟩
    · rw [X5_slowBit_bits, X2_take_bitCount, if_neg p8, if_neg p8m]
    · rw [X5_slowBit_messages, X2_take_messageCount, if_neg p8, if_neg p8m]
    · rw [X5_slowBit_faults, X2_take_r, if_neg p8, if_neg p8m, if_neg n10]
    · rw [X5_slowBit_behind, X2_take_r, if_neg p8, if_neg p8m, if_neg n10]
    · rw [X5_slowBit_marked, X2_take_r, if_neg p8, if_neg p8m, if_neg n10]
    · rw [X2_take_bits, X2_take_bitCount, X2_take_messageCount, X5_slowBit_a_btf, X2_take_a_mf, X5_slowBit_a_mef, if_neg p8, if_neg p8, if_neg p8, if_neg p8, if_neg p8m, if_neg p8m, fb]
      refine ⟨1, q, fun _ => st / 4 % 2, rfl, by decide, ?_, ?_, rfl, by omega, hm⟩
      · intro i hi
        rw [show i = 0 by omega]
        exact ⟨hbit, pk_us⟩
      · show _ = nI (pb (fun _ => st / 4 % 2) 1)
        by_cases c4 : nI st &&& 4 = 0
        · rw [if_pos c4, pb, pb, f4.mp c4]; rfl
        · have z1 : st / 4 % 2 = 1 := by
            have : ¬ st / 4 % 2 = 0 := fun q => c4 (f4.mpr q)
            omega
          rw [if_neg c4, pb, pb, z1]; rfl
