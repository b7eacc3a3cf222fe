theorem mlabsX3_172 : Cond.methodLink RX3 172 Lib.Math.abs.name ∈ tg := by decide +kernel
theorem smabs : Cond.static Lib.Math.abs.name ∈ tg := by decide +kernel
theorem cdabs : Cond.code Lib.Math.abs.name Lib.Math.abs.code 1 (some .int) ∈ tg := by decide +kernel
def bc1 (x : Int32) : Int32 := x - ((x.toUInt32 >>> ((nI 1).toUInt32 &&& Int32.toUInt32 31)).toInt32 &&& (nI 1431655765))
def bc2 (x : Int32) : Int32 := (x &&& (nI 858993459)) + ((x.toUInt32 >>> ((nI 2).toUInt32 &&& Int32.toUInt32 31)).toInt32 &&& (nI 858993459))
def bc3 (x : Int32) : Int32 := (x + (x.toUInt32 >>> ((nI 4).toUInt32 &&& Int32.toUInt32 31)).toInt32) &&& (nI 252645135)
def bc4 (x : Int32) : Int32 := x + (x.toUInt32 >>> ((nI 8).toUInt32 &&& Int32.toUInt32 31)).toInt32
def bc5 (x : Int32) : Int32 := x + (x.toUInt32 >>> ((nI 16).toUInt32 &&& Int32.toUInt32 31)).toInt32
theorem bc_all : ∀ x : Nat, x < 256 → bc5 (bc4 (bc3 (bc2 (bc1 (nI x))))) &&& nI 63 = nI (bits x) := by decide +kernel
def maskN (p : Nat → Bool) : Nat → Nat
  | 0 => 0
  | n + 1 => maskN p n ||| (if p n then 2 ^ n else 0)
theorem mask_lt (p : Nat → Bool) : ∀ n : Nat, maskN p n < 2 ^ n
  | 0 => by show 0 < 1; decide
  | n + 1 => by
    have h := mask_lt p n
    have h2 : 2 ^ n < 2 ^ (n + 1) := Nat.pow_lt_pow_right (by decide) (by omega)
    rw [maskN]
    refine Nat.or_lt_two_pow (by omega) ?_
    split
    · exact h2
    · exact Nat.two_pow_pos _
theorem mask_bit (p : Nat → Bool) (t : Nat) : ∀ n : Nat, (maskN p n).testBit t = (decide (t < n) && p t)
  | 0 => by rw [maskN, Nat.zero_testBit]; simp
  | n + 1 => by
    rw [maskN, Nat.testBit_or, mask_bit p t n]
    by_cases h : t = n
    · subst h
      cases hp : p t <;> simp [Nat.testBit_two_pow_self]
    · have h1 : (if p n then 2 ^ n else 0).testBit t = false := by
        split
        · rw [Nat.testBit_two_pow]; simp; omega
        · exact Nat.zero_testBit t
      rw [h1, Bool.or_false]
      by_cases h2 : t < n
      · rw [decide_eq_true h2, decide_eq_true (show t < n + 1 by omega)]
      · rw [decide_eq_false h2, decide_eq_false (show ¬ t < n + 1 by omega)]
def peN (σ : Sg) : Nat := maskN (fun t => decide (s_th σ (6 * t) = 0)) (s_n σ)
def whN (σ : Sg) : Nat := maskN (fun t => decide (s_th σ (6 * t) < 2)) (s_n σ)
def usN (σ : Sg) : Nat := maskN (fun t => decide (s_th σ (6 * t + 5) = 1)) (s_n σ)
def wfJ (σ : Sg) (J : Js) : Prop := j_pe J = peN σ ∧ j_wh J = whN σ ∧ j_us J = usN σ ∧ ∀ x, x < 2 ^ s_n σ → j_pb J x = nI (pdA σ x (s_of σ))
theorem any_ex {p : Nat → Bool} : ∀ {n : Nat}, anyN p n = true ↔ ∃ t, t < n ∧ p t = true
  | 0 => ⟨fun h => (by cases h), fun ⟨t, h, _⟩ => absurd h (by omega)⟩
  | n + 1 => by
    rw [anyN, Bool.or_eq_true, any_ex]
    constructor
    · rintro (⟨t, h1, h2⟩ | h)
      · exact ⟨t, by omega, h2⟩
      · exact ⟨n, by omega, h⟩
    · rintro ⟨t, h1, h2⟩
      rcases (show t < n ∨ t = n by omega) with q | rfl
      · exact Or.inl ⟨t, q, h2⟩
      · exact Or.inr h2
theorem and_pe {σ : Sg} (x : Nat) : (x &&& peN σ = 0) ↔ hasP σ x = false := by
  have key : hasP σ x = true ↔ ¬ x &&& peN σ = 0 := by
    unfold hasP
    rw [any_ex]
    constructor
    · rintro ⟨t, h1, h2⟩ h3
      have h4 : (x &&& peN σ).testBit t = false := by rw [h3]; exact Nat.zero_testBit t
      rw [Nat.testBit_and, peN, mask_bit, decide_eq_true h1] at h4
      rw [Bool.and_eq_true] at h2
      rw [h2.1, h2.2] at h4
      cases h4
    · intro h
      obtain ⟨t, ht⟩ := Nat.exists_testBit_of_ne_zero h
      rw [Nat.testBit_and, peN, mask_bit, Bool.and_eq_true, Bool.and_eq_true, decide_eq_true_iff] at ht
      exact ⟨t, ht.2.1, by rw [ht.1, ht.2.2]; rfl⟩
  cases h : hasP σ x with
  | true => exact ⟨fun q => absurd q (key.mp h), fun q => by cases q⟩
  | false => exact ⟨fun _ => rfl, fun _ => Classical.not_not.mp (fun q => by have := key.mpr q; rw [h] at this; cases this)⟩
theorem cw_and {x th bo : Nat} (hx : x < 256) (ht : th < 256) : x &&& (th + 256 * bo) = x &&& th := by
  apply Nat.eq_of_testBit_eq
  intro i
  rw [Nat.testBit_and, Nat.testBit_and]
  by_cases hi : i < 8
  · have h : (th + 256 * bo).testBit i = th.testBit i := by
      have h2 := Nat.testBit_two_pow_mul_add bo (i := 8) (b := th) ht i
      rw [if_pos hi] at h2
      rw [Nat.add_comm]
      exact h2
    rw [h]
  · have : x.testBit i = false := Nat.testBit_lt_two_pow (Nat.lt_of_lt_of_le hx (Nat.pow_le_pow_right (n := 2) (i := 8) (by decide) (by omega)))
    rw [this]; rfl
theorem cw_div {th bo : Nat} (ht : th < 256) : (th + 256 * bo) / 256 = bo := by omega
set_option maxHeartbeats 4000000 in
set_option maxRecDepth 100000 in
theorem k_J6_bitCount_0f7a4 (l : Launch)  (x : Nat) (h1 : x < 256) : MS l yJ6_bitCount_0f7a4 qJ6_bitCount_0f7a4 0 [.int (nI (x))] (nI (bits x)) := by
  refine Met.ofW (cc := cJ6_bitCount_0f7a4) (maxL := 1) (ret := (some .int)) (by decide) rfl ?_
  intro p e s m args below meth c s₁ B hml hv
  obtain ⟨rfl, -⟩ := hv
  have hx := B.exec
  have hb := B.bytes
  have hr := B.returns
  have hlocks := B.notSynchronized
  have hts : ∀ cq ∈ tg, cq.before ([.int (nI (x))] : List Value).toArray s = true := fun cq h => atoms_spec (ws := qJ6_bitCount_0f7a4) B.pre cq (List.mem_cons_of_mem _ h)
  have hown : s.vm.findClass RJ6 = some m.cls := findClass_of_methodNamed B.named
  have hl := lv_entry ([.int (nI (x))]) (n := 1) (Nat.le_of_ble_eq_true rfl)
  rw [lg_entry_eq]
  generalize (lg_sl ([.int (nI (x))]) ++ List.replicate (1 - (lg_sl ([.int (nI (x))])).length) Slot.unset).toArray = ls at hl ⊢
  have hl : lv_has ls 1 [(0, .int (nI (x)))] := hl
  refine lv_iload_n hx hb dJ6_bitCount_0f7a4_0 rfl (lv_at hl 0 rfl) ?_
  refine lv_iload_n hx hb dJ6_bitCount_0f7a4_1 rfl (lv_at hl 0 rfl) ?_
  refine lv_iconst (v := nI 1) hx hb dJ6_bitCount_0f7a4_2 (by decide) ?_
  refine lv_iushr (v := ((nI (x)).toUInt32 >>> ((nI (1)).toUInt32 &&& Int32.toUInt32 31)).toInt32) hx hb dJ6_bitCount_0f7a4_3 rfl ?_
  refine lv_ldcw (v := nI 1431655765) hx hb hown (hts _ cnJ6_265) dJ6_bitCount_0f7a4_4 ?_
  refine lv_iand hx hb dJ6_bitCount_0f7a4_7 ?_
  refine lv_isub hx hb dJ6_bitCount_0f7a4_8 ?_
  refine ln_eq (show ((nI (x)) - ((((nI (x)).toUInt32 >>> ((nI (1)).toUInt32 &&& Int32.toUInt32 31)).toInt32) &&& (nI (1431655765)))) = (bc1 (nI x)) from rfl) ?_
  refine lv_istore_n (lv' := [(0, .int (bc1 (nI x)))]) hx hb dJ6_bitCount_0f7a4_9 rfl hl (by decide) rfl (fun ls hl => ?_)
  refine lv_iload_n hx hb dJ6_bitCount_0f7a4_10 rfl (lv_at hl 0 rfl) ?_
  refine lv_ldcw (v := nI 858993459) hx hb hown (hts _ cnJ6_266) dJ6_bitCount_0f7a4_11 ?_
  refine lv_iand hx hb dJ6_bitCount_0f7a4_14 ?_
  refine lv_iload_n hx hb dJ6_bitCount_0f7a4_15 rfl (lv_at hl 0 rfl) ?_
  refine lv_iconst (v := nI 2) hx hb dJ6_bitCount_0f7a4_16 (by decide) ?_
  refine lv_iushr (v := ((bc1 (nI x)).toUInt32 >>> ((nI (2)).toUInt32 &&& Int32.toUInt32 31)).toInt32) hx hb dJ6_bitCount_0f7a4_17 rfl ?_
  refine lv_ldcw (v := nI 858993459) hx hb hown (hts _ cnJ6_266) dJ6_bitCount_0f7a4_18 ?_
  refine lv_iand hx hb dJ6_bitCount_0f7a4_21 ?_
  refine lv_iadd hx hb dJ6_bitCount_0f7a4_22 ?_
  refine ln_eq (show (((bc1 (nI x)) &&& (nI (858993459))) + ((((bc1 (nI x)).toUInt32 >>> ((nI (2)).toUInt32 &&& Int32.toUInt32 31)).toInt32) &&& (nI (858993459)))) = (bc2 (bc1 (nI x))) from rfl) ?_
  refine lv_istore_n (lv' := [(0, .int (bc2 (bc1 (nI x))))]) hx hb dJ6_bitCount_0f7a4_23 rfl hl (by decide) rfl (fun ls hl => ?_)
  refine lv_iload_n hx hb dJ6_bitCount_0f7a4_24 rfl (lv_at hl 0 rfl) ?_
  refine lv_iload_n hx hb dJ6_bitCount_0f7a4_25 rfl (lv_at hl 0 rfl) ?_
  refine lv_iconst (v := nI 4) hx hb dJ6_bitCount_0f7a4_26 (by decide) ?_
  refine lv_iushr (v := ((bc2 (bc1 (nI x))).toUInt32 >>> ((nI (4)).toUInt32 &&& Int32.toUInt32 31)).toInt32) hx hb dJ6_bitCount_0f7a4_27 rfl ?_
  refine lv_iadd hx hb dJ6_bitCount_0f7a4_28 ?_
  refine lv_ldcw (v := nI 252645135) hx hb hown (hts _ cnJ6_267) dJ6_bitCount_0f7a4_29 ?_
  refine lv_iand hx hb dJ6_bitCount_0f7a4_32 ?_
  refine ln_eq (show (((bc2 (bc1 (nI x))) + (((bc2 (bc1 (nI x))).toUInt32 >>> ((nI (4)).toUInt32 &&& Int32.toUInt32 31)).toInt32)) &&& (nI (252645135))) = (bc3 (bc2 (bc1 (nI x)))) from rfl) ?_
  refine lv_istore_n (lv' := [(0, .int (bc3 (bc2 (bc1 (nI x)))))]) hx hb dJ6_bitCount_0f7a4_33 rfl hl (by decide) rfl (fun ls hl => ?_)
  refine lv_iload_n hx hb dJ6_bitCount_0f7a4_34 rfl (lv_at hl 0 rfl) ?_
  refine lv_iload_n hx hb dJ6_bitCount_0f7a4_35 rfl (lv_at hl 0 rfl) ?_
  refine lv_bipush (v := nI 8) hx hb dJ6_bitCount_0f7a4_36 (by decide) ?_
  refine lv_iushr (v := ((bc3 (bc2 (bc1 (nI x)))).toUInt32 >>> ((nI (8)).toUInt32 &&& Int32.toUInt32 31)).toInt32) hx hb dJ6_bitCount_0f7a4_38 rfl ?_
  refine lv_iadd hx hb dJ6_bitCount_0f7a4_39 ?_
  refine ln_eq (show ((bc3 (bc2 (bc1 (nI x)))) + (((bc3 (bc2 (bc1 (nI x)))).toUInt32 >>> ((nI (8)).toUInt32 &&& Int32.toUInt32 31)).toInt32)) = (bc4 (bc3 (bc2 (bc1 (nI x))))) from rfl) ?_
  refine lv_istore_n (lv' := [(0, .int (bc4 (bc3 (bc2 (bc1 (nI x))))))]) hx hb dJ6_bitCount_0f7a4_40 rfl hl (by decide) rfl (fun ls hl => ?_)
  refine lv_iload_n hx hb dJ6_bitCount_0f7a4_41 rfl (lv_at hl 0 rfl) ?_
  refine lv_iload_n hx hb dJ6_bitCount_0f7a4_42 rfl (lv_at hl 0 rfl) ?_
  refine lv_bipush (v := nI 16) hx hb dJ6_bitCount_0f7a4_43 (by decide) ?_
  refine lv_iushr (v := ((bc4 (bc3 (bc2 (bc1 (nI x))))).toUInt32 >>> ((nI (16)).toUInt32 &&& Int32.toUInt32 31)).toInt32) hx hb dJ6_bitCount_0f7a4_45 rfl ?_
  refine lv_iadd hx hb dJ6_bitCount_0f7a4_46 ?_
  refine ln_eq (show ((bc4 (bc3 (bc2 (bc1 (nI x))))) + (((bc4 (bc3 (bc2 (bc1 (nI x))))).toUInt32 >>> ((nI (16)).toUInt32 &&& Int32.toUInt32 31)).toInt32)) = (bc5 (bc4 (bc3 (bc2 (bc1 (nI x)))))) from rfl) ?_
  refine lv_istore_n (lv' := [(0, .int (bc5 (bc4 (bc3 (bc2 (bc1 (nI x)))))))]) hx hb dJ6_bitCount_0f7a4_47 rfl hl (by decide) rfl (fun ls hl => ?_)
  refine lv_iload_n hx hb dJ6_bitCount_0f7a4_48 rfl (lv_at hl 0 rfl) ?_
  refine lv_bipush (v := nI 63) hx hb dJ6_bitCount_0f7a4_49 (by decide) ?_
  refine lv_iand hx hb dJ6_bitCount_0f7a4_51 ?_
  exact rt_i hx hb hr hlocks (bc_all x h1) dJ6_bitCount_0f7a4_52
set_option maxHeartbeats 4000000 in
set_option maxRecDepth 100000 in
theorem k_X10_isBank (l : Launch)  (x : Int32)  : MS l yX10_isBank qX10_isBank 0 [.int (x)] (bI (isIx 2 x)) := by
  refine Met.ofW (cc := cX10_isBank) (maxL := 1) (ret := (some .boolean)) (by decide) rfl ?_
  intro p e s m args below meth c s₁ B hml hv
  obtain ⟨rfl, -⟩ := hv
  have hx := B.exec
  have hb := B.bytes
  have hr := B.returns
  have hlocks := B.notSynchronized
  have hts : ∀ cq ∈ tg, cq.before ([.int (x)] : List Value).toArray s = true := fun cq h => atoms_spec (ws := qX10_isBank) B.pre cq (List.mem_cons_of_mem _ h)
  have hown : s.vm.findClass RX10 = some m.cls := findClass_of_methodNamed B.named
  have hl := lv_entry ([.int (x)]) (n := 1) (Nat.le_of_ble_eq_true rfl)
  rw [lg_entry_eq]
  generalize (lg_sl ([.int (x)]) ++ List.replicate (1 - (lg_sl ([.int (x)])).length) Slot.unset).toArray = ls at hl ⊢
  have hl : lv_has ls 1 [(0, .int (x))] := hl
  refine lv_iload_n hx hb dX10_isBank_0 rfl (lv_at hl 0 rfl) ?_
  refine lv_if_eq (tgt := 9) hx hb dX10_isBank_1 (by decide) (fun c1 => ?_) (fun c1 => ?_)
  · refine lv_iconst (v := nI 1) hx hb dX10_isBank_9 (by decide) ?_
    refine lv_goto (tgt := 14) hx hb dX10_isBank_10 (by decide) ?_
    refine ln_eq bI_t.symm ?_
    exact rt_z hx hb hr hlocks (by first | (rw [c1]; rfl) | (rw [c6]; rfl) | (cases hq : isIx 2 x with | false => rfl | true => obtain ⟨k, hk, rfl⟩ := ix_of hq (by decide); rcases (show k = 0 ∨ k = 1 by omega) with rfl | rfl; exact absurd rfl c1; exact absurd rfl c6)) dX10_isBank_14
  · refine lv_iload_n hx hb dX10_isBank_4 rfl (lv_at hl 0 rfl) ?_
    refine lv_iconst (v := nI 1) hx hb dX10_isBank_5 (by decide) ?_
    refine lv_icmp_ne (tgt := 13) hx hb dX10_isBank_6 (by decide) (fun c6 => ?_) (fun c6 => ?_)
    · refine lv_iconst (v := nI 0) hx hb dX10_isBank_13 (by decide) ?_
      refine ln_eq bI_f.symm ?_
      exact rt_z hx hb hr hlocks (by first | (rw [c1]; rfl) | (rw [c6]; rfl) | (cases hq : isIx 2 x with | false => rfl | true => obtain ⟨k, hk, rfl⟩ := ix_of hq (by decide); rcases (show k = 0 ∨ k = 1 by omega) with rfl | rfl; exact absurd rfl c1; exact absurd rfl c6)) dX10_isBank_14
    · refine lv_iconst (v := nI 1) hx hb dX10_isBank_9 (by decide) ?_
      refine lv_goto (tgt := 14) hx hb dX10_isBank_10 (by decide) ?_
      refine ln_eq bI_t.symm ?_
      exact rt_z hx hb hr hlocks (by first | (rw [c1]; rfl) | (rw [c6]; rfl) | (cases hq : isIx 2 x with | false => rfl | true => obtain ⟨k, hk, rfl⟩ := ix_of hq (by decide); rcases (show k = 0 ∨ k = 1 by omega) with rfl | rfl; exact absurd rfl c1; exact absurd rfl c6)) dX10_isBank_14
set_option maxHeartbeats 4000000 in
set_option maxRecDepth 100000 in
theorem k_X10_bankOf (l : Launch)  (f th bo : Nat) (hf : f < 3) (ht : th < 256) (hb8 : bo < 256) : MS l yX10_bankOf qX10_bankOf 0 [.int (nI (f)), .int (nI (th + 256 * bo))] (nI (bo.testBit f).toNat) := by
  refine Met.ofW (cc := cX10_bankOf) (maxL := 2) (ret := (some .int)) (by decide) rfl ?_
  intro p e s m args below meth c s₁ B hml hv
  obtain ⟨rfl, -⟩ := hv
  have hx := B.exec
  have hb := B.bytes
  have hr := B.returns
  have hlocks := B.notSynchronized
  have hts : ∀ cq ∈ tg, cq.before ([.int (nI (f)), .int (nI (th + 256 * bo))] : List Value).toArray s = true := fun cq h => atoms_spec (ws := qX10_bankOf) B.pre cq (List.mem_cons_of_mem _ h)
  have hown : s.vm.findClass RX10 = some m.cls := findClass_of_methodNamed B.named
  have hl := lv_entry ([.int (nI (f)), .int (nI (th + 256 * bo))]) (n := 2) (Nat.le_of_ble_eq_true rfl)
  rw [lg_entry_eq]
  generalize (lg_sl ([.int (nI (f)), .int (nI (th + 256 * bo))]) ++ List.replicate (2 - (lg_sl ([.int (nI (f)), .int (nI (th + 256 * bo))])).length) Slot.unset).toArray = ls at hl ⊢
  have hl : lv_has ls 2 [(0, .int (nI (f))), (1, .int (nI (th + 256 * bo)))] := hl
  refine lv_iload_n hx hb dX10_bankOf_0 rfl (lv_at hl 1 rfl) ?_
  refine lv_sipush (v := nI 256) hx hb dX10_bankOf_1 (by decide) ?_
  refine ln_idiv hx hb dX10_bankOf_4 (by omega) (by omega) (by omega) ?_
  refine ln_nat (show (th + 256 * bo) / 256 = bo from cw_div ht) ?_
  refine lv_iload_n hx hb dX10_bankOf_5 rfl (lv_at hl 0 rfl) ?_
  refine ln_ishr hx hb dX10_bankOf_6 (by omega) (by omega) ?_
  refine lv_iconst (v := nI 1) hx hb dX10_bankOf_7 (by decide) ?_
  refine ln_iand hx hb dX10_bankOf_8 ?_
  refine ln_nat (show (bo / 2 ^ f) &&& 1 = (bo.testBit f).toNat from bit_and bo f) ?_
  exact rt_i hx hb hr hlocks (rfl) dX10_bankOf_9
set_option maxHeartbeats 4000000 in
set_option maxRecDepth 100000 in
theorem k_X10_allOn (l : Launch)  (b x th bo : Nat) (h0 : b < 2) (h1 : x < 256) (ht : th < 256) (hb8 : bo < 256) : MS l yX10_allOn qX10_allOn 0 [.int (nI (b)), .int (nI (x)), .int (nI (th + 256 * bo))] (bI (onB (decide (b = 1)) x th)) := by
  refine Met.ofW (cc := cX10_allOn) (maxL := 3) (ret := (some .boolean)) (by decide) rfl ?_
  intro p e s m args below meth c s₁ B hml hv
  obtain ⟨rfl, -⟩ := hv
  have hx := B.exec
  have hb := B.bytes
  have hr := B.returns
  have hlocks := B.notSynchronized
  have hts : ∀ cq ∈ tg, cq.before ([.int (nI (b)), .int (nI (x)), .int (nI (th + 256 * bo))] : List Value).toArray s = true := fun cq h => atoms_spec (ws := qX10_allOn) B.pre cq (List.mem_cons_of_mem _ h)
  have hown : s.vm.findClass RX10 = some m.cls := findClass_of_methodNamed B.named
  have hl := lv_entry ([.int (nI (b)), .int (nI (x)), .int (nI (th + 256 * bo))]) (n := 3) (Nat.le_of_ble_eq_true rfl)
  rw [lg_entry_eq]
  generalize (lg_sl ([.int (nI (b)), .int (nI (x)), .int (nI (th + 256 * bo))]) ++ List.replicate (3 - (lg_sl ([.int (nI (b)), .int (nI (x)), .int (nI (th + 256 * bo))])).length) Slot.unset).toArray = ls at hl ⊢
  have hl : lv_has ls 3 [(0, .int (nI (b))), (1, .int (nI (x))), (2, .int (nI (th + 256 * bo)))] := hl
  refine lv_iload_n hx hb dX10_allOn_0 rfl (lv_at hl 1 rfl) ?_
  refine lv_iload_n hx hb dX10_allOn_1 rfl (lv_at hl 2 rfl) ?_
  refine ln_iand hx hb dX10_allOn_2 ?_
  refine ln_nat (show x &&& (th + 256 * bo) = x &&& th from cw_and h1 ht) ?_
  refine lv_iload_n hx hb dX10_allOn_3 rfl (lv_at hl 0 rfl) ?_
  refine lv_iconst (v := nI 1) hx hb dX10_allOn_4 (by decide) ?_
  refine ln_icmp_ne (tgt := 12) hx hb dX10_allOn_5 (by decide) (by omega) (by omega) (fun c5 => ?_) (fun c5 => ?_)
  · refine lv_iconst (v := nI 0) hx hb dX10_allOn_12 (by decide) ?_
    refine ln_icmp_ne (tgt := 20) hx hb dX10_allOn_13 (by decide) (Nat.lt_of_le_of_lt Nat.and_le_left (by omega)) (by omega) (fun c13 => ?_) (fun c13 => ?_)
    · refine lv_iconst (v := nI 0) hx hb dX10_allOn_20 (by decide) ?_
      refine ln_eq bI_f.symm ?_
      exact rt_z hx hb hr hlocks (by unfold onB; first | (rw [decide_eq_true c5, if_pos rfl, decide_eq_true c13]; done) | (rw [decide_eq_true c5, if_pos rfl, decide_eq_false c13]; done) | (rw [decide_eq_false c5, if_neg (by decide), decide_eq_true c13]; done) | (rw [decide_eq_false c5, if_neg (by decide), decide_eq_false c13])) dX10_allOn_21
    · refine lv_iconst (v := nI 1) hx hb dX10_allOn_16 (by decide) ?_
      refine lv_goto (tgt := 21) hx hb dX10_allOn_17 (by decide) ?_
      refine ln_eq bI_t.symm ?_
      exact rt_z hx hb hr hlocks (by unfold onB; first | (rw [decide_eq_true c5, if_pos rfl, decide_eq_true c13]; done) | (rw [decide_eq_true c5, if_pos rfl, decide_eq_false c13]; done) | (rw [decide_eq_false c5, if_neg (by decide), decide_eq_true c13]; done) | (rw [decide_eq_false c5, if_neg (by decide), decide_eq_false c13])) dX10_allOn_21
  · refine lv_iload_n hx hb dX10_allOn_8 rfl (lv_at hl 1 rfl) ?_
    refine lv_goto (tgt := 13) hx hb dX10_allOn_9 (by decide) ?_
    refine ln_icmp_ne (tgt := 20) hx hb dX10_allOn_13 (by decide) (Nat.lt_of_le_of_lt Nat.and_le_left (by omega)) (by omega) (fun c13 => ?_) (fun c13 => ?_)
    · refine lv_iconst (v := nI 0) hx hb dX10_allOn_20 (by decide) ?_
      refine ln_eq bI_f.symm ?_
      exact rt_z hx hb hr hlocks (by unfold onB; first | (rw [decide_eq_true c5, if_pos rfl, decide_eq_true c13]; done) | (rw [decide_eq_true c5, if_pos rfl, decide_eq_false c13]; done) | (rw [decide_eq_false c5, if_neg (by decide), decide_eq_true c13]; done) | (rw [decide_eq_false c5, if_neg (by decide), decide_eq_false c13])) dX10_allOn_21
    · refine lv_iconst (v := nI 1) hx hb dX10_allOn_16 (by decide) ?_
      refine lv_goto (tgt := 21) hx hb dX10_allOn_17 (by decide) ?_
      refine ln_eq bI_t.symm ?_
      exact rt_z hx hb hr hlocks (by unfold onB; first | (rw [decide_eq_true c5, if_pos rfl, decide_eq_true c13]; done) | (rw [decide_eq_true c5, if_pos rfl, decide_eq_false c13]; done) | (rw [decide_eq_false c5, if_neg (by decide), decide_eq_true c13]; done) | (rw [decide_eq_false c5, if_neg (by decide), decide_eq_false c13])) dX10_allOn_21
