theorem ixt {x : Int32} {k : Nat} (hk : k + 1 < 2 ^ 31) (h0 : ¬ x < 0) (h1 : x ≤ nI k) : isIx (k + 1) x = true := by
  rw [Int32.lt_iff_toInt_lt] at h0
  rw [Int32.le_iff_toInt_le, nI_toInt (by omega)] at h1
  have hz : (0 : Int32).toInt = 0 := rfl
  exact (ix_toInt (k + 1) hk x).mpr (by omega)
theorem ixf1 {x : Int32} {n : Nat} (hn : n < 2 ^ 31) (h : x < 0) : isIx n x = false := by
  cases hq : isIx n x with
  | false => rfl
  | true =>
    have h1 := (ix_toInt n hn x).mp hq
    rw [Int32.lt_iff_toInt_lt] at h
    have hz : (0 : Int32).toInt = 0 := rfl
    omega
theorem ixf2 {x : Int32} {k : Nat} (hk : k + 1 < 2 ^ 31) (h : ¬ x ≤ nI k) : isIx (k + 1) x = false := by
  cases hq : isIx (k + 1) x with
  | false => rfl
  | true =>
    have h1 := (ix_toInt (k + 1) hk x).mp hq
    rw [Int32.le_iff_toInt_le, nI_toInt (by omega)] at h
    omega
theorem ixt2 {x : Int32} {n : Nat} (h0 : ¬ x < 0) (h1 : x < nI n) : isIx n x = true := by
  unfold isIx
  rw [decide_eq_true_iff]
  exact ⟨Int32.not_lt.mp h0, h1⟩
theorem ixf3 {x : Int32} {n : Nat} (h : ¬ x < nI n) : isIx n x = false := by
  unfold isIx
  rw [decide_eq_false_iff_not]
  exact fun q => h q.2
theorem okt {n a b : Int32} (h1 : ¬ n < a) (h2 : n ≤ b) : decide (a ≤ n ∧ n ≤ b) = true := decide_eq_true ⟨Int32.not_lt.mp h1, h2⟩
theorem okf1 {n a b : Int32} (h1 : n < a) : decide (a ≤ n ∧ n ≤ b) = false := decide_eq_false (fun q => absurd h1 (Int32.not_lt.mpr q.1))
theorem okf2 {n a b : Int32} (h2 : ¬ n ≤ b) : decide (a ≤ n ∧ n ≤ b) = false := decide_eq_false (fun q => h2 q.2)
theorem cw_tb {th bo t : Nat} (ht : th < 256) (h8 : t < 8) : (th + 256 * bo).testBit t = th.testBit t := by
  have h2 := Nat.testBit_two_pow_mul_add bo (i := 8) (b := th) ht t
  rw [if_pos h8] at h2
  rw [Nat.add_comm]
  exact h2
theorem cw_tb2 {th bo t : Nat} (ht : th < 256) (h8 : ¬ t < 8) : (th + 256 * bo).testBit t = bo.testBit (t - 8) := by
  have h2 := Nat.testBit_two_pow_mul_add bo (i := 8) (b := th) ht t
  rw [if_neg h8] at h2
  rw [Nat.add_comm]
  exact h2
theorem cw_bit {th bo t : Nat} (ht : th < 256) (h8 : t < 8) : (th + 256 * bo) / 2 ^ t &&& 1 = (th.testBit t).toNat := by rw [bit_and, cw_tb ht h8]
theorem bb_eq {th bo x f : Nat} (ht : th < 256) (hx : x < 256) : (th + 256 * bo) ^^^ x ^^^ 256 * 2 ^ f = (th ^^^ x) + 256 * (bo ^^^ 2 ^ f) := by
  apply Nat.eq_of_testBit_eq
  intro i
  have h256 : 256 * 2 ^ f = 2 ^ (8 + f) := by rw [Nat.pow_add]
  rw [h256, Nat.testBit_xor, Nat.testBit_xor, Nat.testBit_two_pow]
  by_cases hi : i < 8
  · rw [cw_tb ht hi, cw_tb (xor_lt8 ht hx) hi, Nat.testBit_xor, decide_eq_false (by omega), Bool.xor_false]
  · rw [cw_tb2 ht hi, cw_tb2 (xor_lt8 ht hx) hi, Nat.testBit_xor, Nat.testBit_two_pow]
    have : x.testBit i = false := Nat.testBit_lt_two_pow (Nat.lt_of_lt_of_le hx (Nat.pow_le_pow_right (n := 2) (i := 8) (by decide) (by omega)))
    rw [this, Bool.xor_false]
    congr 1
    by_cases q : 8 + f = i
    · rw [decide_eq_true q, decide_eq_true (by omega)]
    · rw [decide_eq_false q, decide_eq_false (by omega)]
set_option maxHeartbeats 4000000 in
set_option maxRecDepth 100000 in
theorem k_X10_crossingOf (l : Launch)  (f x : Nat)  : MS l yX10_crossingOf qX10_crossingOf 0 [.int (nI (f)), .int (nI (x))] (nI (256 * f + x)) := by
  refine Met.ofW (cc := cX10_crossingOf) (maxL := 2) (ret := (some .int)) (by decide) rfl ?_
  intro p e s m args below meth c s₁ B hml hv
  obtain ⟨rfl, -⟩ := hv
  have hx := B.exec
  have hb := B.bytes
  have hr := B.returns
  have hlocks := B.notSynchronized
  have hts : ∀ cq ∈ tg, cq.before ([.int (nI (f)), .int (nI (x))] : List Value).toArray s = true := fun cq h => atoms_spec (ws := qX10_crossingOf) B.pre cq (List.mem_cons_of_mem _ h)
  have hown : s.vm.findClass RX10 = some m.cls := findClass_of_methodNamed B.named
  have hl := lv_entry ([.int (nI (f)), .int (nI (x))]) (n := 2) (Nat.le_of_ble_eq_true rfl)
  rw [lg_entry_eq]
  generalize (lg_sl ([.int (nI (f)), .int (nI (x))]) ++ List.replicate (2 - (lg_sl ([.int (nI (f)), .int (nI (x))])).length) Slot.unset).toArray = ls at hl ⊢
  have hl : lv_has ls 2 [(0, .int (nI (f))), (1, .int (nI (x)))] := hl
  refine lv_sipush (v := nI 256) hx hb dX10_crossingOf_0 (by decide) ?_
  refine lv_iload_n hx hb dX10_crossingOf_3 rfl (lv_at hl 0 rfl) ?_
  refine ln_imul hx hb dX10_crossingOf_4 ?_
  refine lv_iload_n hx hb dX10_crossingOf_5 rfl (lv_at hl 1 rfl) ?_
  refine ln_iadd hx hb dX10_crossingOf_6 ?_
  exact rt_i hx hb hr hlocks (rfl) dX10_crossingOf_7
set_option maxHeartbeats 4000000 in
set_option maxRecDepth 100000 in
theorem k_X10_ferryOf (l : Launch)  (f x : Nat) (hf : f < 3) (h1 : x < 256) : MS l yX10_ferryOf qX10_ferryOf 0 [.int (nI (256 * f + x))] (nI f) := by
  refine Met.ofW (cc := cX10_ferryOf) (maxL := 1) (ret := (some .int)) (by decide) rfl ?_
  intro p e s m args below meth c s₁ B hml hv
  obtain ⟨rfl, -⟩ := hv
  have hx := B.exec
  have hb := B.bytes
  have hr := B.returns
  have hlocks := B.notSynchronized
  have hts : ∀ cq ∈ tg, cq.before ([.int (nI (256 * f + x))] : List Value).toArray s = true := fun cq h => atoms_spec (ws := qX10_ferryOf) B.pre cq (List.mem_cons_of_mem _ h)
  have hown : s.vm.findClass RX10 = some m.cls := findClass_of_methodNamed B.named
  have hl := lv_entry ([.int (nI (256 * f + x))]) (n := 1) (Nat.le_of_ble_eq_true rfl)
  rw [lg_entry_eq]
  generalize (lg_sl ([.int (nI (256 * f + x))]) ++ List.replicate (1 - (lg_sl ([.int (nI (256 * f + x))])).length) Slot.unset).toArray = ls at hl ⊢
  have hl : lv_has ls 1 [(0, .int (nI (256 * f + x)))] := hl
  refine lv_iload_n hx hb dX10_ferryOf_0 rfl (lv_at hl 0 rfl) ?_
  refine lv_sipush (v := nI 256) hx hb dX10_ferryOf_1 (by decide) ?_
  refine ln_idiv hx hb dX10_ferryOf_4 (by omega) (by omega) (by omega) ?_
  exact rt_i hx hb hr hlocks (congrArg nI (by omega)) dX10_ferryOf_5
set_option maxHeartbeats 4000000 in
set_option maxRecDepth 100000 in
theorem k_X10_loadOf (l : Launch)  (f x : Nat) (hf : f < 3) (h1 : x < 256) : MS l yX10_loadOf qX10_loadOf 0 [.int (nI (256 * f + x))] (nI x) := by
  refine Met.ofW (cc := cX10_loadOf) (maxL := 1) (ret := (some .int)) (by decide) rfl ?_
  intro p e s m args below meth c s₁ B hml hv
  obtain ⟨rfl, -⟩ := hv
  have hx := B.exec
  have hb := B.bytes
  have hr := B.returns
  have hlocks := B.notSynchronized
  have hts : ∀ cq ∈ tg, cq.before ([.int (nI (256 * f + x))] : List Value).toArray s = true := fun cq h => atoms_spec (ws := qX10_loadOf) B.pre cq (List.mem_cons_of_mem _ h)
  have hown : s.vm.findClass RX10 = some m.cls := findClass_of_methodNamed B.named
  have hl := lv_entry ([.int (nI (256 * f + x))]) (n := 1) (Nat.le_of_ble_eq_true rfl)
  rw [lg_entry_eq]
  generalize (lg_sl ([.int (nI (256 * f + x))]) ++ List.replicate (1 - (lg_sl ([.int (nI (256 * f + x))])).length) Slot.unset).toArray = ls at hl ⊢
  have hl : lv_has ls 1 [(0, .int (nI (256 * f + x)))] := hl
  refine lv_iload_n hx hb dX10_loadOf_0 rfl (lv_at hl 0 rfl) ?_
  refine lv_sipush (v := nI 256) hx hb dX10_loadOf_1 (by decide) ?_
  refine ln_irem hx hb dX10_loadOf_4 (by omega) (by omega) (by omega) ?_
  exact rt_i hx hb hr hlocks (congrArg nI (by omega)) dX10_loadOf_5
set_option maxHeartbeats 4000000 in
set_option maxRecDepth 100000 in
theorem k_X10_banksBehind (l : Launch)  (th bo f x : Nat) (ht : th < 256) (hb8 : bo < 256) (hf : f < 3) (h1 : x < 256) : MS l yX10_banksBehind qX10_banksBehind 1 [.int (nI (th + 256 * bo)), .int (nI (256 * f + x))] (nI ((th ^^^ x) + 256 * (bo ^^^ 2 ^ f))) := by
  refine Met.ofW (cc := cX10_banksBehind) (maxL := 2) (ret := (some .int)) (by decide) rfl ?_
  intro p e s m args below meth c s₁ B hml hv
  obtain ⟨rfl, -⟩ := hv
  have hx := B.exec
  have hb := B.bytes
  have hr := B.returns
  have hlocks := B.notSynchronized
  have hts : ∀ cq ∈ tg, cq.before ([.int (nI (th + 256 * bo)), .int (nI (256 * f + x))] : List Value).toArray s = true := fun cq h => atoms_spec (ws := qX10_banksBehind) B.pre cq (List.mem_cons_of_mem _ h)
  have hown : s.vm.findClass RX10 = some m.cls := findClass_of_methodNamed B.named
  have hl := lv_entry ([.int (nI (th + 256 * bo)), .int (nI (256 * f + x))]) (n := 2) (Nat.le_of_ble_eq_true rfl)
  rw [lg_entry_eq]
  generalize (lg_sl ([.int (nI (th + 256 * bo)), .int (nI (256 * f + x))]) ++ List.replicate (2 - (lg_sl ([.int (nI (th + 256 * bo)), .int (nI (256 * f + x))])).length) Slot.unset).toArray = ls at hl ⊢
  have hl : lv_has ls 2 [(0, .int (nI (th + 256 * bo))), (1, .int (nI (256 * f + x)))] := hl
  have hpf := pw_lt8 (k := f) (by omega)
  refine lv_iload_n hx hb dX10_banksBehind_0 rfl (lv_at hl 0 rfl) ?_
  refine lv_iload_n hx hb dX10_banksBehind_1 rfl (lv_at hl 1 rfl) ?_
  refine cr_s (n := 1) (As := [.int (nI (256 * f + x))]) (rest := [.int (nI (th + 256 * bo))]) ⟨hx, hb, hml, hown, hts⟩ (k_X10_loadOf l f x (by omega) (by omega)) gsX10_261 (by decide +kernel) ⟨Nat.le_of_ble_eq_true rfl, Nat.le_of_ble_eq_true rfl⟩ rfl hl.1 rfl (Nat.le_of_ble_eq_true rfl) dX10_banksBehind_2 ⟨Nat.zero_le _, Nat.zero_le _⟩ ?_
  refine ln_ixor hx hb dX10_banksBehind_5 ?_
  refine lv_sipush (v := nI 256) hx hb dX10_banksBehind_6 (by decide) ?_
  refine lv_iload_n hx hb dX10_banksBehind_9 rfl (lv_at hl 1 rfl) ?_
  refine cr_s (n := 1) (As := [.int (nI (256 * f + x))]) (rest := [.int (nI (256)), .int (nI ((th + 256 * bo) ^^^ x))]) ⟨hx, hb, hml, hown, hts⟩ (k_X10_ferryOf l f x (by omega) (by omega)) gsX10_258 (by decide +kernel) ⟨Nat.le_of_ble_eq_true rfl, Nat.le_of_ble_eq_true rfl⟩ rfl hl.1 rfl (Nat.le_of_ble_eq_true rfl) dX10_banksBehind_10 ⟨Nat.zero_le _, Nat.zero_le _⟩ ?_
  refine ln_ishl hx hb dX10_banksBehind_13 (by omega) (by omega) ?_
  refine ln_ixor hx hb dX10_banksBehind_14 ?_
  exact rt_i hx hb hr hlocks (congrArg nI (bb_eq ht h1)) dX10_banksBehind_15
set_option maxHeartbeats 4000000 in
set_option maxRecDepth 100000 in
theorem k_X10_thing (l : Launch) (D : va_G) (cy : Nat → ClassId) (ad aw : Nat → Nat) (σ : Sg) (J : Js) (t w : Int32) (hw : wfS σ) (hj : wfJ σ J) : MR l yX10_thing qX10_thing 2 [.ref (ad 0), .int (t), .int (w)] D cy (cw cy ad aw σ J) (a_thing σ t w) := by
  refine Met.ofW (cc := cX10_thing) (maxL := 4) (ret := (some .int)) (by decide) rfl ?_
  intro p e s m args below meth c s₁ B hml hv
  obtain ⟨rfl, hP, hK, hN⟩ := hv
  have hx := B.exec
  have hb := B.bytes
  have hr := B.returns
  have hlocks := B.notSynchronized
  have hts : ∀ cq ∈ tg, cq.before ([.ref (ad 0), .int (t), .int (w)] : List Value).toArray s = true := fun cq h => atoms_spec (ws := qX10_thing) B.pre cq (List.mem_cons_of_mem _ h)
  have hown : s.vm.findClass RX10 = some m.cls := findClass_of_methodNamed B.named
  have hl := lv_entry ([.ref (ad 0), .int (t), .int (w)]) (n := 4) (Nat.le_of_ble_eq_true rfl)
  rw [lg_entry_eq]
  generalize (lg_sl ([.ref (ad 0), .int (t), .int (w)]) ++ List.replicate (4 - (lg_sl ([.ref (ad 0), .int (t), .int (w)])).length) Slot.unset).toArray = ls at hl ⊢
  have hl : lv_has ls 4 [(0, .ref (ad 0)), (1, .int (t)), (2, .int (w))] := hl
  have hw1 := hw.1
  have hw2 := hw.2.1
  have hp8 := pw_8 hw1
  have hpp := pw_pos (s_n σ)
  have hov := ov_lt hw
  have hmo := mo_lt hw
  have hof := of_lt hw
  refine lv_aload_n hx hb dX10_thing_0 rfl (lv_at hl 0 rfl) ?_
  refine va_get (D := D) (ci := 9) (v := .ref (ad 3)) (C := RX10) (T := TX10) (N := 8) hx hb hts ni10 hown hK hP 0 (cw_c0 cy ad aw σ J) rfl 1 (by decide) (hts _ flX10_19) (fun _ h => h) rfl dX10_thing_1 ?_
  refine lv_iload_n hx hb dX10_thing_4 rfl (lv_at hl 1 rfl) ?_
  refine cr_v (n := 1) (As := [.int (t)]) (rest := []) ⟨hx, hb, hml, hown, hts⟩ (k_X3_hasThing l D cy ad aw σ J (t) hw) gvX10_100 (by decide +kernel) ⟨Nat.le_of_ble_eq_true rfl, Nat.le_of_ble_eq_true rfl⟩ hK hN hP 3 (cw_c3 cy ad aw σ J) rfl rfl hl.1 rfl (Nat.le_of_ble_eq_true rfl) dX10_thing_5 ⟨Nat.zero_le _, Nat.zero_le _⟩ ?_
  refine lb_if_ne (tgt := 14) hx hb dX10_thing_8 (by decide) (fun c8 => ?_) (fun c8 => ?_)
  · obtain ⟨t0, ht, rfl⟩ := ix_of c8 (by omega)
    have hl : lv_has ls 4 [(0, .ref (ad 0)), (1, .int (nI (t0))), (2, .int (w))] := hl
    have hk := hw.2.2.1 t0 (by omega)
    have hptn := pw_lt ht
    have hpt8 := pw_lt8 (k := t0) (by omega)
    refine lv_aload_n hx hb dX10_thing_14 rfl (lv_at hl 0 rfl) ?_
    refine va_get (D := D) (ci := 9) (v := .ref (ad 3)) (C := RX10) (T := TX10) (N := 8) hx hb hts ni10 hown hK hP 0 (cw_c0 cy ad aw σ J) rfl 1 (by decide) (hts _ flX10_19) (fun _ h => h) rfl dX10_thing_15 ?_
    refine va_get (D := D) (ci := 3) (v := .ref (ad 4)) (C := RX3) (T := TX3) (N := 9) hx hb hts ni3 hown hK hP 3 (cw_c3 cy ad aw σ J) rfl 0 (by decide) (hts _ flX10_104) (fun _ h => h) rfl dX10_thing_18 ?_
    refine lv_iload_n hx hb dX10_thing_21 rfl (lv_at hl 1 rfl) ?_
    refine ln_aald (x := ad (21 + t0)) hx hb hK hP 4 5 (cw_c4 cy ad aw σ J) rfl (by omega) (by decide) rfl dX10_thing_22 ?_
    refine lv_astore_n (lv' := [(3, .ref (ad (21 + t0))), (0, .ref (ad 0)), (1, .int (nI (t0))), (2, .int (w))]) hx hb dX10_thing_23 rfl hl (by decide) rfl (fun ls hl => ?_)
    refine lv_iload_n hx hb dX10_thing_24 rfl (lv_at hl 3 rfl) ?_
    rcases sw_in (n := 8) (by decide) w with ⟨j, hjsw, hsw⟩ | hout
    · rcases (show j = 0 ∨ j = 1 ∨ j = 2 ∨ j = 3 ∨ j = 4 ∨ j = 5 ∨ j = 6 ∨ j = 7 by omega) with rfl | rfl | rfl | rfl | rfl | rfl | rfl | rfl
      · subst hsw
        have hl : lv_has ls 4 [(3, .ref (ad (21 + t0))), (0, .ref (ad 0)), (1, .int (nI (t0))), (2, .int (nI (0)))] := hl
        refine lv_tableIn (tgt := 72) hx hb dX10_thing_25 (by decide) (by decide) rfl (by decide) ?_
        refine lv_aload_n hx hb dX10_thing_72 rfl (lv_at hl 0 rfl) ?_
        refine va_get (D := D) (ci := 8) (v := .int (nI (s_th σ (6 * t0)))) (C := RX8) (T := TX8) (N := 6) hx hb hts ni8 hown hK hP (21 + t0) (cw_thing cy ad aw σ J (t := t0) (by omega)) rfl 0 (by decide) (hts _ flX10_108) (fun _ h => h) rfl dX10_thing_73 ?_
        exact rt_i hx hb hr hlocks (by rw [a_thing, c8, tk_nI (k := t0) (by omega)]; rfl) dX10_thing_76
      · subst hsw
        have hl : lv_has ls 4 [(3, .ref (ad (21 + t0))), (0, .ref (ad 0)), (1, .int (nI (t0))), (2, .int (nI (1)))] := hl
        refine lv_tableIn (tgt := 77) hx hb dX10_thing_25 (by decide) (by decide) rfl (by decide) ?_
        refine lv_aload_n hx hb dX10_thing_77 rfl (lv_at hl 0 rfl) ?_
        refine va_get (D := D) (ci := 8) (v := .int (nI (s_th σ (6 * t0 + 1)))) (C := RX8) (T := TX8) (N := 6) hx hb hts ni8 hown hK hP (21 + t0) (cw_thing cy ad aw σ J (t := t0) (by omega)) rfl 1 (by decide) (hts _ flX10_113) (fun _ h => h) rfl dX10_thing_78 ?_
        exact rt_i hx hb hr hlocks (by rw [a_thing, c8, tk_nI (k := t0) (by omega)]; rfl) dX10_thing_81
      · subst hsw
        have hl : lv_has ls 4 [(3, .ref (ad (21 + t0))), (0, .ref (ad 0)), (1, .int (nI (t0))), (2, .int (nI (2)))] := hl
        refine lv_tableIn (tgt := 82) hx hb dX10_thing_25 (by decide) (by decide) rfl (by decide) ?_
        refine lv_aload_n hx hb dX10_thing_82 rfl (lv_at hl 1 rfl) ?_
        refine va_get (D := D) (ci := 9) (v := .ref (ad 3)) (C := RX10) (T := TX10) (N := 8) hx hb hts ni10 hown hK hP 0 (cw_c0 cy ad aw σ J) rfl 1 (by decide) (hts _ flX10_19) (fun _ h => h) rfl dX10_thing_83 ?_
        refine va_get (D := D) (ci := 3) (v := .ref (ad 6)) (C := RX3) (T := TX3) (N := 9) hx hb hts ni3 hown hK hP 3 (cw_c3 cy ad aw σ J) rfl 2 (by decide) (hts _ flX10_116) (fun _ h => h) rfl dX10_thing_86 ?_
        refine va_get (D := D) (ci := 5) (v := .int (nI (s_ov σ + 256 * s_mo σ))) (C := RX5) (T := TX5) (N := 5) hx hb hts ni5 hown hK hP 6 (cw_c6 cy ad aw σ J) rfl 1 (by decide) (hts _ flX10_120) (fun _ h => h) rfl dX10_thing_89 ?_
        refine lv_iload_n hx hb dX10_thing_92 rfl (lv_at hl 2 rfl) ?_
        refine ln_ishr hx hb dX10_thing_93 (by omega) (by omega) ?_
        refine lv_iconst (v := nI 1) hx hb dX10_thing_94 (by decide) ?_
        refine ln_iand hx hb dX10_thing_95 ?_
        refine ln_nat (show ((s_ov σ + 256 * s_mo σ) / 2 ^ t0) &&& 1 = (Nat.testBit (s_ov σ) t0).toNat from cw_bit (by omega) (by omega)) ?_
        exact rt_i hx hb hr hlocks (by rw [a_thing, c8, tk_nI (k := t0) (by omega)]; rfl) dX10_thing_96
      · subst hsw
        have hl : lv_has ls 4 [(3, .ref (ad (21 + t0))), (0, .ref (ad 0)), (1, .int (nI (t0))), (2, .int (nI (3)))] := hl
        refine lv_tableIn (tgt := 97) hx hb dX10_thing_25 (by decide) (by decide) rfl (by decide) ?_
        refine lv_aload_n hx hb dX10_thing_97 rfl (lv_at hl 0 rfl) ?_
        refine va_get (D := D) (ci := 8) (v := .int (nI (s_th σ (6 * t0 + 3)))) (C := RX8) (T := TX8) (N := 6) hx hb hts ni8 hown hK hP (21 + t0) (cw_thing cy ad aw σ J (t := t0) (by omega)) rfl 3 (by decide) (hts _ flX10_123) (fun _ h => h) rfl dX10_thing_98 ?_
        exact rt_i hx hb hr hlocks (by rw [a_thing, c8, tk_nI (k := t0) (by omega)]; rfl) dX10_thing_101
      · subst hsw
        have hl : lv_has ls 4 [(3, .ref (ad (21 + t0))), (0, .ref (ad 0)), (1, .int (nI (t0))), (2, .int (nI (4)))] := hl
        refine lv_tableIn (tgt := 102) hx hb dX10_thing_25 (by decide) (by decide) rfl (by decide) ?_
        refine lv_aload_n hx hb dX10_thing_102 rfl (lv_at hl 1 rfl) ?_
        refine va_get (D := D) (ci := 9) (v := .ref (ad 3)) (C := RX10) (T := TX10) (N := 8) hx hb hts ni10 hown hK hP 0 (cw_c0 cy ad aw σ J) rfl 1 (by decide) (hts _ flX10_19) (fun _ h => h) rfl dX10_thing_103 ?_
        refine lv_iload_n hx hb dX10_thing_106 rfl (lv_at hl 2 rfl) ?_
        refine cr_v (n := 1) (As := [.int (nI (t0))]) (rest := []) ⟨hx, hb, hml, hown, hts⟩ (k_X3_hatIsOn l D cy ad aw σ J t0 hw hj.2.1 (by omega)) gvX10_126 (by decide +kernel) ⟨Nat.le_of_ble_eq_true rfl, Nat.le_of_ble_eq_true rfl⟩ hK hN hP 3 (cw_c3 cy ad aw σ J) rfl rfl hl.1 rfl (Nat.le_of_ble_eq_true rfl) dX10_thing_107 ⟨Nat.zero_le _, Nat.zero_le _⟩ ?_
        refine lb_if_eq (tgt := 117) hx hb dX10_thing_110 (by decide) (fun c110 => ?_) (fun c110 => ?_)
        · refine lv_iconst (v := nI 0) hx hb dX10_thing_117 (by decide) ?_
          exact rt_i hx hb hr hlocks (by rw [a_thing, c8, tk_nI (k := t0) (by omega)]; show _ = bI (decide (s_th σ (6 * t0) < 2) && !(s_of σ).testBit t0); rw [c110]; rfl) dX10_thing_118
        · refine lv_iconst (v := nI 1) hx hb dX10_thing_113 (by decide) ?_
          refine lv_goto (tgt := 118) hx hb dX10_thing_114 (by decide) ?_
          exact rt_i hx hb hr hlocks (by rw [a_thing, c8, tk_nI (k := t0) (by omega)]; show _ = bI (decide (s_th σ (6 * t0) < 2) && !(s_of σ).testBit t0); rw [c110]; rfl) dX10_thing_118
      · subst hsw
        have hl : lv_has ls 4 [(3, .ref (ad (21 + t0))), (0, .ref (ad 0)), (1, .int (nI (t0))), (2, .int (nI (5)))] := hl
        refine lv_tableIn (tgt := 119) hx hb dX10_thing_25 (by decide) (by decide) rfl (by decide) ?_
        refine lv_aload_n hx hb dX10_thing_119 rfl (lv_at hl 0 rfl) ?_
        refine va_get (D := D) (ci := 8) (v := .int (nI (s_th σ (6 * t0 + 4)))) (C := RX8) (T := TX8) (N := 6) hx hb hts ni8 hown hK hP (21 + t0) (cw_thing cy ad aw σ J (t := t0) (by omega)) rfl 4 (by decide) (hts _ flX10_129) (fun _ h => h) rfl dX10_thing_120 ?_
        exact rt_i hx hb hr hlocks (by rw [a_thing, c8, tk_nI (k := t0) (by omega)]; rfl) dX10_thing_123
      · subst hsw
        have hl : lv_has ls 4 [(3, .ref (ad (21 + t0))), (0, .ref (ad 0)), (1, .int (nI (t0))), (2, .int (nI (6)))] := hl
        refine lv_tableIn (tgt := 124) hx hb dX10_thing_25 (by decide) (by decide) rfl (by decide) ?_
        refine lv_aload_n hx hb dX10_thing_124 rfl (lv_at hl 0 rfl) ?_
        refine va_get (D := D) (ci := 8) (v := .int (nI (s_th σ (6 * t0 + 5)))) (C := RX8) (T := TX8) (N := 6) hx hb hts ni8 hown hK hP (21 + t0) (cw_thing cy ad aw σ J (t := t0) (by omega)) rfl 5 (by decide) (hts _ flX10_132) (fun _ h => h) rfl dX10_thing_125 ?_
        refine ln_if_eq (tgt := 135) hx hb dX10_thing_128 (by decide) (by omega) (fun c128 => ?_) (fun c128 => ?_)
        · refine lv_iconst (v := nI 0) hx hb dX10_thing_135 (by decide) ?_
          exact rt_i hx hb hr hlocks (by rw [a_thing, c8, tk_nI (k := t0) (by omega)]; show _ = nI (s_th σ (6 * t0 + 5)); first | (rw [c128]; done) | (rw [show s_th σ (6 * t0 + 5) = 1 by omega])) dX10_thing_136
        · refine lv_iconst (v := nI 1) hx hb dX10_thing_131 (by decide) ?_
          refine lv_goto (tgt := 136) hx hb dX10_thing_132 (by decide) ?_
          exact rt_i hx hb hr hlocks (by rw [a_thing, c8, tk_nI (k := t0) (by omega)]; show _ = nI (s_th σ (6 * t0 + 5)); first | (rw [c128]; done) | (rw [show s_th σ (6 * t0 + 5) = 1 by omega])) dX10_thing_136
      · subst hsw
        have hl : lv_has ls 4 [(3, .ref (ad (21 + t0))), (0, .ref (ad 0)), (1, .int (nI (t0))), (2, .int (nI (7)))] := hl
        refine lv_tableIn (tgt := 137) hx hb dX10_thing_25 (by decide) (by decide) rfl (by decide) ?_
        refine lv_aload_n hx hb dX10_thing_137 rfl (lv_at hl 1 rfl) ?_
        refine va_get (D := D) (ci := 9) (v := .ref (ad 3)) (C := RX10) (T := TX10) (N := 8) hx hb hts ni10 hown hK hP 0 (cw_c0 cy ad aw σ J) rfl 1 (by decide) (hts _ flX10_19) (fun _ h => h) rfl dX10_thing_138 ?_
        refine lv_iconst (v := nI 1) hx hb dX10_thing_141 (by decide) ?_
        refine lv_iload_n hx hb dX10_thing_142 rfl (lv_at hl 2 rfl) ?_
        refine ln_ishl hx hb dX10_thing_143 (by omega) (by omega) ?_
        refine ln_nat (show 1 * 2 ^ t0 = 2 ^ t0 from Nat.one_mul _) ?_
        refine cr_v (n := 1) (As := [.int (nI (2 ^ t0))]) (rest := []) ⟨hx, hb, hml, hown, hts⟩ (k_X3_poundsOf l D cy ad aw σ J (2 ^ t0) hw hj (by omega)) gvX10_135 (by decide +kernel) ⟨Nat.le_of_ble_eq_true rfl, Nat.le_of_ble_eq_true rfl⟩ hK hN hP 3 (cw_c3 cy ad aw σ J) rfl rfl hl.1 rfl (Nat.le_of_ble_eq_true rfl) dX10_thing_144 ⟨Nat.zero_le _, Nat.zero_le _⟩ ?_
        exact rt_i hx hb hr hlocks (by rw [a_thing, c8, tk_nI (k := t0) (by omega)]; show _ = nI (pd σ (s_of σ) t0); rw [pdA_1 ht]) dX10_thing_147
    · refine lv_tableOut (tgt := 148) hx hb dX10_thing_25 (sw_out (n := 7) (by decide) hout (by decide)) (by decide) ?_
      refine lv_bipush (v := -3) hx hb dX10_thing_148 (by decide) ?_
      exact rt_i hx hb hr hlocks (by rw [a_thing, c8, hout]; rfl) dX10_thing_150
  · refine lv_bipush (v := -2) hx hb dX10_thing_11 (by decide) ?_
    exact rt_i hx hb hr hlocks (by rw [a_thing, c8]; rfl) dX10_thing_13
set_option maxHeartbeats 4000000 in
set_option maxRecDepth 100000 in
theorem k_X10_ferry (l : Launch) (D : va_G) (cy : Nat → ClassId) (ad aw : Nat → Nat) (σ : Sg) (J : Js) (f w : Int32) (hw : wfS σ) (hj : wfJ σ J) : MR l yX10_ferry qX10_ferry 2 [.ref (ad 0), .int (f), .int (w)] D cy (cw cy ad aw σ J) (a_ferry σ f w) := by
  refine Met.ofW (cc := cX10_ferry) (maxL := 4) (ret := (some .int)) (by decide) rfl ?_
  intro p e s m args below meth c s₁ B hml hv
  obtain ⟨rfl, hP, hK, hN⟩ := hv
  have hx := B.exec
  have hb := B.bytes
  have hr := B.returns
  have hlocks := B.notSynchronized
  have hts : ∀ cq ∈ tg, cq.before ([.ref (ad 0), .int (f), .int (w)] : List Value).toArray s = true := fun cq h => atoms_spec (ws := qX10_ferry) B.pre cq (List.mem_cons_of_mem _ h)
  have hown : s.vm.findClass RX10 = some m.cls := findClass_of_methodNamed B.named
  have hl := lv_entry ([.ref (ad 0), .int (f), .int (w)]) (n := 4) (Nat.le_of_ble_eq_true rfl)
  rw [lg_entry_eq]
  generalize (lg_sl ([.ref (ad 0), .int (f), .int (w)]) ++ List.replicate (4 - (lg_sl ([.ref (ad 0), .int (f), .int (w)])).length) Slot.unset).toArray = ls at hl ⊢
  have hl : lv_has ls 4 [(0, .ref (ad 0)), (1, .int (f)), (2, .int (w))] := hl
  have hw1 := hw.1
  have hw2 := hw.2.1
  have hp8 := pw_8 hw1
  have hpp := pw_pos (s_n σ)
  have hov := ov_lt hw
  have hmo := mo_lt hw
  have hof := of_lt hw
  refine lv_aload_n hx hb dX10_ferry_0 rfl (lv_at hl 0 rfl) ?_
  refine va_get (D := D) (ci := 9) (v := .ref (ad 3)) (C := RX10) (T := TX10) (N := 8) hx hb hts ni10 hown hK hP 0 (cw_c0 cy ad aw σ J) rfl 1 (by decide) (hts _ flX10_19) (fun _ h => h) rfl dX10_ferry_1 ?_
  refine lv_iload_n hx hb dX10_ferry_4 rfl (lv_at hl 1 rfl) ?_
  refine cr_v (n := 1) (As := [.int (f)]) (rest := []) ⟨hx, hb, hml, hown, hts⟩ (k_X3_hasFerry l D cy ad aw σ J (f) hw) gvX10_139 (by decide +kernel) ⟨Nat.le_of_ble_eq_true rfl, Nat.le_of_ble_eq_true rfl⟩ hK hN hP 3 (cw_c3 cy ad aw σ J) rfl rfl hl.1 rfl (Nat.le_of_ble_eq_true rfl) dX10_ferry_5 ⟨Nat.zero_le _, Nat.zero_le _⟩ ?_
  refine lb_if_ne (tgt := 14) hx hb dX10_ferry_8 (by decide) (fun c8 => ?_) (fun c8 => ?_)
  · obtain ⟨f0, hf, rfl⟩ := ix_of c8 (by omega)
    have hl : lv_has ls 4 [(0, .ref (ad 0)), (1, .int (nI (f0))), (2, .int (w))] := hl
    have hk := hw.2.2.2.1 f0 (by omega)
    refine lv_aload_n hx hb dX10_ferry_14 rfl (lv_at hl 0 rfl) ?_
    refine va_get (D := D) (ci := 9) (v := .ref (ad 3)) (C := RX10) (T := TX10) (N := 8) hx hb hts ni10 hown hK hP 0 (cw_c0 cy ad aw σ J) rfl 1 (by decide) (hts _ flX10_19) (fun _ h => h) rfl dX10_ferry_15 ?_
    refine va_get (D := D) (ci := 3) (v := .ref (ad 5)) (C := RX3) (T := TX3) (N := 9) hx hb hts ni3 hown hK hP 3 (cw_c3 cy ad aw σ J) rfl 1 (by decide) (hts _ flX10_142) (fun _ h => h) rfl dX10_ferry_18 ?_
    refine lv_iload_n hx hb dX10_ferry_21 rfl (lv_at hl 1 rfl) ?_
    refine ln_aald (x := ad (29 + f0)) hx hb hK hP 5 2 (cw_c5 cy ad aw σ J) rfl (by omega) (by decide) rfl dX10_ferry_22 ?_
    refine lv_astore_n (lv' := [(3, .ref (ad (29 + f0))), (0, .ref (ad 0)), (1, .int (nI (f0))), (2, .int (w))]) hx hb dX10_ferry_23 rfl hl (by decide) rfl (fun ls hl => ?_)
    refine lv_iload_n hx hb dX10_ferry_24 rfl (lv_at hl 3 rfl) ?_
    rcases sw_in (n := 5) (by decide) w with ⟨j, hjsw, hsw⟩ | hout
    · rcases (show j = 0 ∨ j = 1 ∨ j = 2 ∨ j = 3 ∨ j = 4 by omega) with rfl | rfl | rfl | rfl | rfl
      · subst hsw
        have hl : lv_has ls 4 [(3, .ref (ad (29 + f0))), (0, .ref (ad 0)), (1, .int (nI (f0))), (2, .int (nI (0)))] := hl
        refine lv_tableIn (tgt := 60) hx hb dX10_ferry_25 (by decide) (by decide) rfl (by decide) ?_
        refine lv_aload_n hx hb dX10_ferry_60 rfl (lv_at hl 0 rfl) ?_
        refine va_get (D := D) (ci := 0) (v := .int (nI (s_fe σ (5 * f0)))) (C := RX0) (T := TX0) (N := 5) hx hb hts ni0 hown hK hP (29 + f0) (cw_ferry cy ad aw σ J (t := f0) (by omega)) rfl 0 (by decide) (hts _ flX10_146) (fun _ h => h) rfl dX10_ferry_61 ?_
        exact rt_i hx hb hr hlocks (by rw [a_ferry, c8, tk_nI (k := f0) (by omega)]; rfl) dX10_ferry_64
      · subst hsw
        have hl : lv_has ls 4 [(3, .ref (ad (29 + f0))), (0, .ref (ad 0)), (1, .int (nI (f0))), (2, .int (nI (1)))] := hl
        refine lv_tableIn (tgt := 65) hx hb dX10_ferry_25 (by decide) (by decide) rfl (by decide) ?_
        refine lv_aload_n hx hb dX10_ferry_65 rfl (lv_at hl 0 rfl) ?_
        refine lv_aload_n hx hb dX10_ferry_66 rfl (lv_at hl 1 rfl) ?_
        refine va_get (D := D) (ci := 9) (v := .ref (ad 3)) (C := RX10) (T := TX10) (N := 8) hx hb hts ni10 hown hK hP 0 (cw_c0 cy ad aw σ J) rfl 1 (by decide) (hts _ flX10_19) (fun _ h => h) rfl dX10_ferry_67 ?_
        refine va_get (D := D) (ci := 3) (v := .ref (ad 6)) (C := RX3) (T := TX3) (N := 9) hx hb hts ni3 hown hK hP 3 (cw_c3 cy ad aw σ J) rfl 2 (by decide) (hts _ flX10_116) (fun _ h => h) rfl dX10_ferry_70 ?_
        refine va_get (D := D) (ci := 5) (v := .int (bI (s_la σ))) (C := RX5) (T := TX5) (N := 5) hx hb hts ni5 hown hK hP 6 (cw_c6 cy ad aw σ J) rfl 3 (by decide) (hts _ flX10_149) (fun _ h => h) rfl dX10_ferry_73 ?_
        refine cr_v (n := 1) (As := [.int (bI (s_la σ))]) (rest := []) ⟨hx, hb, hml, hown, hts⟩ (k_X0_numberNow l D cy ad aw σ J f0 hw (by omega)) gvX10_152 (by decide +kernel) ⟨Nat.le_of_ble_eq_true rfl, Nat.le_of_ble_eq_true rfl⟩ hK hN hP (29 + f0) (cw_ferry cy ad aw σ J (t := f0) (by omega)) rfl rfl hl.1 rfl (Nat.le_of_ble_eq_true rfl) dX10_ferry_76 ⟨Nat.zero_le _, Nat.zero_le _⟩ ?_
        exact rt_i hx hb hr hlocks (by rw [a_ferry, c8, tk_nI (k := f0) (by omega)]; rfl) dX10_ferry_79
      · subst hsw
        have hl : lv_has ls 4 [(3, .ref (ad (29 + f0))), (0, .ref (ad 0)), (1, .int (nI (f0))), (2, .int (nI (2)))] := hl
        refine lv_tableIn (tgt := 80) hx hb dX10_ferry_25 (by decide) (by decide) rfl (by decide) ?_
        refine lv_iload_n hx hb dX10_ferry_80 rfl (lv_at hl 2 rfl) ?_
        refine lv_aload_n hx hb dX10_ferry_81 rfl (lv_at hl 1 rfl) ?_
        refine va_get (D := D) (ci := 9) (v := .ref (ad 3)) (C := RX10) (T := TX10) (N := 8) hx hb hts ni10 hown hK hP 0 (cw_c0 cy ad aw σ J) rfl 1 (by decide) (hts _ flX10_19) (fun _ h => h) rfl dX10_ferry_82 ?_
        refine va_get (D := D) (ci := 3) (v := .ref (ad 6)) (C := RX3) (T := TX3) (N := 9) hx hb hts ni3 hown hK hP 3 (cw_c3 cy ad aw σ J) rfl 2 (by decide) (hts _ flX10_116) (fun _ h => h) rfl dX10_ferry_85 ?_
        refine va_get (D := D) (ci := 5) (v := .int (nI (s_ov σ + 256 * s_mo σ))) (C := RX5) (T := TX5) (N := 5) hx hb hts ni5 hown hK hP 6 (cw_c6 cy ad aw σ J) rfl 1 (by decide) (hts _ flX10_120) (fun _ h => h) rfl dX10_ferry_88 ?_
        refine cr_s (n := 2) (As := [.int (nI (f0)), .int (nI (s_ov σ + 256 * s_mo σ))]) (rest := []) ⟨hx, hb, hml, hown, hts⟩ (k_X10_bankOf l f0 (s_ov σ) (s_mo σ) (by omega) (by omega) (by omega)) gsX10_156 (by decide +kernel) ⟨Nat.le_of_ble_eq_true rfl, Nat.le_of_ble_eq_true rfl⟩ rfl hl.1 rfl (Nat.le_of_ble_eq_true rfl) dX10_ferry_91 ⟨Nat.zero_le _, Nat.zero_le _⟩ ?_
        exact rt_i hx hb hr hlocks (by rw [a_ferry, c8, tk_nI (k := f0) (by omega)]; rfl) dX10_ferry_94
      · subst hsw
        have hl : lv_has ls 4 [(3, .ref (ad (29 + f0))), (0, .ref (ad 0)), (1, .int (nI (f0))), (2, .int (nI (3)))] := hl
        refine lv_tableIn (tgt := 95) hx hb dX10_ferry_25 (by decide) (by decide) rfl (by decide) ?_
        refine lv_aload_n hx hb dX10_ferry_95 rfl (lv_at hl 0 rfl) ?_
        refine va_get (D := D) (ci := 0) (v := .int (nI (s_fe σ (5 * f0 + 3)))) (C := RX0) (T := TX0) (N := 5) hx hb hts ni0 hown hK hP (29 + f0) (cw_ferry cy ad aw σ J (t := f0) (by omega)) rfl 3 (by decide) (hts _ flX10_160) (fun _ h => h) rfl dX10_ferry_96 ?_
        exact rt_i hx hb hr hlocks (by rw [a_ferry, c8, tk_nI (k := f0) (by omega)]; rfl) dX10_ferry_99
      · subst hsw
        have hl : lv_has ls 4 [(3, .ref (ad (29 + f0))), (0, .ref (ad 0)), (1, .int (nI (f0))), (2, .int (nI (4)))] := hl
        refine lv_tableIn (tgt := 100) hx hb dX10_ferry_25 (by decide) (by decide) rfl (by decide) ?_
        refine lv_aload_n hx hb dX10_ferry_100 rfl (lv_at hl 0 rfl) ?_
        refine va_get (D := D) (ci := 0) (v := .int (nI (s_fe σ (5 * f0 + 4)))) (C := RX0) (T := TX0) (N := 5) hx hb hts ni0 hown hK hP (29 + f0) (cw_ferry cy ad aw σ J (t := f0) (by omega)) rfl 4 (by decide) (hts _ flX10_163) (fun _ h => h) rfl dX10_ferry_101 ?_
        exact rt_i hx hb hr hlocks (by rw [a_ferry, c8, tk_nI (k := f0) (by omega)]; rfl) dX10_ferry_104
    · refine lv_tableOut (tgt := 105) hx hb dX10_ferry_25 (sw_out (n := 4) (by decide) hout (by decide)) (by decide) ?_
      refine lv_bipush (v := -3) hx hb dX10_ferry_105 (by decide) ?_
      exact rt_i hx hb hr hlocks (by rw [a_ferry, c8, hout]; rfl) dX10_ferry_107
  · refine lv_bipush (v := -2) hx hb dX10_ferry_11 (by decide) ?_
    exact rt_i hx hb hr hlocks (by rw [a_ferry, c8]; rfl) dX10_ferry_13
set_option maxHeartbeats 4000000 in
set_option maxRecDepth 100000 in
theorem k_X10_right (l : Launch) (D : va_G) (cy : Nat → ClassId) (ad aw : Nat → Nat) (σ : Sg) (J : Js) (f x : Int32) (hw : wfS σ) (hj : wfJ σ J) : MR l yX10_right qX10_right 5 [.ref (ad 0), .int (f), .int (x)] D cy (cw cy ad aw σ J) (a_right σ f x) := by
  refine Met.ofW (cc := cX10_right) (maxL := 3) (ret := (some .int)) (by decide) rfl ?_
  intro p e s m args below meth c s₁ B hml hv
  obtain ⟨rfl, hP, hK, hN⟩ := hv
  have hx := B.exec
  have hb := B.bytes
  have hr := B.returns
  have hlocks := B.notSynchronized
  have hts : ∀ cq ∈ tg, cq.before ([.ref (ad 0), .int (f), .int (x)] : List Value).toArray s = true := fun cq h => atoms_spec (ws := qX10_right) B.pre cq (List.mem_cons_of_mem _ h)
  have hown : s.vm.findClass RX10 = some m.cls := findClass_of_methodNamed B.named
  have hl := lv_entry ([.ref (ad 0), .int (f), .int (x)]) (n := 3) (Nat.le_of_ble_eq_true rfl)
  rw [lg_entry_eq]
  generalize (lg_sl ([.ref (ad 0), .int (f), .int (x)]) ++ List.replicate (3 - (lg_sl ([.ref (ad 0), .int (f), .int (x)])).length) Slot.unset).toArray = ls at hl ⊢
  have hl : lv_has ls 3 [(0, .ref (ad 0)), (1, .int (f)), (2, .int (x))] := hl
  have hw1 := hw.1
  have hw2 := hw.2.1
  have hp8 := pw_8 hw1
  have hpp := pw_pos (s_n σ)
  have hov := ov_lt hw
  have hmo := mo_lt hw
  have hof := of_lt hw
  refine lv_aload_n hx hb dX10_right_0 rfl (lv_at hl 0 rfl) ?_
  refine va_get (D := D) (ci := 9) (v := .ref (ad 3)) (C := RX10) (T := TX10) (N := 8) hx hb hts ni10 hown hK hP 0 (cw_c0 cy ad aw σ J) rfl 1 (by decide) (hts _ flX10_19) (fun _ h => h) rfl dX10_right_1 ?_
  refine lv_iload_n hx hb dX10_right_4 rfl (lv_at hl 1 rfl) ?_
  refine cr_v (n := 1) (As := [.int (f)]) (rest := []) ⟨hx, hb, hml, hown, hts⟩ (k_X3_hasFerry l D cy ad aw σ J (f) hw) gvX10_139 (by decide +kernel) ⟨Nat.le_of_ble_eq_true rfl, Nat.le_of_ble_eq_true rfl⟩ hK hN hP 3 (cw_c3 cy ad aw σ J) rfl rfl hl.1 rfl (Nat.le_of_ble_eq_true rfl) dX10_right_5 ⟨Nat.zero_le _, Nat.zero_le _⟩ ?_
  refine lb_if_eq (tgt := 22) hx hb dX10_right_8 (by decide) (fun c8 => ?_) (fun c8 => ?_)
  · refine lv_bipush (v := -2) hx hb dX10_right_22 (by decide) ?_
    exact rt_i hx hb hr hlocks (by first | (rw [a_right, c8]; rfl; done) | (rw [a_right, c8, c19]; rfl; done) | (rw [a_right, c8, c19, tk_nI (k := f0) (by omega), tk_nI (k := x0) (by omega), riN, c44]; rfl)) dX10_right_24
  · refine lv_aload_n hx hb dX10_right_11 rfl (lv_at hl 0 rfl) ?_
    refine va_get (D := D) (ci := 9) (v := .ref (ad 3)) (C := RX10) (T := TX10) (N := 8) hx hb hts ni10 hown hK hP 0 (cw_c0 cy ad aw σ J) rfl 1 (by decide) (hts _ flX10_19) (fun _ h => h) rfl dX10_right_12 ?_
    refine lv_iload_n hx hb dX10_right_15 rfl (lv_at hl 2 rfl) ?_
    refine cr_v (n := 1) (As := [.int (x)]) (rest := []) ⟨hx, hb, hml, hown, hts⟩ (k_X3_hasAll l D cy ad aw σ J (x) hw) gvX10_172 (by decide +kernel) ⟨Nat.le_of_ble_eq_true rfl, Nat.le_of_ble_eq_true rfl⟩ hK hN hP 3 (cw_c3 cy ad aw σ J) rfl rfl hl.1 rfl (Nat.le_of_ble_eq_true rfl) dX10_right_16 ⟨Nat.zero_le _, Nat.zero_le _⟩ ?_
    refine lb_if_ne (tgt := 25) hx hb dX10_right_19 (by decide) (fun c19 => ?_) (fun c19 => ?_)
    · obtain ⟨f0, hf, rfl⟩ := ix_of c8 (by omega)
      have hl : lv_has ls 3 [(0, .ref (ad 0)), (1, .int (nI (f0))), (2, .int (x))] := hl
      obtain ⟨x0, hx0, rfl⟩ := ix_of c19 (by omega)
      have hl : lv_has ls 3 [(0, .ref (ad 0)), (1, .int (nI (f0))), (2, .int (nI (x0)))] := hl
      refine lv_aload_n hx hb dX10_right_25 rfl (lv_at hl 0 rfl) ?_
      refine va_get (D := D) (ci := 9) (v := .ref (ad 3)) (C := RX10) (T := TX10) (N := 8) hx hb hts ni10 hown hK hP 0 (cw_c0 cy ad aw σ J) rfl 1 (by decide) (hts _ flX10_19) (fun _ h => h) rfl dX10_right_26 ?_
      refine lv_iload_n hx hb dX10_right_29 rfl (lv_at hl 1 rfl) ?_
      refine lv_iload_n hx hb dX10_right_30 rfl (lv_at hl 2 rfl) ?_
      refine lv_aload_n hx hb dX10_right_31 rfl (lv_at hl 0 rfl) ?_
      refine va_get (D := D) (ci := 9) (v := .ref (ad 3)) (C := RX10) (T := TX10) (N := 8) hx hb hts ni10 hown hK hP 0 (cw_c0 cy ad aw σ J) rfl 1 (by decide) (hts _ flX10_19) (fun _ h => h) rfl dX10_right_32 ?_
      refine va_get (D := D) (ci := 3) (v := .ref (ad 6)) (C := RX3) (T := TX3) (N := 9) hx hb hts ni3 hown hK hP 3 (cw_c3 cy ad aw σ J) rfl 2 (by decide) (hts _ flX10_116) (fun _ h => h) rfl dX10_right_35 ?_
      refine va_get (D := D) (ci := 5) (v := .int (nI (s_ov σ + 256 * s_mo σ))) (C := RX5) (T := TX5) (N := 5) hx hb hts ni5 hown hK hP 6 (cw_c6 cy ad aw σ J) rfl 1 (by decide) (hts _ flX10_120) (fun _ h => h) rfl dX10_right_38 ?_
      refine cr_v (n := 3) (As := [.int (nI (f0)), .int (nI (x0)), .int (nI (s_ov σ + 256 * s_mo σ))]) (rest := []) ⟨hx, hb, hml, hown, hts⟩ (k_X3_isRight l D cy ad aw σ J f0 x0 (s_ov σ) (s_mo σ) hw hj (by omega) (by omega) (by omega) (by omega)) gvX10_175 (by decide +kernel) ⟨Nat.le_of_ble_eq_true rfl, Nat.le_of_ble_eq_true rfl⟩ hK hN hP 3 (cw_c3 cy ad aw σ J) rfl rfl hl.1 rfl (Nat.le_of_ble_eq_true rfl) dX10_right_41 ⟨Nat.zero_le _, Nat.zero_le _⟩ ?_
      refine lb_if_eq (tgt := 51) hx hb dX10_right_44 (by decide) (fun c44 => ?_) (fun c44 => ?_)
      · refine lv_iconst (v := nI 0) hx hb dX10_right_51 (by decide) ?_
        exact rt_i hx hb hr hlocks (by first | (rw [a_right, c8]; rfl; done) | (rw [a_right, c8, c19]; rfl; done) | (rw [a_right, c8, c19, tk_nI (k := f0) (by omega), tk_nI (k := x0) (by omega), riN, c44]; rfl)) dX10_right_52
      · refine lv_iconst (v := nI 1) hx hb dX10_right_47 (by decide) ?_
        refine lv_goto (tgt := 52) hx hb dX10_right_48 (by decide) ?_
        exact rt_i hx hb hr hlocks (by first | (rw [a_right, c8]; rfl; done) | (rw [a_right, c8, c19]; rfl; done) | (rw [a_right, c8, c19, tk_nI (k := f0) (by omega), tk_nI (k := x0) (by omega), riN, c44]; rfl)) dX10_right_52
    · refine lv_bipush (v := -2) hx hb dX10_right_22 (by decide) ?_
      exact rt_i hx hb hr hlocks (by first | (rw [a_right, c8]; rfl; done) | (rw [a_right, c8, c19]; rfl; done) | (rw [a_right, c8, c19, tk_nI (k := f0) (by omega), tk_nI (k := x0) (by omega), riN, c44]; rfl)) dX10_right_24
set_option maxHeartbeats 4000000 in
set_option maxRecDepth 100000 in
theorem k_X10_count (l : Launch) (D : va_G) (cy : Nat → ClassId) (ad aw : Nat → Nat) (σ : Sg) (J : Js) (w : Int32) (hw : wfS σ) : MR l yX10_count qX10_count 0 [.ref (ad 0), .int (w)] D cy (cw cy ad aw σ J) (a_count σ w) := by
  refine Met.ofW (cc := cX10_count) (maxL := 2) (ret := (some .int)) (by decide) rfl ?_
  intro p e s m args below meth c s₁ B hml hv
  obtain ⟨rfl, hP, hK, hN⟩ := hv
  have hx := B.exec
  have hb := B.bytes
  have hr := B.returns
  have hlocks := B.notSynchronized
  have hts : ∀ cq ∈ tg, cq.before ([.ref (ad 0), .int (w)] : List Value).toArray s = true := fun cq h => atoms_spec (ws := qX10_count) B.pre cq (List.mem_cons_of_mem _ h)
  have hown : s.vm.findClass RX10 = some m.cls := findClass_of_methodNamed B.named
  have hl := lv_entry ([.ref (ad 0), .int (w)]) (n := 2) (Nat.le_of_ble_eq_true rfl)
  rw [lg_entry_eq]
  generalize (lg_sl ([.ref (ad 0), .int (w)]) ++ List.replicate (2 - (lg_sl ([.ref (ad 0), .int (w)])).length) Slot.unset).toArray = ls at hl ⊢
  have hl : lv_has ls 2 [(0, .ref (ad 0)), (1, .int (w))] := hl
  have hw1 := hw.1
  have hw2 := hw.2.1
  have hp8 := pw_8 hw1
  have hpp := pw_pos (s_n σ)
  have hov := ov_lt hw
  have hmo := mo_lt hw
  have hof := of_lt hw
  refine lv_iload_n hx hb dX10_count_0 rfl (lv_at hl 1 rfl) ?_
  rcases sw_in (n := 8) (by decide) w with ⟨j, hjsw, hsw⟩ | hout
  · rcases (show j = 0 ∨ j = 1 ∨ j = 2 ∨ j = 3 ∨ j = 4 ∨ j = 5 ∨ j = 6 ∨ j = 7 by omega) with rfl | rfl | rfl | rfl | rfl | rfl | rfl | rfl
    · subst hsw
      have hl : lv_has ls 2 [(0, .ref (ad 0)), (1, .int (nI (0)))] := hl
      refine lv_tableIn (tgt := 48) hx hb dX10_count_1 (by decide) (by decide) rfl (by decide) ?_
      refine lv_aload_n hx hb dX10_count_48 rfl (lv_at hl 0 rfl) ?_
      refine va_get (D := D) (ci := 9) (v := .ref (ad 3)) (C := RX10) (T := TX10) (N := 8) hx hb hts ni10 hown hK hP 0 (cw_c0 cy ad aw σ J) rfl 1 (by decide) (hts _ flX10_19) (fun _ h => h) rfl dX10_count_49 ?_
      refine va_get (D := D) (ci := 3) (v := .int (nI (s_n σ))) (C := RX3) (T := TX3) (N := 9) hx hb hts ni3 hown hK hP 3 (cw_c3 cy ad aw σ J) rfl 3 (by decide) (hts _ flX10_221) (fun _ h => h) rfl dX10_count_52 ?_
      exact rt_i hx hb hr hlocks (rfl) dX10_count_55
    · subst hsw
      have hl : lv_has ls 2 [(0, .ref (ad 0)), (1, .int (nI (1)))] := hl
      refine lv_tableIn (tgt := 56) hx hb dX10_count_1 (by decide) (by decide) rfl (by decide) ?_
      refine lv_aload_n hx hb dX10_count_56 rfl (lv_at hl 0 rfl) ?_
      refine va_get (D := D) (ci := 9) (v := .ref (ad 3)) (C := RX10) (T := TX10) (N := 8) hx hb hts ni10 hown hK hP 0 (cw_c0 cy ad aw σ J) rfl 1 (by decide) (hts _ flX10_19) (fun _ h => h) rfl dX10_count_57 ?_
      refine va_get (D := D) (ci := 3) (v := .int (nI (s_m σ))) (C := RX3) (T := TX3) (N := 9) hx hb hts ni3 hown hK hP 3 (cw_c3 cy ad aw σ J) rfl 4 (by decide) (hts _ flX10_264) (fun _ h => h) rfl dX10_count_60 ?_
      exact rt_i hx hb hr hlocks (rfl) dX10_count_63
    · subst hsw
      have hl : lv_has ls 2 [(0, .ref (ad 0)), (1, .int (nI (2)))] := hl
      refine lv_tableIn (tgt := 64) hx hb dX10_count_1 (by decide) (by decide) rfl (by decide) ?_
      refine lv_aload_n hx hb dX10_count_64 rfl (lv_at hl 0 rfl) ?_
      refine va_get (D := D) (ci := 9) (v := .ref (ad 3)) (C := RX10) (T := TX10) (N := 8) hx hb hts ni10 hown hK hP 0 (cw_c0 cy ad aw σ J) rfl 1 (by decide) (hts _ flX10_19) (fun _ h => h) rfl dX10_count_65 ?_
      refine va_get (D := D) (ci := 3) (v := .ref (ad 6)) (C := RX3) (T := TX3) (N := 9) hx hb hts ni3 hown hK hP 3 (cw_c3 cy ad aw σ J) rfl 2 (by decide) (hts _ flX10_116) (fun _ h => h) rfl dX10_count_68 ?_
      refine va_get (D := D) (ci := 5) (v := .int (nI (s_ov σ + 256 * s_mo σ))) (C := RX5) (T := TX5) (N := 5) hx hb hts ni5 hown hK hP 6 (cw_c6 cy ad aw σ J) rfl 1 (by decide) (hts _ flX10_120) (fun _ h => h) rfl dX10_count_71 ?_
      refine lv_sipush (v := nI 256) hx hb dX10_count_74 (by decide) ?_
      refine ln_irem hx hb dX10_count_77 (by omega) (by omega) (by omega) ?_
      refine ln_nat (show (s_ov σ + 256 * s_mo σ) % 256 = s_ov σ from by omega) ?_
      exact rt_i hx hb hr hlocks (rfl) dX10_count_78
    · subst hsw
      have hl : lv_has ls 2 [(0, .ref (ad 0)), (1, .int (nI (3)))] := hl
      refine lv_tableIn (tgt := 79) hx hb dX10_count_1 (by decide) (by decide) rfl (by decide) ?_
      refine lv_aload_n hx hb dX10_count_79 rfl (lv_at hl 0 rfl) ?_
      refine va_get (D := D) (ci := 9) (v := .ref (ad 3)) (C := RX10) (T := TX10) (N := 8) hx hb hts ni10 hown hK hP 0 (cw_c0 cy ad aw σ J) rfl 1 (by decide) (hts _ flX10_19) (fun _ h => h) rfl dX10_count_80 ?_
      refine va_get (D := D) (ci := 3) (v := .ref (ad 6)) (C := RX3) (T := TX3) (N := 9) hx hb hts ni3 hown hK hP 3 (cw_c3 cy ad aw σ J) rfl 2 (by decide) (hts _ flX10_116) (fun _ h => h) rfl dX10_count_83 ?_
      refine va_get (D := D) (ci := 5) (v := .int (nI (s_ov σ + 256 * s_mo σ))) (C := RX5) (T := TX5) (N := 5) hx hb hts ni5 hown hK hP 6 (cw_c6 cy ad aw σ J) rfl 1 (by decide) (hts _ flX10_120) (fun _ h => h) rfl dX10_count_86 ?_
      refine lv_sipush (v := nI 256) hx hb dX10_count_89 (by decide) ?_
      refine ln_idiv hx hb dX10_count_92 (by omega) (by omega) (by omega) ?_
      refine ln_nat (show (s_ov σ + 256 * s_mo σ) / 256 = s_mo σ from by omega) ?_
      exact rt_i hx hb hr hlocks (rfl) dX10_count_93
    · subst hsw
      have hl : lv_has ls 2 [(0, .ref (ad 0)), (1, .int (nI (4)))] := hl
      refine lv_tableIn (tgt := 94) hx hb dX10_count_1 (by decide) (by decide) rfl (by decide) ?_
      refine lv_aload_n hx hb dX10_count_94 rfl (lv_at hl 0 rfl) ?_
      refine va_get (D := D) (ci := 9) (v := .ref (ad 3)) (C := RX10) (T := TX10) (N := 8) hx hb hts ni10 hown hK hP 0 (cw_c0 cy ad aw σ J) rfl 1 (by decide) (hts _ flX10_19) (fun _ h => h) rfl dX10_count_95 ?_
      refine va_get (D := D) (ci := 3) (v := .ref (ad 6)) (C := RX3) (T := TX3) (N := 9) hx hb hts ni3 hown hK hP 3 (cw_c3 cy ad aw σ J) rfl 2 (by decide) (hts _ flX10_116) (fun _ h => h) rfl dX10_count_98 ?_
      refine va_get (D := D) (ci := 5) (v := .int (nI (s_cr σ))) (C := RX5) (T := TX5) (N := 5) hx hb hts ni5 hown hK hP 6 (cw_c6 cy ad aw σ J) rfl 4 (by decide) (hts _ flX10_185) (fun _ h => h) rfl dX10_count_101 ?_
      exact rt_i hx hb hr hlocks (rfl) dX10_count_104
    · subst hsw
      have hl : lv_has ls 2 [(0, .ref (ad 0)), (1, .int (nI (5)))] := hl
      refine lv_tableIn (tgt := 105) hx hb dX10_count_1 (by decide) (by decide) rfl (by decide) ?_
      refine lv_aload_n hx hb dX10_count_105 rfl (lv_at hl 0 rfl) ?_
      refine va_get (D := D) (ci := 9) (v := .ref (ad 3)) (C := RX10) (T := TX10) (N := 8) hx hb hts ni10 hown hK hP 0 (cw_c0 cy ad aw σ J) rfl 1 (by decide) (hts _ flX10_19) (fun _ h => h) rfl dX10_count_106 ?_
      refine va_get (D := D) (ci := 3) (v := .ref (ad 6)) (C := RX3) (T := TX3) (N := 9) hx hb hts ni3 hown hK hP 3 (cw_c3 cy ad aw σ J) rfl 2 (by decide) (hts _ flX10_116) (fun _ h => h) rfl dX10_count_109 ?_
      refine va_get (D := D) (ci := 5) (v := .int (bI (s_la σ))) (C := RX5) (T := TX5) (N := 5) hx hb hts ni5 hown hK hP 6 (cw_c6 cy ad aw σ J) rfl 3 (by decide) (hts _ flX10_149) (fun _ h => h) rfl dX10_count_112 ?_
      refine lb_if_eq (tgt := 122) hx hb dX10_count_115 (by decide) (fun c115 => ?_) (fun c115 => ?_)
      · refine lv_iconst (v := nI 0) hx hb dX10_count_122 (by decide) ?_
        exact rt_i hx hb hr hlocks (by show _ = bI (s_la σ); rw [c115]; rfl) dX10_count_123
      · refine lv_iconst (v := nI 1) hx hb dX10_count_118 (by decide) ?_
        refine lv_goto (tgt := 123) hx hb dX10_count_119 (by decide) ?_
        exact rt_i hx hb hr hlocks (by show _ = bI (s_la σ); rw [c115]; rfl) dX10_count_123
    · subst hsw
      have hl : lv_has ls 2 [(0, .ref (ad 0)), (1, .int (nI (6)))] := hl
      refine lv_tableIn (tgt := 124) hx hb dX10_count_1 (by decide) (by decide) rfl (by decide) ?_
      refine lv_aload_n hx hb dX10_count_124 rfl (lv_at hl 0 rfl) ?_
      refine va_get (D := D) (ci := 9) (v := .int (nI (s_rn σ))) (C := RX10) (T := TX10) (N := 8) hx hb hts ni10 hown hK hP 0 (cw_c0 cy ad aw σ J) rfl 7 (by decide) (hts _ flX10_58) (fun _ h => h) rfl dX10_count_125 ?_
      exact rt_i hx hb hr hlocks (rfl) dX10_count_128
    · subst hsw
      have hl : lv_has ls 2 [(0, .ref (ad 0)), (1, .int (nI (7)))] := hl
      refine lv_tableIn (tgt := 129) hx hb dX10_count_1 (by decide) (by decide) rfl (by decide) ?_
      refine lv_aload_n hx hb dX10_count_129 rfl (lv_at hl 0 rfl) ?_
      refine va_get (D := D) (ci := 9) (v := .ref (ad 1)) (C := RX10) (T := TX10) (N := 8) hx hb hts ni10 hown hK hP 0 (cw_c0 cy ad aw σ J) rfl 0 (by decide) (hts _ flX10_12) (fun _ h => h) rfl dX10_count_130 ?_
      refine va_get (D := D) (ci := 7) (v := .int (nI (s_ln σ))) (C := RX7) (T := TX7) (N := 2) hx hb hts ni7 hown hK hP 1 (cw_c1 cy ad aw σ J) rfl 1 (by decide) (hts _ flX10_63) (fun _ h => h) rfl dX10_count_133 ?_
      exact rt_i hx hb hr hlocks (rfl) dX10_count_136
  · refine lv_tableOut (tgt := 137) hx hb dX10_count_1 (sw_out (n := 7) (by decide) hout (by decide)) (by decide) ?_
    refine lv_bipush (v := -3) hx hb dX10_count_137 (by decide) ?_
    exact rt_i hx hb hr hlocks (by rw [a_count, hout]; rfl) dX10_count_139
set_option maxHeartbeats 4000000 in
set_option maxRecDepth 100000 in
theorem k_X10_weighed (l : Launch) (D : va_G) (cy : Nat → ClassId) (ad aw : Nat → Nat) (σ : Sg) (J : Js) (bk pn : Int32) (hw : wfS σ) (hj : wfJ σ J) : MR l yX10_weighed qX10_weighed 2 [.ref (ad 0), .int (bk), .int (pn)] D cy (cw cy ad aw σ J) (a_weighed σ bk pn) := by
  refine Met.ofW (cc := cX10_weighed) (maxL := 5) (ret := (some .int)) (by decide) rfl ?_
  intro p e s m args below meth c s₁ B hml hv
  obtain ⟨rfl, hP, hK, hN⟩ := hv
  have hx := B.exec
  have hb := B.bytes
  have hr := B.returns
  have hlocks := B.notSynchronized
  have hts : ∀ cq ∈ tg, cq.before ([.ref (ad 0), .int (bk), .int (pn)] : List Value).toArray s = true := fun cq h => atoms_spec (ws := qX10_weighed) B.pre cq (List.mem_cons_of_mem _ h)
  have hown : s.vm.findClass RX10 = some m.cls := findClass_of_methodNamed B.named
  have hl := lv_entry ([.ref (ad 0), .int (bk), .int (pn)]) (n := 5) (Nat.le_of_ble_eq_true rfl)
  rw [lg_entry_eq]
  generalize (lg_sl ([.ref (ad 0), .int (bk), .int (pn)]) ++ List.replicate (5 - (lg_sl ([.ref (ad 0), .int (bk), .int (pn)])).length) Slot.unset).toArray = ls at hl ⊢
  have hl : lv_has ls 5 [(0, .ref (ad 0)), (1, .int (bk)), (2, .int (pn))] := hl
  have hw1 := hw.1
  have hw2 := hw.2.1
  have hp8 := pw_8 hw1
  have hpp := pw_pos (s_n σ)
  have hov := ov_lt hw
  have hmo := mo_lt hw
  have hof := of_lt hw
  refine lv_iload_n hx hb dX10_weighed_0 rfl (lv_at hl 1 rfl) ?_
  refine cr_s (n := 1) (As := [.int (bk)]) (rest := []) ⟨hx, hb, hml, hown, hts⟩ (k_X10_isBank l (bk)) gsX10_218 (by decide +kernel) ⟨Nat.le_of_ble_eq_true rfl, Nat.le_of_ble_eq_true rfl⟩ rfl hl.1 rfl (Nat.le_of_ble_eq_true rfl) dX10_weighed_1 ⟨Nat.zero_le _, Nat.zero_le _⟩ ?_
  refine lb_if_ne (tgt := 10) hx hb dX10_weighed_4 (by decide) (fun c4 => ?_) (fun c4 => ?_)
  · obtain ⟨b0, hb0, rfl⟩ := ix_of c4 (by omega)
    have hl : lv_has ls 5 [(0, .ref (ad 0)), (1, .int (nI (b0))), (2, .int (pn))] := hl
    refine lv_iload_n hx hb dX10_weighed_10 rfl (lv_at hl 2 rfl) ?_
    refine lv_iconst (v := nI 1) hx hb dX10_weighed_11 (by decide) ?_
    refine lv_icmp_lt (tgt := 22) hx hb dX10_weighed_12 (by decide) (fun c12 => ?_) (fun c12 => ?_)
    · refine lv_bipush (v := -3) hx hb dX10_weighed_22 (by decide) ?_
      exact rt_i hx hb hr hlocks (by rw [a_weighed, c4, show okP pn = false from (by first | exact okf1 c12 | exact okf2 c19)]; rfl) dX10_weighed_24
    · refine lv_iload_n hx hb dX10_weighed_15 rfl (lv_at hl 2 rfl) ?_
      refine lv_sipush (v := nI 999) hx hb dX10_weighed_16 (by decide) ?_
      refine lv_icmp_le (tgt := 25) hx hb dX10_weighed_19 (by decide) (fun c19 => ?_) (fun c19 => ?_)
      · obtain ⟨p0, hp1, hp2, rfl⟩ := okP_of (okt c12 c19)
        have hl : lv_has ls 5 [(0, .ref (ad 0)), (1, .int (nI (b0))), (2, .int (nI (p0)))] := hl
        refine lv_iconst (v := nI 0) hx hb dX10_weighed_25 (by decide) ?_
        refine lv_istore_n (lv' := [(3, .int (nI (0))), (0, .ref (ad 0)), (1, .int (nI (b0))), (2, .int (nI (p0)))]) hx hb dX10_weighed_26 rfl hl (by decide) rfl (fun ls hl => ?_)
        refine lv_iconst (v := nI 1) hx hb dX10_weighed_27 (by decide) ?_
        refine lv_istore (lv' := [(4, .int (nI (1))), (3, .int (nI (0))), (0, .ref (ad 0)), (1, .int (nI (b0))), (2, .int (nI (p0)))]) hx hb dX10_weighed_28 hl (by decide) rfl (fun ls hl => ?_)
        have lp : ∀ (k_lp i : Nat) (ls : Array Slot)  , i + k_lp = 2 ^ s_n σ → 1 ≤ i → lv_has ls 5 [(4, .int (nI (i))), (3, .int (nI (cntN (weP σ (decide (b0 = 1)) p0) i))), (0, .ref (ad 0)), (1, .int (nI (b0))), (2, .int (nI (p0)))] → W p l e (headSpec qX10_weighed (rq 2)).room s m ([.ref (ad 0), .int (nI (b0)), .int (nI (p0))] : List Value).toArray below meth c s.heap [] 0 0 (MQ below (vp_Si (fun r => r = a_weighed σ (nI b0) (nI p0))) ([.ref (ad 0), .int (nI (b0)), .int (nI (p0))] : List Value).toArray s 0 0 (fun _ => False)) (F0 m 30 ls []) := by
          intro k_lp
          induction k_lp with
          | zero =>
            intro i ls hi_lp h1i hl
            refine lv_iload hx hb dX10_weighed_30 (lv_at hl 0 rfl) ?_
            refine lv_iconst (v := nI 1) hx hb dX10_weighed_32 (by decide) ?_
            refine lv_aload_n hx hb dX10_weighed_33 rfl (lv_at hl 2 rfl) ?_
            refine va_get (D := D) (ci := 9) (v := .ref (ad 3)) (C := RX10) (T := TX10) (N := 8) hx hb hts ni10 hown hK hP 0 (cw_c0 cy ad aw σ J) rfl 1 (by decide) (hts _ flX10_19) (fun _ h => h) rfl dX10_weighed_34 ?_
            refine va_get (D := D) (ci := 3) (v := .int (nI (s_n σ))) (C := RX3) (T := TX3) (N := 9) hx hb hts ni3 hown hK hP 3 (cw_c3 cy ad aw σ J) rfl 3 (by decide) (hts _ flX10_221) (fun _ h => h) rfl dX10_weighed_37 ?_
            refine ln_ishl hx hb dX10_weighed_40 (by omega) (by omega) ?_
            refine ln_icmp_ge (tgt := 85) hx hb dX10_weighed_41 (by decide) (by omega) (by omega) (fun c41 => ?_) (fun c41 => ?_)
            · refine lv_iload_n hx hb dX10_weighed_85 rfl (lv_at hl 1 rfl) ?_
              exact rt_i hx hb hr hlocks (by rw [a_weighed, c4, show okP (nI p0) = true from okt c12 c19, tk_nI (k := b0) (by omega), tk_nI (k := p0) (by omega), show 2 ^ s_n σ = i by omega]; rfl) dX10_weighed_86
            · exact absurd c41 (by omega)
          | succ k_lp ih_lp =>
            intro i ls hi_lp h1i hl
            refine lv_iload hx hb dX10_weighed_30 (lv_at hl 0 rfl) ?_
            refine lv_iconst (v := nI 1) hx hb dX10_weighed_32 (by decide) ?_
            refine lv_aload_n hx hb dX10_weighed_33 rfl (lv_at hl 2 rfl) ?_
            refine va_get (D := D) (ci := 9) (v := .ref (ad 3)) (C := RX10) (T := TX10) (N := 8) hx hb hts ni10 hown hK hP 0 (cw_c0 cy ad aw σ J) rfl 1 (by decide) (hts _ flX10_19) (fun _ h => h) rfl dX10_weighed_34 ?_
            refine va_get (D := D) (ci := 3) (v := .int (nI (s_n σ))) (C := RX3) (T := TX3) (N := 9) hx hb hts ni3 hown hK hP 3 (cw_c3 cy ad aw σ J) rfl 3 (by decide) (hts _ flX10_221) (fun _ h => h) rfl dX10_weighed_37 ?_
            refine ln_ishl hx hb dX10_weighed_40 (by omega) (by omega) ?_
            refine ln_icmp_ge (tgt := 85) hx hb dX10_weighed_41 (by decide) (by omega) (by omega) (fun c41 => ?_) (fun c41 => ?_)
            · exact absurd c41 (by omega)
            · refine lv_iload_n hx hb dX10_weighed_44 rfl (lv_at hl 3 rfl) ?_
              refine lv_iload hx hb dX10_weighed_45 (lv_at hl 0 rfl) ?_
              refine lv_aload_n hx hb dX10_weighed_47 rfl (lv_at hl 2 rfl) ?_
              refine va_get (D := D) (ci := 9) (v := .ref (ad 3)) (C := RX10) (T := TX10) (N := 8) hx hb hts ni10 hown hK hP 0 (cw_c0 cy ad aw σ J) rfl 1 (by decide) (hts _ flX10_19) (fun _ h => h) rfl dX10_weighed_48 ?_
              refine va_get (D := D) (ci := 3) (v := .ref (ad 6)) (C := RX3) (T := TX3) (N := 9) hx hb hts ni3 hown hK hP 3 (cw_c3 cy ad aw σ J) rfl 2 (by decide) (hts _ flX10_116) (fun _ h => h) rfl dX10_weighed_51 ?_
              refine va_get (D := D) (ci := 5) (v := .int (nI (s_ov σ + 256 * s_mo σ))) (C := RX5) (T := TX5) (N := 5) hx hb hts ni5 hown hK hP 6 (cw_c6 cy ad aw σ J) rfl 1 (by decide) (hts _ flX10_120) (fun _ h => h) rfl dX10_weighed_54 ?_
              refine cr_s (n := 3) (As := [.int (nI (b0)), .int (nI (i)), .int (nI (s_ov σ + 256 * s_mo σ))]) (rest := []) ⟨hx, hb, hml, hown, hts⟩ (k_X10_allOn l b0 i (s_ov σ) (s_mo σ) (by omega) (by omega) (by omega) (by omega)) gsX10_224 (by decide +kernel) ⟨Nat.le_of_ble_eq_true rfl, Nat.le_of_ble_eq_true rfl⟩ rfl hl.1 rfl (Nat.le_of_ble_eq_true rfl) dX10_weighed_57 ⟨Nat.zero_le _, Nat.zero_le _⟩ ?_
              refine lb_if_eq (tgt := 79) hx hb dX10_weighed_60 (by decide) (fun c60 => ?_) (fun c60 => ?_)
              · refine ln_iinc (lv' := [(4, .int (nI (i + 1))), (3, .int (nI (cntN (weP σ (decide (b0 = 1)) p0) i))), (0, .ref (ad 0)), (1, .int (nI (b0))), (2, .int (nI (p0)))]) hx hb dX10_weighed_79 hl (k := 0) (n := 1) rfl (by decide) rfl (fun ls hl => ?_)
                refine lv_goto (tgt := 30) hx hb dX10_weighed_82 (by decide) ?_
                have hl : lv_has ls 5 [(4, .int (nI (i + 1))), (3, .int (nI (cntN (weP σ (decide (b0 = 1)) p0) (i + 1)))), (0, .ref (ad 0)), (1, .int (nI (b0))), (2, .int (nI (p0)))] := by rw [← (show (nI (cntN (weP σ (decide (b0 = 1)) p0) i)) = (nI (cntN (weP σ (decide (b0 = 1)) p0) (i + 1))) from congrArg nI (by first | exact cntN_f (weP_f1 c60) | exact cntN_t (weP_t h1i c60 c73) | exact cntN_f (weP_f2 c73)))]; exact lv_sub hl [0, 1, 2, 3, 4] rfl
                exact ih_lp (i + 1) ls (by omega) (by omega)  hl
              · have hpd := pdA_le hw i (s_of σ)
                refine lv_aload_n hx hb dX10_weighed_63 rfl (lv_at hl 2 rfl) ?_
                refine va_get (D := D) (ci := 9) (v := .ref (ad 3)) (C := RX10) (T := TX10) (N := 8) hx hb hts ni10 hown hK hP 0 (cw_c0 cy ad aw σ J) rfl 1 (by decide) (hts _ flX10_19) (fun _ h => h) rfl dX10_weighed_64 ?_
                refine lv_iload hx hb dX10_weighed_67 (lv_at hl 0 rfl) ?_
                refine cr_v (n := 1) (As := [.int (nI (i))]) (rest := []) ⟨hx, hb, hml, hown, hts⟩ (k_X3_poundsOf l D cy ad aw σ J i hw hj (by omega)) gvX10_135 (by decide +kernel) ⟨Nat.le_of_ble_eq_true rfl, Nat.le_of_ble_eq_true rfl⟩ hK hN hP 3 (cw_c3 cy ad aw σ J) rfl rfl hl.1 rfl (Nat.le_of_ble_eq_true rfl) dX10_weighed_69 ⟨Nat.zero_le _, Nat.zero_le _⟩ ?_
                refine lv_iload_n hx hb dX10_weighed_72 rfl (lv_at hl 4 rfl) ?_
                refine ln_icmp_ne (tgt := 79) hx hb dX10_weighed_73 (by decide) (by omega) (by omega) (fun c73 => ?_) (fun c73 => ?_)
                · refine ln_iinc (lv' := [(4, .int (nI (i + 1))), (3, .int (nI (cntN (weP σ (decide (b0 = 1)) p0) i))), (0, .ref (ad 0)), (1, .int (nI (b0))), (2, .int (nI (p0)))]) hx hb dX10_weighed_79 hl (k := 0) (n := 1) rfl (by decide) rfl (fun ls hl => ?_)
                  refine lv_goto (tgt := 30) hx hb dX10_weighed_82 (by decide) ?_
                  have hl : lv_has ls 5 [(4, .int (nI (i + 1))), (3, .int (nI (cntN (weP σ (decide (b0 = 1)) p0) (i + 1)))), (0, .ref (ad 0)), (1, .int (nI (b0))), (2, .int (nI (p0)))] := by rw [← (show (nI (cntN (weP σ (decide (b0 = 1)) p0) i)) = (nI (cntN (weP σ (decide (b0 = 1)) p0) (i + 1))) from congrArg nI (by first | exact cntN_f (weP_f1 c60) | exact cntN_t (weP_t h1i c60 c73) | exact cntN_f (weP_f2 c73)))]; exact lv_sub hl [0, 1, 2, 3, 4] rfl
                  exact ih_lp (i + 1) ls (by omega) (by omega)  hl
                · refine ln_iinc (lv' := [(3, .int (nI ((cntN (weP σ (decide (b0 = 1)) p0) i) + 1))), (4, .int (nI (i))), (0, .ref (ad 0)), (1, .int (nI (b0))), (2, .int (nI (p0)))]) hx hb dX10_weighed_76 hl (k := 1) (n := 1) rfl (by decide) rfl (fun ls hl => ?_)
                  refine ln_iinc (lv' := [(4, .int (nI (i + 1))), (3, .int (nI ((cntN (weP σ (decide (b0 = 1)) p0) i) + 1))), (0, .ref (ad 0)), (1, .int (nI (b0))), (2, .int (nI (p0)))]) hx hb dX10_weighed_79 hl (k := 1) (n := 1) rfl (by decide) rfl (fun ls hl => ?_)
                  refine lv_goto (tgt := 30) hx hb dX10_weighed_82 (by decide) ?_
                  have hl : lv_has ls 5 [(4, .int (nI (i + 1))), (3, .int (nI (cntN (weP σ (decide (b0 = 1)) p0) (i + 1)))), (0, .ref (ad 0)), (1, .int (nI (b0))), (2, .int (nI (p0)))] := by rw [← (show (nI ((cntN (weP σ (decide (b0 = 1)) p0) i) + 1)) = (nI (cntN (weP σ (decide (b0 = 1)) p0) (i + 1))) from congrArg nI (by first | exact cntN_f (weP_f1 c60) | exact cntN_t (weP_t h1i c60 c73) | exact cntN_f (weP_f2 c73)))]; exact lv_sub hl [0, 1, 2, 3, 4] rfl
                  exact ih_lp (i + 1) ls (by omega) (by omega)  hl
        have hl : lv_has ls 5 [(4, .int (nI (1))), (3, .int (nI (cntN (weP σ (decide (b0 = 1)) p0) 1))), (0, .ref (ad 0)), (1, .int (nI (b0))), (2, .int (nI (p0)))] := lv_sub hl [0, 1, 2, 3, 4] rfl
        exact lp (2 ^ s_n σ - 1) 1 ls (by omega) (by omega)  hl
      · refine lv_bipush (v := -3) hx hb dX10_weighed_22 (by decide) ?_
        exact rt_i hx hb hr hlocks (by rw [a_weighed, c4, show okP pn = false from (by first | exact okf1 c12 | exact okf2 c19)]; rfl) dX10_weighed_24
  · refine lv_bipush (v := -2) hx hb dX10_weighed_7 (by decide) ?_
    exact rt_i hx hb hr hlocks (by rw [a_weighed, c4]; rfl) dX10_weighed_9
set_option maxHeartbeats 4000000 in
set_option maxRecDepth 100000 in
theorem k_X10_judge (l : Launch) (D : va_G) (cy : Nat → ClassId) (ad aw : Nat → Nat) (σ : Sg) (J : Js)  (hw : wfS σ) (hj : wfJ σ J) : MR l yX10_judge qX10_judge 5 [.ref (ad 0)] D cy (cw cy ad aw σ J) (a_judge σ) := by
  refine Met.ofW (cc := cX10_judge) (maxL := 3) (ret := (some .int)) (by decide) rfl ?_
  intro p e s m args below meth c s₁ B hml hv
  obtain ⟨rfl, hP, hK, hN⟩ := hv
  have hx := B.exec
  have hb := B.bytes
  have hr := B.returns
  have hlocks := B.notSynchronized
  have hts : ∀ cq ∈ tg, cq.before ([.ref (ad 0)] : List Value).toArray s = true := fun cq h => atoms_spec (ws := qX10_judge) B.pre cq (List.mem_cons_of_mem _ h)
  have hown : s.vm.findClass RX10 = some m.cls := findClass_of_methodNamed B.named
  have hl := lv_entry ([.ref (ad 0)]) (n := 3) (Nat.le_of_ble_eq_true rfl)
  rw [lg_entry_eq]
  generalize (lg_sl ([.ref (ad 0)]) ++ List.replicate (3 - (lg_sl ([.ref (ad 0)])).length) Slot.unset).toArray = ls at hl ⊢
  have hl : lv_has ls 3 [(0, .ref (ad 0))] := hl
  have hw1 := hw.1
  have hw2 := hw.2.1
  have hp8 := pw_8 hw1
  have hpp := pw_pos (s_n σ)
  have hov := ov_lt hw
  have hmo := mo_lt hw
  have hof := of_lt hw
  have hrn := hw.2.2.2.2.2.2.2.2.2.1
  refine lv_aload_n hx hb dX10_judge_0 rfl (lv_at hl 0 rfl) ?_
  refine va_get (D := D) (ci := 9) (v := .ref (ad 3)) (C := RX10) (T := TX10) (N := 8) hx hb hts ni10 hown hK hP 0 (cw_c0 cy ad aw σ J) rfl 1 (by decide) (hts _ flX10_19) (fun _ h => h) rfl dX10_judge_1 ?_
  refine va_get (D := D) (ci := 3) (v := .ref (ad 6)) (C := RX3) (T := TX3) (N := 9) hx hb hts ni3 hown hK hP 3 (cw_c3 cy ad aw σ J) rfl 2 (by decide) (hts _ flX10_116) (fun _ h => h) rfl dX10_judge_4 ?_
  refine va_get (D := D) (ci := 5) (v := .int (nI (s_ov σ + 256 * s_mo σ))) (C := RX5) (T := TX5) (N := 5) hx hb hts ni5 hown hK hP 6 (cw_c6 cy ad aw σ J) rfl 1 (by decide) (hts _ flX10_120) (fun _ h => h) rfl dX10_judge_7 ?_
  refine lv_istore_n (lv' := [(1, .int (nI (s_ov σ + 256 * s_mo σ))), (0, .ref (ad 0))]) hx hb dX10_judge_10 rfl hl (by decide) rfl (fun ls hl => ?_)
  refine lv_iconst (v := nI 0) hx hb dX10_judge_11 (by decide) ?_
  refine lv_istore_n (lv' := [(2, .int (nI (0))), (1, .int (nI (s_ov σ + 256 * s_mo σ))), (0, .ref (ad 0))]) hx hb dX10_judge_12 rfl hl (by decide) rfl (fun ls hl => ?_)
  have lp : ∀ (k i : Nat) (ls : Array Slot), i + k = s_rn σ → fst (juP σ) i = none → lv_has ls 3 [(2, .int (nI (i))), (1, .int (nI (jT σ i + 256 * jB σ i))), (0, .ref (ad 0))] → W p l e (headSpec qX10_judge (rq 5)).room s m ([.ref (ad 0)] : List Value).toArray below meth c s.heap [] 0 0 (MQ below (vp_Si (fun r => r = a_judge σ)) ([.ref (ad 0)] : List Value).toArray s 0 0 (fun _ => False)) (F0 m 13 ls []) := by
    intro k
    induction k with
    | zero =>
      intro i ls hi hno hl
      have hjt := jT_lt hw (k := i) (by omega)
      have hjb := jB_lt hw (k := i) (by omega)
      refine lv_iload_n hx hb dX10_judge_13 rfl (lv_at hl 0 rfl) ?_
      refine lv_aload_n hx hb dX10_judge_14 rfl (lv_at hl 2 rfl) ?_
      refine va_get (D := D) (ci := 9) (v := .int (nI (s_rn σ))) (C := RX10) (T := TX10) (N := 8) hx hb hts ni10 hown hK hP 0 (cw_c0 cy ad aw σ J) rfl 7 (by decide) (hts _ flX10_58) (fun _ h => h) rfl dX10_judge_15 ?_
      refine ln_icmp_ge (tgt := 75) hx hb dX10_judge_18 (by decide) (by omega) (by omega) (fun c18 => ?_) (fun c18 => ?_)
      · refine lv_iconst (v := -1) hx hb dX10_judge_75 (by decide) ?_
        exact rt_i hx hb hr hlocks (by rw [a_judge, show s_rn σ = i by omega, hno]; rfl) dX10_judge_76
      · exact absurd c18 (by omega)
    | succ k ih =>
      intro i ls hi hno hl
      have hjt := jT_lt hw (k := i) (by omega)
      have hjb := jB_lt hw (k := i) (by omega)
      have hro := hw.2.2.2.2.2.2.2.2.2.2.2.1 i (by omega)
      refine lv_iload_n hx hb dX10_judge_13 rfl (lv_at hl 0 rfl) ?_
      refine lv_aload_n hx hb dX10_judge_14 rfl (lv_at hl 2 rfl) ?_
      refine va_get (D := D) (ci := 9) (v := .int (nI (s_rn σ))) (C := RX10) (T := TX10) (N := 8) hx hb hts ni10 hown hK hP 0 (cw_c0 cy ad aw σ J) rfl 7 (by decide) (hts _ flX10_58) (fun _ h => h) rfl dX10_judge_15 ?_
      refine ln_icmp_ge (tgt := 75) hx hb dX10_judge_18 (by decide) (by omega) (by omega) (fun c18 => ?_) (fun c18 => ?_)
      · exact absurd c18 (by omega)
      · refine lv_iload_n hx hb dX10_judge_21 rfl (lv_at hl 0 rfl) ?_
        refine lv_bipush (v := nI 12) hx hb dX10_judge_22 (by decide) ?_
        refine ln_icmp_ge (tgt := 75) hx hb dX10_judge_24 (by decide) (by omega) (by omega) (fun c24 => ?_) (fun c24 => ?_)
        · exact absurd c24 (by omega)
        · refine lv_aload_n hx hb dX10_judge_27 rfl (lv_at hl 2 rfl) ?_
          refine va_get (D := D) (ci := 9) (v := .ref (ad 3)) (C := RX10) (T := TX10) (N := 8) hx hb hts ni10 hown hK hP 0 (cw_c0 cy ad aw σ J) rfl 1 (by decide) (hts _ flX10_19) (fun _ h => h) rfl dX10_judge_28 ?_
          refine lv_aload_n hx hb dX10_judge_31 rfl (lv_at hl 2 rfl) ?_
          refine va_get (D := D) (ci := 9) (v := .ref (ad 20)) (C := RX10) (T := TX10) (N := 8) hx hb hts ni10 hown hK hP 0 (cw_c0 cy ad aw σ J) rfl 6 (by decide) (hts _ flX10_54) (fun _ h => h) rfl dX10_judge_32 ?_
          refine lv_iload_n hx hb dX10_judge_35 rfl (lv_at hl 0 rfl) ?_
          refine ln_iald (v := (nI (256 * s_ro σ (2 * i) + s_ro σ (2 * i + 1)))) hx hb hK hP 20 (cw_c20 cy ad aw σ J) (by omega) (by decide) rfl dX10_judge_36 ?_
          refine cr_s (n := 1) (As := [.int (nI (256 * s_ro σ (2 * i) + s_ro σ (2 * i + 1)))]) (rest := [.ref (ad 3)]) ⟨hx, hb, hml, hown, hts⟩ (k_X10_ferryOf l (s_ro σ (2 * i)) (s_ro σ (2 * i + 1)) (by omega) (by omega)) gsX10_258 (by decide +kernel) ⟨Nat.le_of_ble_eq_true rfl, Nat.le_of_ble_eq_true rfl⟩ rfl hl.1 rfl (Nat.le_of_ble_eq_true rfl) dX10_judge_37 ⟨Nat.zero_le _, Nat.zero_le _⟩ ?_
          refine lv_aload_n hx hb dX10_judge_40 rfl (lv_at hl 2 rfl) ?_
          refine va_get (D := D) (ci := 9) (v := .ref (ad 20)) (C := RX10) (T := TX10) (N := 8) hx hb hts ni10 hown hK hP 0 (cw_c0 cy ad aw σ J) rfl 6 (by decide) (hts _ flX10_54) (fun _ h => h) rfl dX10_judge_41 ?_
          refine lv_iload_n hx hb dX10_judge_44 rfl (lv_at hl 0 rfl) ?_
          refine ln_iald (v := (nI (256 * s_ro σ (2 * i) + s_ro σ (2 * i + 1)))) hx hb hK hP 20 (cw_c20 cy ad aw σ J) (by omega) (by decide) rfl dX10_judge_45 ?_
          refine cr_s (n := 1) (As := [.int (nI (256 * s_ro σ (2 * i) + s_ro σ (2 * i + 1)))]) (rest := [.int (nI ((s_ro σ (2 * i)))), .ref (ad 3)]) ⟨hx, hb, hml, hown, hts⟩ (k_X10_loadOf l (s_ro σ (2 * i)) (s_ro σ (2 * i + 1)) (by omega) (by omega)) gsX10_261 (by decide +kernel) ⟨Nat.le_of_ble_eq_true rfl, Nat.le_of_ble_eq_true rfl⟩ rfl hl.1 rfl (Nat.le_of_ble_eq_true rfl) dX10_judge_46 ⟨Nat.zero_le _, Nat.zero_le _⟩ ?_
          refine lv_iload_n hx hb dX10_judge_49 rfl (lv_at hl 1 rfl) ?_
          refine cr_v (n := 3) (As := [.int (nI ((s_ro σ (2 * i)))), .int (nI ((s_ro σ (2 * i + 1)))), .int (nI (jT σ i + 256 * jB σ i))]) (rest := []) ⟨hx, hb, hml, hown, hts⟩ (k_X3_isRight l D cy ad aw σ J (s_ro σ (2 * i)) (s_ro σ (2 * i + 1)) (jT σ i) (jB σ i) hw hj (by omega) (by omega) (by omega) (by omega)) gvX10_175 (by decide +kernel) ⟨Nat.le_of_ble_eq_true rfl, Nat.le_of_ble_eq_true rfl⟩ hK hN hP 3 (cw_c3 cy ad aw σ J) rfl rfl hl.1 rfl (Nat.le_of_ble_eq_true rfl) dX10_judge_50 ⟨Nat.zero_le _, Nat.zero_le _⟩ ?_
          refine lb_if_ne (tgt := 58) hx hb dX10_judge_53 (by decide) (fun c53 => ?_) (fun c53 => ?_)
          · refine lv_iload_n hx hb dX10_judge_58 rfl (lv_at hl 1 rfl) ?_
            refine lv_aload_n hx hb dX10_judge_59 rfl (lv_at hl 2 rfl) ?_
            refine va_get (D := D) (ci := 9) (v := .ref (ad 20)) (C := RX10) (T := TX10) (N := 8) hx hb hts ni10 hown hK hP 0 (cw_c0 cy ad aw σ J) rfl 6 (by decide) (hts _ flX10_54) (fun _ h => h) rfl dX10_judge_60 ?_
            refine lv_iload_n hx hb dX10_judge_63 rfl (lv_at hl 0 rfl) ?_
            refine ln_iald (v := (nI (256 * s_ro σ (2 * i) + s_ro σ (2 * i + 1)))) hx hb hK hP 20 (cw_c20 cy ad aw σ J) (by omega) (by decide) rfl dX10_judge_64 ?_
            refine cr_s (n := 2) (As := [.int (nI (jT σ i + 256 * jB σ i)), .int (nI (256 * s_ro σ (2 * i) + s_ro σ (2 * i + 1)))]) (rest := []) ⟨hx, hb, hml, hown, hts⟩ (k_X10_banksBehind l (jT σ i) (jB σ i) (s_ro σ (2 * i)) (s_ro σ (2 * i + 1)) (by omega) (by omega) (by omega) (by omega)) gsX10_182 (by decide +kernel) ⟨Nat.le_of_ble_eq_true rfl, Nat.le_of_ble_eq_true rfl⟩ rfl hl.1 rfl (Nat.le_of_ble_eq_true rfl) dX10_judge_65 ⟨Nat.zero_le _, Nat.zero_le _⟩ ?_
            refine lv_istore_n (lv' := [(1, .int (nI (((jT σ i) ^^^ (s_ro σ (2 * i + 1))) + 256 * ((jB σ i) ^^^ 2 ^ (s_ro σ (2 * i)))))), (2, .int (nI (i))), (0, .ref (ad 0))]) hx hb dX10_judge_68 rfl hl (by decide) rfl (fun ls hl => ?_)
            refine ln_iinc (lv' := [(2, .int (nI (i + 1))), (1, .int (nI (((jT σ i) ^^^ (s_ro σ (2 * i + 1))) + 256 * ((jB σ i) ^^^ 2 ^ (s_ro σ (2 * i)))))), (0, .ref (ad 0))]) hx hb dX10_judge_69 hl (k := 1) (n := 1) rfl (by decide) rfl (fun ls hl => ?_)
            refine lv_goto (tgt := 13) hx hb dX10_judge_72 (by decide) ?_
            exact ih (i + 1) ls (by omega) (fst_none_s hno (by rw [juP, c53]; rfl)) (lv_sub hl [0, 1, 2] rfl)
          · refine lv_iload_n hx hb dX10_judge_56 rfl (lv_at hl 0 rfl) ?_
            exact rt_i hx hb hr hlocks (by rw [a_judge, fst_hit hno (by rw [juP, c53]; rfl) (by omega)]; rfl) dX10_judge_57
  exact lp (s_rn σ) 0 ls (by omega) rfl (lv_sub hl [0, 1, 2] rfl)
