def htA (σ : Sg) (x : Nat) : Nat := sumN (fun t => if x.testBit t then s_th σ (6 * t + 3) else 0) (s_n σ)
theorem htT_le {σ : Sg} (hw : wfS σ) (ld : Nat) {i : Nat} (hi : i ≤ s_n σ) : sumN (fun t => if ld.testBit t then s_th σ (6 * t + 3) else 0) i ≤ 864 := sumb (fun t ht => by have h1 := hw.2.2.1 t ht; split <;> omega) hi hw.1
theorem bit_t {x k : Nat} (h : x / 2 ^ k &&& 1 = 1) : x.testBit k = true := (bit_1 x k).mp h
theorem bit_f {x k : Nat} (h : ¬ x / 2 ^ k &&& 1 = 1) : x.testBit k = false := Bool.eq_false_iff.mpr (fun q => h ((bit_1 x k).mpr q))
theorem sum_f0 {g : Nat → Nat} {p : Nat → Bool} {i : Nat} (c : p i = false) : sumN (fun t => if p t then g t else 0) i = sumN (fun t => if p t then g t else 0) (i + 1) := by rw [sumN, c]; rfl
theorem hi_of {σ : Sg} {t : Nat} (ht : t < s_n σ) (h8 : s_n σ ≤ 8) : (whN σ &&& (s_of σ ^^^ (2 ^ 32 - 1))).testBit t = (decide (s_th σ (6 * t) < 2) && !(s_of σ).testBit t) := by rw [hat_bit (by omega), wh_bit ht]
set_option maxHeartbeats 4000000 in
set_option maxRecDepth 100000 in
theorem k_X3_poundsOf (l : Launch) (D : va_G) (cy : Nat → ClassId) (ad aw : Nat → Nat) (σ : Sg) (J : Js) (x : Nat) (hw : wfS σ) (hj : wfJ σ J) (h1 : x < 2 ^ s_n σ) : MR l yX3_poundsOf qX3_poundsOf 1 [.ref (ad 3), .int (nI (x))] D cy (cw cy ad aw σ J) (nI (pdA σ x (s_of σ))) := by
  refine Met.ofW (cc := cX3_poundsOf) (maxL := 2) (ret := (some .int)) (by decide) rfl ?_
  intro p e s m args below meth c s₁ B hml hv
  obtain ⟨rfl, hP, hK, hN⟩ := hv
  have hx := B.exec
  have hb := B.bytes
  have hr := B.returns
  have hlocks := B.notSynchronized
  have hts : ∀ cq ∈ tg, cq.before ([.ref (ad 3), .int (nI (x))] : List Value).toArray s = true := fun cq h => atoms_spec (ws := qX3_poundsOf) B.pre cq (List.mem_cons_of_mem _ h)
  have hown : s.vm.findClass RX3 = some m.cls := findClass_of_methodNamed B.named
  have hl := lv_entry ([.ref (ad 3), .int (nI (x))]) (n := 2) (Nat.le_of_ble_eq_true rfl)
  rw [lg_entry_eq]
  generalize (lg_sl ([.ref (ad 3), .int (nI (x))]) ++ List.replicate (2 - (lg_sl ([.ref (ad 3), .int (nI (x))])).length) Slot.unset).toArray = ls at hl ⊢
  have hl : lv_has ls 2 [(0, .ref (ad 3)), (1, .int (nI (x)))] := hl
  have hw1 := hw.1
  have hw2 := hw.2.1
  have hp8 := pw_8 hw1
  have hpp := pw_pos (s_n σ)
  have hov := ov_lt hw
  have hmo := mo_lt hw
  have hof := of_lt hw
  refine lv_aload_n hx hb dX3_poundsOf_0 rfl (lv_at hl 0 rfl) ?_
  refine lv_iload_n hx hb dX3_poundsOf_1 rfl (lv_at hl 1 rfl) ?_
  refine cr_v (n := 1) (As := [.int (nI (x))]) (rest := []) ⟨hx, hb, hml, hown, hts⟩ (k_X3_hasAll l D cy ad aw σ J (nI (x)) hw) gvX3_148 (by decide +kernel) ⟨Nat.le_of_ble_eq_true rfl, Nat.le_of_ble_eq_true rfl⟩ hK hN hP 3 (cw_c3 cy ad aw σ J) rfl rfl hl.1 rfl (Nat.le_of_ble_eq_true rfl) dX3_poundsOf_2 ⟨Nat.zero_le _, Nat.zero_le _⟩ ?_
  refine lb_if_eq (tgt := 17) hx hb dX3_poundsOf_5 (by decide) (fun c5 => ?_) (fun c5 => ?_)
  · exact absurd c5 (by rw [ix_nI (by omega) (by omega), decide_eq_true h1]; decide)
  · refine lv_aload_n hx hb dX3_poundsOf_8 rfl (lv_at hl 0 rfl) ?_
    refine va_get (D := D) (ci := 3) (v := .ref (ad 7)) (C := RX3) (T := TX3) (N := 9) hx hb hts ni3 hown hK hP 3 (cw_c3 cy ad aw σ J) rfl 8 (by decide) (hts _ flX3_46) (fun _ h => h) rfl dX3_poundsOf_9 ?_
    refine lv_iload_n hx hb dX3_poundsOf_12 rfl (lv_at hl 1 rfl) ?_
    refine ln_iald (v := (j_pb J x)) hx hb hK hP 7 (cw_c7 cy ad aw σ J) (by omega) (by decide) rfl dX3_poundsOf_13 ?_
    refine lv_goto (tgt := 18) hx hb dX3_poundsOf_14 (by decide) ?_
    exact rt_i hx hb hr hlocks (hj.2.2.2 x h1) dX3_poundsOf_18
set_option maxHeartbeats 4000000 in
set_option maxRecDepth 100000 in
theorem k_X3_hatIsOn (l : Launch) (D : va_G) (cy : Nat → ClassId) (ad aw : Nat → Nat) (σ : Sg) (J : Js) (t : Nat) (hw : wfS σ) (hj2 : j_wh J = whN σ) (ht : t < s_n σ) : MR l yX3_hatIsOn qX3_hatIsOn 0 [.ref (ad 3), .int (nI (t))] D cy (cw cy ad aw σ J) (bI (decide (s_th σ (6 * t) < 2) && !(s_of σ).testBit t)) := by
  refine Met.ofW (cc := cX3_hatIsOn) (maxL := 2) (ret := (some .boolean)) (by decide) rfl ?_
  intro p e s m args below meth c s₁ B hml hv
  obtain ⟨rfl, hP, hK, hN⟩ := hv
  have hx := B.exec
  have hb := B.bytes
  have hr := B.returns
  have hlocks := B.notSynchronized
  have hts : ∀ cq ∈ tg, cq.before ([.ref (ad 3), .int (nI (t))] : List Value).toArray s = true := fun cq h => atoms_spec (ws := qX3_hatIsOn) B.pre cq (List.mem_cons_of_mem _ h)
  have hown : s.vm.findClass RX3 = some m.cls := findClass_of_methodNamed B.named
  have hl := lv_entry ([.ref (ad 3), .int (nI (t))]) (n := 2) (Nat.le_of_ble_eq_true rfl)
  rw [lg_entry_eq]
  generalize (lg_sl ([.ref (ad 3), .int (nI (t))]) ++ List.replicate (2 - (lg_sl ([.ref (ad 3), .int (nI (t))])).length) Slot.unset).toArray = ls at hl ⊢
  have hl : lv_has ls 2 [(0, .ref (ad 3)), (1, .int (nI (t)))] := hl
  have hw1 := hw.1
  have hw2 := hw.2.1
  have hp8 := pw_8 hw1
  have hpp := pw_pos (s_n σ)
  have hov := ov_lt hw
  have hmo := mo_lt hw
  have hof := of_lt hw
  have hwh := wh_lt hw
  refine lv_aload_n hx hb dX3_hatIsOn_0 rfl (lv_at hl 0 rfl) ?_
  refine va_get (D := D) (ci := 3) (v := .int (nI (j_wh J))) (C := RX3) (T := TX3) (N := 9) hx hb hts ni3 hown hK hP 3 (cw_c3 cy ad aw σ J) rfl 6 (by decide) (hts _ flX3_40) (fun _ h => h) rfl dX3_hatIsOn_1 ?_
  refine ln_nat (show j_wh J = whN σ from hj2) ?_
  refine lv_aload_n hx hb dX3_hatIsOn_4 rfl (lv_at hl 0 rfl) ?_
  refine va_get (D := D) (ci := 3) (v := .ref (ad 6)) (C := RX3) (T := TX3) (N := 9) hx hb hts ni3 hown hK hP 3 (cw_c3 cy ad aw σ J) rfl 2 (by decide) (hts _ flX3_26) (fun _ h => h) rfl dX3_hatIsOn_5 ?_
  refine va_get (D := D) (ci := 5) (v := .int (nI (s_of σ))) (C := RX5) (T := TX5) (N := 5) hx hb hts ni5 hown hK hP 6 (cw_c6 cy ad aw σ J) rfl 2 (by decide) (hts _ flX3_126) (fun _ h => h) rfl dX3_hatIsOn_8 ?_
  refine lv_iconst (v := -1) hx hb dX3_hatIsOn_11 (by decide) ?_
  refine lv_ixor hx hb dX3_hatIsOn_12 ?_
  refine ln_eq (show ((nI (s_of σ)) ^^^ (-1)) = (nI (s_of σ ^^^ (2 ^ 32 - 1))) from xorm1 _ (by omega)) ?_
  refine ln_iand hx hb dX3_hatIsOn_13 ?_
  refine lv_iload_n hx hb dX3_hatIsOn_14 rfl (lv_at hl 1 rfl) ?_
  refine ln_ishr hx hb dX3_hatIsOn_15 (by omega) (and_lt (by omega)) ?_
  refine lv_iconst (v := nI 1) hx hb dX3_hatIsOn_16 (by decide) ?_
  refine ln_iand hx hb dX3_hatIsOn_17 ?_
  refine lv_iconst (v := nI 1) hx hb dX3_hatIsOn_18 (by decide) ?_
  refine ln_icmp_ne (tgt := 26) hx hb dX3_hatIsOn_19 (by decide) (and1_lt _) (by decide) (fun c19 => ?_) (fun c19 => ?_)
  · refine lv_iconst (v := nI 0) hx hb dX3_hatIsOn_26 (by decide) ?_
    refine ln_eq bI_f.symm ?_
    exact rt_z hx hb hr hlocks (by rw [← hi_of ht hw1]; first | exact (bit_t c19).symm | exact (bit_f c19).symm) dX3_hatIsOn_27
  · refine lv_iconst (v := nI 1) hx hb dX3_hatIsOn_22 (by decide) ?_
    refine lv_goto (tgt := 27) hx hb dX3_hatIsOn_23 (by decide) ?_
    refine ln_eq bI_t.symm ?_
    exact rt_z hx hb hr hlocks (by rw [← hi_of ht hw1]; first | exact (bit_t c19).symm | exact (bit_f c19).symm) dX3_hatIsOn_27
set_option maxHeartbeats 4000000 in
set_option maxRecDepth 100000 in
theorem k_X3_hatsOfAll (l : Launch) (D : va_G) (cy : Nat → ClassId) (ad aw : Nat → Nat) (σ : Sg) (J : Js) (x : Nat) (hw : wfS σ) (h1 : x < 2 ^ 31) : MR l yX3_hatsOfAll qX3_hatsOfAll 0 [.ref (ad 3), .int (nI (x))] D cy (cw cy ad aw σ J) (nI (htA σ x)) := by
  refine Met.ofW (cc := cX3_hatsOfAll) (maxL := 4) (ret := (some .int)) (by decide) rfl ?_
  intro p e s m args below meth c s₁ B hml hv
  obtain ⟨rfl, hP, hK, hN⟩ := hv
  have hx := B.exec
  have hb := B.bytes
  have hr := B.returns
  have hlocks := B.notSynchronized
  have hts : ∀ cq ∈ tg, cq.before ([.ref (ad 3), .int (nI (x))] : List Value).toArray s = true := fun cq h => atoms_spec (ws := qX3_hatsOfAll) B.pre cq (List.mem_cons_of_mem _ h)
  have hown : s.vm.findClass RX3 = some m.cls := findClass_of_methodNamed B.named
  have hl := lv_entry ([.ref (ad 3), .int (nI (x))]) (n := 4) (Nat.le_of_ble_eq_true rfl)
  rw [lg_entry_eq]
  generalize (lg_sl ([.ref (ad 3), .int (nI (x))]) ++ List.replicate (4 - (lg_sl ([.ref (ad 3), .int (nI (x))])).length) Slot.unset).toArray = ls at hl ⊢
  have hl : lv_has ls 4 [(0, .ref (ad 3)), (1, .int (nI (x)))] := hl
  have hw1 := hw.1
  have hw2 := hw.2.1
  have hp8 := pw_8 hw1
  have hpp := pw_pos (s_n σ)
  have hov := ov_lt hw
  have hmo := mo_lt hw
  have hof := of_lt hw
  refine lv_iconst (v := nI 0) hx hb dX3_hatsOfAll_0 (by decide) ?_
  refine lv_istore_n (lv' := [(2, .int (nI (0))), (0, .ref (ad 3)), (1, .int (nI (x)))]) hx hb dX3_hatsOfAll_1 rfl hl (by decide) rfl (fun ls hl => ?_)
  refine lv_iconst (v := nI 0) hx hb dX3_hatsOfAll_2 (by decide) ?_
  refine lv_istore_n (lv' := [(3, .int (nI (0))), (2, .int (nI (0))), (0, .ref (ad 3)), (1, .int (nI (x)))]) hx hb dX3_hatsOfAll_3 rfl hl (by decide) rfl (fun ls hl => ?_)
  have lp : ∀ (k_lp i : Nat) (ls : Array Slot)  , i + k_lp = s_n σ → lv_has ls 4 [(3, .int (nI (i))), (2, .int (nI (sumN (fun t => if x.testBit t then s_th σ (6 * t + 3) else 0) i))), (0, .ref (ad 3)), (1, .int (nI (x)))] → W p l e (headSpec qX3_hatsOfAll (rq 0)).room s m ([.ref (ad 3), .int (nI (x))] : List Value).toArray below meth c s.heap [] 0 0 (MQ below (vp_Si (fun r => r = nI (htA σ x))) ([.ref (ad 3), .int (nI (x))] : List Value).toArray s 0 0 (fun _ => False)) (F0 m 4 ls []) := by
    intro k_lp
    induction k_lp with
    | zero =>
      intro i ls hi_lp hl
      refine lv_iload_n hx hb dX3_hatsOfAll_4 rfl (lv_at hl 0 rfl) ?_
      refine lv_aload_n hx hb dX3_hatsOfAll_5 rfl (lv_at hl 2 rfl) ?_
      refine va_get (D := D) (ci := 3) (v := .int (nI (s_n σ))) (C := RX3) (T := TX3) (N := 9) hx hb hts ni3 hown hK hP 3 (cw_c3 cy ad aw σ J) rfl 3 (by decide) (hts _ flX3_30) (fun _ h => h) rfl dX3_hatsOfAll_6 ?_
      refine ln_icmp_ge (tgt := 39) hx hb dX3_hatsOfAll_9 (by decide) (by omega) (by omega) (fun c9 => ?_) (fun c9 => ?_)
      · refine lv_iload_n hx hb dX3_hatsOfAll_39 rfl (lv_at hl 1 rfl) ?_
        exact rt_i hx hb hr hlocks (by rw [show i = s_n σ by omega]; rfl) dX3_hatsOfAll_40
      · exact absurd c9 (by omega)
    | succ k_lp ih_lp =>
      intro i ls hi_lp hl
      refine lv_iload_n hx hb dX3_hatsOfAll_4 rfl (lv_at hl 0 rfl) ?_
      refine lv_aload_n hx hb dX3_hatsOfAll_5 rfl (lv_at hl 2 rfl) ?_
      refine va_get (D := D) (ci := 3) (v := .int (nI (s_n σ))) (C := RX3) (T := TX3) (N := 9) hx hb hts ni3 hown hK hP 3 (cw_c3 cy ad aw σ J) rfl 3 (by decide) (hts _ flX3_30) (fun _ h => h) rfl dX3_hatsOfAll_6 ?_
      refine ln_icmp_ge (tgt := 39) hx hb dX3_hatsOfAll_9 (by decide) (by omega) (by omega) (fun c9 => ?_) (fun c9 => ?_)
      · exact absurd c9 (by omega)
      · refine lv_iload_n hx hb dX3_hatsOfAll_12 rfl (lv_at hl 3 rfl) ?_
        refine lv_iload_n hx hb dX3_hatsOfAll_13 rfl (lv_at hl 0 rfl) ?_
        refine ln_ishr hx hb dX3_hatsOfAll_14 (by omega) (by omega) ?_
        refine lv_iconst (v := nI 1) hx hb dX3_hatsOfAll_15 (by decide) ?_
        refine ln_iand hx hb dX3_hatsOfAll_16 ?_
        refine lv_iconst (v := nI 1) hx hb dX3_hatsOfAll_17 (by decide) ?_
        refine ln_icmp_ne (tgt := 33) hx hb dX3_hatsOfAll_18 (by decide) (and1_lt _) (by decide) (fun c18 => ?_) (fun c18 => ?_)
        · refine ln_iinc (lv' := [(3, .int (nI (i + 1))), (2, .int (nI (sumN (fun t => if x.testBit t then s_th σ (6 * t + 3) else 0) i))), (0, .ref (ad 3)), (1, .int (nI (x)))]) hx hb dX3_hatsOfAll_33 hl (k := 0) (n := 1) rfl (by decide) rfl (fun ls hl => ?_)
          refine lv_goto (tgt := 4) hx hb dX3_hatsOfAll_36 (by decide) ?_
          have hl : lv_has ls 4 [(3, .int (nI (i + 1))), (2, .int (nI (sumN (fun t => if x.testBit t then s_th σ (6 * t + 3) else 0) (i + 1)))), (0, .ref (ad 3)), (1, .int (nI (x)))] := by rw [← (show (nI (sumN (fun t => if x.testBit t then s_th σ (6 * t + 3) else 0) i)) = (nI (sumN (fun t => if x.testBit t then s_th σ (6 * t + 3) else 0) (i + 1))) from congrArg nI (sum_f0 (bit_f c18)))]; exact lv_sub hl [0, 1, 2, 3] rfl
          exact ih_lp (i + 1) ls (by omega)  hl
        · refine lv_iload_n hx hb dX3_hatsOfAll_21 rfl (lv_at hl 1 rfl) ?_
          refine lv_aload_n hx hb dX3_hatsOfAll_22 rfl (lv_at hl 2 rfl) ?_
          refine va_get (D := D) (ci := 3) (v := .ref (ad 4)) (C := RX3) (T := TX3) (N := 9) hx hb hts ni3 hown hK hP 3 (cw_c3 cy ad aw σ J) rfl 0 (by decide) (hts _ flX3_11) (fun _ h => h) rfl dX3_hatsOfAll_23 ?_
          refine lv_iload_n hx hb dX3_hatsOfAll_26 rfl (lv_at hl 0 rfl) ?_
          refine ln_aald (x := ad (21 + i)) hx hb hK hP 4 5 (cw_c4 cy ad aw σ J) rfl (by omega) (by decide) rfl dX3_hatsOfAll_27 ?_
          refine va_get (D := D) (ci := 8) (v := .int (nI (s_th σ (6 * i + 3)))) (C := RX8) (T := TX8) (N := 6) hx hb hts ni8 hown hK hP (21 + i) (cw_thing cy ad aw σ J (t := i) (by omega)) rfl 3 (by decide) (hts _ flX3_97) (fun _ h => h) rfl dX3_hatsOfAll_28 ?_
          refine ln_iadd hx hb dX3_hatsOfAll_31 ?_
          refine ln_nat (show (sumN (fun t => if x.testBit t then s_th σ (6 * t + 3) else 0) i) + (s_th σ (6 * i + 3)) = sumN (fun t => if x.testBit t then s_th σ (6 * t + 3) else 0) (i + 1) from sum_t (f := fun _ => 0) (g := fun t => s_th σ (6 * t + 3)) (bit_t c18) rfl) ?_
          refine lv_istore_n (lv' := [(2, .int (nI (sumN (fun t => if x.testBit t then s_th σ (6 * t + 3) else 0) (i + 1)))), (3, .int (nI (i))), (0, .ref (ad 3)), (1, .int (nI (x)))]) hx hb dX3_hatsOfAll_32 rfl hl (by decide) rfl (fun ls hl => ?_)
          refine ln_iinc (lv' := [(3, .int (nI (i + 1))), (2, .int (nI (sumN (fun t => if x.testBit t then s_th σ (6 * t + 3) else 0) (i + 1)))), (0, .ref (ad 3)), (1, .int (nI (x)))]) hx hb dX3_hatsOfAll_33 hl (k := 1) (n := 1) rfl (by decide) rfl (fun ls hl => ?_)
          refine lv_goto (tgt := 4) hx hb dX3_hatsOfAll_36 (by decide) ?_
          have hl : lv_has ls 4 [(3, .int (nI (i + 1))), (2, .int (nI (sumN (fun t => if x.testBit t then s_th σ (6 * t + 3) else 0) (i + 1)))), (0, .ref (ad 3)), (1, .int (nI (x)))] := lv_sub hl [0, 1, 2, 3] rfl
          exact ih_lp (i + 1) ls (by omega)  hl
  have hl : lv_has ls 4 [(3, .int (nI (0))), (2, .int (nI (sumN (fun t => if x.testBit t then s_th σ (6 * t + 3) else 0) 0))), (0, .ref (ad 3)), (1, .int (nI (x)))] := lv_sub hl [0, 1, 2, 3] rfl
  exact lp (s_n σ - 0) 0 ls (by omega)  hl
set_option maxHeartbeats 4000000 in
set_option maxRecDepth 100000 in
theorem k_X3_wishesOfAll (l : Launch) (D : va_G) (cy : Nat → ClassId) (ad aw : Nat → Nat) (σ : Sg) (J : Js) (x : Nat) (hw : wfS σ) (h1 : x < 2 ^ 31) : MR l yX3_wishesOfAll qX3_wishesOfAll 0 [.ref (ad 3), .int (nI (x))] D cy (cw cy ad aw σ J) (nI (wiA σ x)) := by
  refine Met.ofW (cc := cX3_wishesOfAll) (maxL := 4) (ret := (some .int)) (by decide) rfl ?_
  intro p e s m args below meth c s₁ B hml hv
  obtain ⟨rfl, hP, hK, hN⟩ := hv
  have hx := B.exec
  have hb := B.bytes
  have hr := B.returns
  have hlocks := B.notSynchronized
  have hts : ∀ cq ∈ tg, cq.before ([.ref (ad 3), .int (nI (x))] : List Value).toArray s = true := fun cq h => atoms_spec (ws := qX3_wishesOfAll) B.pre cq (List.mem_cons_of_mem _ h)
  have hown : s.vm.findClass RX3 = some m.cls := findClass_of_methodNamed B.named
  have hl := lv_entry ([.ref (ad 3), .int (nI (x))]) (n := 4) (Nat.le_of_ble_eq_true rfl)
  rw [lg_entry_eq]
  generalize (lg_sl ([.ref (ad 3), .int (nI (x))]) ++ List.replicate (4 - (lg_sl ([.ref (ad 3), .int (nI (x))])).length) Slot.unset).toArray = ls at hl ⊢
  have hl : lv_has ls 4 [(0, .ref (ad 3)), (1, .int (nI (x)))] := hl
  have hw1 := hw.1
  have hw2 := hw.2.1
  have hp8 := pw_8 hw1
  have hpp := pw_pos (s_n σ)
  have hov := ov_lt hw
  have hmo := mo_lt hw
  have hof := of_lt hw
  refine lv_iconst (v := nI 0) hx hb dX3_wishesOfAll_0 (by decide) ?_
  refine lv_istore_n (lv' := [(2, .int (nI (0))), (0, .ref (ad 3)), (1, .int (nI (x)))]) hx hb dX3_wishesOfAll_1 rfl hl (by decide) rfl (fun ls hl => ?_)
  refine lv_iconst (v := nI 0) hx hb dX3_wishesOfAll_2 (by decide) ?_
  refine lv_istore_n (lv' := [(3, .int (nI (0))), (2, .int (nI (0))), (0, .ref (ad 3)), (1, .int (nI (x)))]) hx hb dX3_wishesOfAll_3 rfl hl (by decide) rfl (fun ls hl => ?_)
  have lp : ∀ (k_lp i : Nat) (ls : Array Slot)  , i + k_lp = s_n σ → lv_has ls 4 [(3, .int (nI (i))), (2, .int (nI (sumN (fun t => if x.testBit t then s_th σ (6 * t + 4) else 0) i))), (0, .ref (ad 3)), (1, .int (nI (x)))] → W p l e (headSpec qX3_wishesOfAll (rq 0)).room s m ([.ref (ad 3), .int (nI (x))] : List Value).toArray below meth c s.heap [] 0 0 (MQ below (vp_Si (fun r => r = nI (wiA σ x))) ([.ref (ad 3), .int (nI (x))] : List Value).toArray s 0 0 (fun _ => False)) (F0 m 4 ls []) := by
    intro k_lp
    induction k_lp with
    | zero =>
      intro i ls hi_lp hl
      refine lv_iload_n hx hb dX3_wishesOfAll_4 rfl (lv_at hl 0 rfl) ?_
      refine lv_aload_n hx hb dX3_wishesOfAll_5 rfl (lv_at hl 2 rfl) ?_
      refine va_get (D := D) (ci := 3) (v := .int (nI (s_n σ))) (C := RX3) (T := TX3) (N := 9) hx hb hts ni3 hown hK hP 3 (cw_c3 cy ad aw σ J) rfl 3 (by decide) (hts _ flX3_30) (fun _ h => h) rfl dX3_wishesOfAll_6 ?_
      refine ln_icmp_ge (tgt := 39) hx hb dX3_wishesOfAll_9 (by decide) (by omega) (by omega) (fun c9 => ?_) (fun c9 => ?_)
      · refine lv_iload_n hx hb dX3_wishesOfAll_39 rfl (lv_at hl 1 rfl) ?_
        exact rt_i hx hb hr hlocks (by rw [show i = s_n σ by omega]; rfl) dX3_wishesOfAll_40
      · exact absurd c9 (by omega)
    | succ k_lp ih_lp =>
      intro i ls hi_lp hl
      refine lv_iload_n hx hb dX3_wishesOfAll_4 rfl (lv_at hl 0 rfl) ?_
      refine lv_aload_n hx hb dX3_wishesOfAll_5 rfl (lv_at hl 2 rfl) ?_
      refine va_get (D := D) (ci := 3) (v := .int (nI (s_n σ))) (C := RX3) (T := TX3) (N := 9) hx hb hts ni3 hown hK hP 3 (cw_c3 cy ad aw σ J) rfl 3 (by decide) (hts _ flX3_30) (fun _ h => h) rfl dX3_wishesOfAll_6 ?_
      refine ln_icmp_ge (tgt := 39) hx hb dX3_wishesOfAll_9 (by decide) (by omega) (by omega) (fun c9 => ?_) (fun c9 => ?_)
      · exact absurd c9 (by omega)
      · refine lv_iload_n hx hb dX3_wishesOfAll_12 rfl (lv_at hl 3 rfl) ?_
        refine lv_iload_n hx hb dX3_wishesOfAll_13 rfl (lv_at hl 0 rfl) ?_
        refine ln_ishr hx hb dX3_wishesOfAll_14 (by omega) (by omega) ?_
        refine lv_iconst (v := nI 1) hx hb dX3_wishesOfAll_15 (by decide) ?_
        refine ln_iand hx hb dX3_wishesOfAll_16 ?_
        refine lv_iconst (v := nI 1) hx hb dX3_wishesOfAll_17 (by decide) ?_
        refine ln_icmp_ne (tgt := 33) hx hb dX3_wishesOfAll_18 (by decide) (and1_lt _) (by decide) (fun c18 => ?_) (fun c18 => ?_)
        · refine ln_iinc (lv' := [(3, .int (nI (i + 1))), (2, .int (nI (sumN (fun t => if x.testBit t then s_th σ (6 * t + 4) else 0) i))), (0, .ref (ad 3)), (1, .int (nI (x)))]) hx hb dX3_wishesOfAll_33 hl (k := 0) (n := 1) rfl (by decide) rfl (fun ls hl => ?_)
          refine lv_goto (tgt := 4) hx hb dX3_wishesOfAll_36 (by decide) ?_
          have hl : lv_has ls 4 [(3, .int (nI (i + 1))), (2, .int (nI (sumN (fun t => if x.testBit t then s_th σ (6 * t + 4) else 0) (i + 1)))), (0, .ref (ad 3)), (1, .int (nI (x)))] := by rw [← (show (nI (sumN (fun t => if x.testBit t then s_th σ (6 * t + 4) else 0) i)) = (nI (sumN (fun t => if x.testBit t then s_th σ (6 * t + 4) else 0) (i + 1))) from congrArg nI (sum_f0 (bit_f c18)))]; exact lv_sub hl [0, 1, 2, 3] rfl
          exact ih_lp (i + 1) ls (by omega)  hl
        · refine lv_iload_n hx hb dX3_wishesOfAll_21 rfl (lv_at hl 1 rfl) ?_
          refine lv_aload_n hx hb dX3_wishesOfAll_22 rfl (lv_at hl 2 rfl) ?_
          refine va_get (D := D) (ci := 3) (v := .ref (ad 4)) (C := RX3) (T := TX3) (N := 9) hx hb hts ni3 hown hK hP 3 (cw_c3 cy ad aw σ J) rfl 0 (by decide) (hts _ flX3_11) (fun _ h => h) rfl dX3_wishesOfAll_23 ?_
          refine lv_iload_n hx hb dX3_wishesOfAll_26 rfl (lv_at hl 0 rfl) ?_
          refine ln_aald (x := ad (21 + i)) hx hb hK hP 4 5 (cw_c4 cy ad aw σ J) rfl (by omega) (by decide) rfl dX3_wishesOfAll_27 ?_
          refine va_get (D := D) (ci := 8) (v := .int (nI (s_th σ (6 * i + 4)))) (C := RX8) (T := TX8) (N := 6) hx hb hts ni8 hown hK hP (21 + i) (cw_thing cy ad aw σ J (t := i) (by omega)) rfl 4 (by decide) (hts _ flX3_103) (fun _ h => h) rfl dX3_wishesOfAll_28 ?_
          refine ln_iadd hx hb dX3_wishesOfAll_31 ?_
          refine ln_nat (show (sumN (fun t => if x.testBit t then s_th σ (6 * t + 4) else 0) i) + (s_th σ (6 * i + 4)) = sumN (fun t => if x.testBit t then s_th σ (6 * t + 4) else 0) (i + 1) from sum_t (f := fun _ => 0) (g := fun t => s_th σ (6 * t + 4)) (bit_t c18) rfl) ?_
          refine lv_istore_n (lv' := [(2, .int (nI (sumN (fun t => if x.testBit t then s_th σ (6 * t + 4) else 0) (i + 1)))), (3, .int (nI (i))), (0, .ref (ad 3)), (1, .int (nI (x)))]) hx hb dX3_wishesOfAll_32 rfl hl (by decide) rfl (fun ls hl => ?_)
          refine ln_iinc (lv' := [(3, .int (nI (i + 1))), (2, .int (nI (sumN (fun t => if x.testBit t then s_th σ (6 * t + 4) else 0) (i + 1)))), (0, .ref (ad 3)), (1, .int (nI (x)))]) hx hb dX3_wishesOfAll_33 hl (k := 1) (n := 1) rfl (by decide) rfl (fun ls hl => ?_)
          refine lv_goto (tgt := 4) hx hb dX3_wishesOfAll_36 (by decide) ?_
          have hl : lv_has ls 4 [(3, .int (nI (i + 1))), (2, .int (nI (sumN (fun t => if x.testBit t then s_th σ (6 * t + 4) else 0) (i + 1)))), (0, .ref (ad 3)), (1, .int (nI (x)))] := lv_sub hl [0, 1, 2, 3] rfl
          exact ih_lp (i + 1) ls (by omega)  hl
  have hl : lv_has ls 4 [(3, .int (nI (0))), (2, .int (nI (sumN (fun t => if x.testBit t then s_th σ (6 * t + 4) else 0) 0))), (0, .ref (ad 3)), (1, .int (nI (x)))] := lv_sub hl [0, 1, 2, 3] rfl
  exact lp (s_n σ - 0) 0 ls (by omega)  hl
set_option maxHeartbeats 4000000 in
set_option maxRecDepth 100000 in
theorem k_X3_isOnBankOf (l : Launch) (D : va_G) (cy : Nat → ClassId) (ad aw : Nat → Nat) (σ : Sg) (J : Js) (f x th bo : Nat) (hf : f < 3) (h1 : x < 256) (ht : th < 256) (hb8 : bo < 256) : MR l yX3_isOnBankOf qX3_isOnBankOf 1 [.ref (ad 3), .int (nI (f)), .int (nI (x)), .int (nI (th + 256 * bo))] D cy (cw cy ad aw σ J) (bI (onB (bo.testBit f) x th)) := by
  refine Met.ofW (cc := cX3_isOnBankOf) (maxL := 4) (ret := (some .boolean)) (by decide) rfl ?_
  intro p e s m args below meth c s₁ B hml hv
  obtain ⟨rfl, hP, hK, hN⟩ := hv
  have hx := B.exec
  have hb := B.bytes
  have hr := B.returns
  have hlocks := B.notSynchronized
  have hts : ∀ cq ∈ tg, cq.before ([.ref (ad 3), .int (nI (f)), .int (nI (x)), .int (nI (th + 256 * bo))] : List Value).toArray s = true := fun cq h => atoms_spec (ws := qX3_isOnBankOf) B.pre cq (List.mem_cons_of_mem _ h)
  have hown : s.vm.findClass RX3 = some m.cls := findClass_of_methodNamed B.named
  have hl := lv_entry ([.ref (ad 3), .int (nI (f)), .int (nI (x)), .int (nI (th + 256 * bo))]) (n := 4) (Nat.le_of_ble_eq_true rfl)
  rw [lg_entry_eq]
  generalize (lg_sl ([.ref (ad 3), .int (nI (f)), .int (nI (x)), .int (nI (th + 256 * bo))]) ++ List.replicate (4 - (lg_sl ([.ref (ad 3), .int (nI (f)), .int (nI (x)), .int (nI (th + 256 * bo))])).length) Slot.unset).toArray = ls at hl ⊢
  have hl : lv_has ls 4 [(0, .ref (ad 3)), (1, .int (nI (f))), (2, .int (nI (x))), (3, .int (nI (th + 256 * bo)))] := hl
  have hbt := bit_lt2 (bo.testBit f)
  refine lv_iload_n hx hb dX3_isOnBankOf_0 rfl (lv_at hl 1 rfl) ?_
  refine lv_iload_n hx hb dX3_isOnBankOf_1 rfl (lv_at hl 3 rfl) ?_
  refine cr_sn (host := "NumberFerries") (n := 2) (As := [.int (nI (f)), .int (nI (th + 256 * bo))]) (rest := []) ⟨hx, hb, hml, hown, hts⟩ (k_X10_bankOf l f th bo (by omega) (by omega) (by omega)) (hN _ (List.mem_of_getElem? (i := 0) rfl)) (hts _ smX10_bankOf) (hts _ iniX10) (gc_of cdX10_bankOf) (by decide +kernel) ⟨Nat.le_of_ble_eq_true rfl, Nat.le_of_ble_eq_true rfl⟩ rfl hl.1 rfl (Nat.le_of_ble_eq_true rfl) dX3_isOnBankOf_2 ⟨Nat.zero_le _, Nat.zero_le _⟩ ?_
  refine lv_iload_n hx hb dX3_isOnBankOf_5 rfl (lv_at hl 2 rfl) ?_
  refine lv_iload_n hx hb dX3_isOnBankOf_6 rfl (lv_at hl 3 rfl) ?_
  refine cr_sn (host := "NumberFerries") (n := 3) (As := [.int (nI ((Nat.testBit bo f).toNat)), .int (nI (x)), .int (nI (th + 256 * bo))]) (rest := []) ⟨hx, hb, hml, hown, hts⟩ (k_X10_allOn l ((Nat.testBit bo f).toNat) x th bo (by omega) (by omega) (by omega) (by omega)) (hN _ (List.mem_of_getElem? (i := 1) rfl)) (hts _ smX10_allOn) (hts _ iniX10) (gc_of cdX10_allOn) (by decide +kernel) ⟨Nat.le_of_ble_eq_true rfl, Nat.le_of_ble_eq_true rfl⟩ rfl hl.1 rfl (Nat.le_of_ble_eq_true rfl) dX3_isOnBankOf_7 ⟨Nat.zero_le _, Nat.zero_le _⟩ ?_
  exact rt_z hx hb hr hlocks (by rw [bit_eq1]) dX3_isOnBankOf_10
set_option maxHeartbeats 4000000 in
set_option maxRecDepth 100000 in
theorem k_X3_mayGoAboard (l : Launch) (D : va_G) (cy : Nat → ClassId) (ad aw : Nat → Nat) (σ : Sg) (J : Js) (f x : Nat) (hw : wfS σ) (hj : wfJ σ J) (hf : f < 3) (h1 : x < 256) : MR l yX3_mayGoAboard qX3_mayGoAboard 1 [.ref (ad 3), .int (nI (f)), .int (nI (x))] D cy (cw cy ad aw σ J) (bI (decide (bits x ≤ s_fe σ (5 * f + 3)) && hasP σ x)) := by
  refine Met.ofW (cc := cX3_mayGoAboard) (maxL := 3) (ret := (some .boolean)) (by decide) rfl ?_
  intro p e s m args below meth c s₁ B hml hv
  obtain ⟨rfl, hP, hK, hN⟩ := hv
  have hx := B.exec
  have hb := B.bytes
  have hr := B.returns
  have hlocks := B.notSynchronized
  have hts : ∀ cq ∈ tg, cq.before ([.ref (ad 3), .int (nI (f)), .int (nI (x))] : List Value).toArray s = true := fun cq h => atoms_spec (ws := qX3_mayGoAboard) B.pre cq (List.mem_cons_of_mem _ h)
  have hown : s.vm.findClass RX3 = some m.cls := findClass_of_methodNamed B.named
  have hl := lv_entry ([.ref (ad 3), .int (nI (f)), .int (nI (x))]) (n := 3) (Nat.le_of_ble_eq_true rfl)
  rw [lg_entry_eq]
  generalize (lg_sl ([.ref (ad 3), .int (nI (f)), .int (nI (x))]) ++ List.replicate (3 - (lg_sl ([.ref (ad 3), .int (nI (f)), .int (nI (x))])).length) Slot.unset).toArray = ls at hl ⊢
  have hl : lv_has ls 3 [(0, .ref (ad 3)), (1, .int (nI (f))), (2, .int (nI (x)))] := hl
  have hk := hw.2.2.2.1 f hf
  have hbt := bits_le x
  refine lv_iload_n hx hb dX3_mayGoAboard_0 rfl (lv_at hl 2 rfl) ?_
  refine cr_so (n := 1) (As := [.int (nI (x))]) (rest := []) ⟨hx, hb, hml, hown, hts⟩ (k_J6_bitCount_0f7a4 l x (by omega)) (hts _ mlX3_159) (hts _ smJ6_bitCount_0f7a4) (hts _ iniJ6) (gc_of cdJ6_bitCount_0f7a4) (by decide +kernel) ⟨Nat.le_of_ble_eq_true rfl, Nat.le_of_ble_eq_true rfl⟩ rfl hl.1 rfl (Nat.le_of_ble_eq_true rfl) dX3_mayGoAboard_1 ⟨Nat.zero_le _, Nat.zero_le _⟩ ?_
  refine lv_aload_n hx hb dX3_mayGoAboard_4 rfl (lv_at hl 0 rfl) ?_
  refine va_get (D := D) (ci := 3) (v := .ref (ad 5)) (C := RX3) (T := TX3) (N := 9) hx hb hts ni3 hown hK hP 3 (cw_c3 cy ad aw σ J) rfl 1 (by decide) (hts _ flX3_19) (fun _ h => h) rfl dX3_mayGoAboard_5 ?_
  refine lv_iload_n hx hb dX3_mayGoAboard_8 rfl (lv_at hl 1 rfl) ?_
  refine ln_aald (x := ad (29 + f)) hx hb hK hP 5 2 (cw_c5 cy ad aw σ J) rfl (by omega) (by decide) rfl dX3_mayGoAboard_9 ?_
  refine va_get (D := D) (ci := 0) (v := .int (nI (s_fe σ (5 * f + 3)))) (C := RX0) (T := TX0) (N := 5) hx hb hts ni0 hown hK hP (29 + f) (cw_ferry cy ad aw σ J (t := f) (by omega)) rfl 3 (by decide) (hts _ flX3_165) (fun _ h => h) rfl dX3_mayGoAboard_10 ?_
  refine ln_icmp_gt (tgt := 29) hx hb dX3_mayGoAboard_13 (by decide) (by omega) (by omega) (fun c13 => ?_) (fun c13 => ?_)
  · refine lv_iconst (v := nI 0) hx hb dX3_mayGoAboard_29 (by decide) ?_
    refine ln_eq bI_f.symm ?_
    exact rt_z hx hb hr hlocks (by first | (rw [decide_eq_false (by omega)]; rfl; done) | (rw [decide_eq_true (by omega), (and_pe x).mp c22]; rfl; done) | (rw [decide_eq_true (by omega)]; cases hq : hasP σ x with | true => rfl | false => exact absurd ((and_pe x).mpr hq) (by omega))) dX3_mayGoAboard_30
  · refine lv_iload_n hx hb dX3_mayGoAboard_16 rfl (lv_at hl 2 rfl) ?_
    refine lv_aload_n hx hb dX3_mayGoAboard_17 rfl (lv_at hl 0 rfl) ?_
    refine va_get (D := D) (ci := 3) (v := .int (nI (j_pe J))) (C := RX3) (T := TX3) (N := 9) hx hb hts ni3 hown hK hP 3 (cw_c3 cy ad aw σ J) rfl 5 (by decide) (hts _ flX3_37) (fun _ h => h) rfl dX3_mayGoAboard_18 ?_
    refine ln_nat (show j_pe J = peN σ from hj.1) ?_
    refine ln_iand hx hb dX3_mayGoAboard_21 ?_
    refine ln_if_eq (tgt := 29) hx hb dX3_mayGoAboard_22 (by decide) (and_lt (by omega)) (fun c22 => ?_) (fun c22 => ?_)
    · refine lv_iconst (v := nI 0) hx hb dX3_mayGoAboard_29 (by decide) ?_
      refine ln_eq bI_f.symm ?_
      exact rt_z hx hb hr hlocks (by first | (rw [decide_eq_false (by omega)]; rfl; done) | (rw [decide_eq_true (by omega), (and_pe x).mp c22]; rfl; done) | (rw [decide_eq_true (by omega)]; cases hq : hasP σ x with | true => rfl | false => exact absurd ((and_pe x).mpr hq) (by omega))) dX3_mayGoAboard_30
    · refine lv_iconst (v := nI 1) hx hb dX3_mayGoAboard_25 (by decide) ?_
      refine lv_goto (tgt := 30) hx hb dX3_mayGoAboard_26 (by decide) ?_
      refine ln_eq bI_t.symm ?_
      exact rt_z hx hb hr hlocks (by first | (rw [decide_eq_false (by omega)]; rfl; done) | (rw [decide_eq_true (by omega), (and_pe x).mp c22]; rfl; done) | (rw [decide_eq_true (by omega)]; cases hq : hasP σ x with | true => rfl | false => exact absurd ((and_pe x).mpr hq) (by omega))) dX3_mayGoAboard_30
set_option maxHeartbeats 4000000 in
set_option maxRecDepth 100000 in
theorem k_X3_missBy (l : Launch) (D : va_G) (cy : Nat → ClassId) (ad aw : Nat → Nat) (σ : Sg) (J : Js) (f x : Nat) (hw : wfS σ) (hf : f < 3) (h1 : x < 2 ^ 29) : MR l yX3_missBy qX3_missBy 1 [.ref (ad 3), .int (nI (f)), .int (nI (x))] D cy (cw cy ad aw σ J) (nI (adif x (numN σ f))) := by
  refine Met.ofW (cc := cX3_missBy) (maxL := 3) (ret := (some .int)) (by decide) rfl ?_
  intro p e s m args below meth c s₁ B hml hv
  obtain ⟨rfl, hP, hK, hN⟩ := hv
  have hx := B.exec
  have hb := B.bytes
  have hr := B.returns
  have hlocks := B.notSynchronized
  have hts : ∀ cq ∈ tg, cq.before ([.ref (ad 3), .int (nI (f)), .int (nI (x))] : List Value).toArray s = true := fun cq h => atoms_spec (ws := qX3_missBy) B.pre cq (List.mem_cons_of_mem _ h)
  have hown : s.vm.findClass RX3 = some m.cls := findClass_of_methodNamed B.named
  have hl := lv_entry ([.ref (ad 3), .int (nI (f)), .int (nI (x))]) (n := 3) (Nat.le_of_ble_eq_true rfl)
  rw [lg_entry_eq]
  generalize (lg_sl ([.ref (ad 3), .int (nI (f)), .int (nI (x))]) ++ List.replicate (3 - (lg_sl ([.ref (ad 3), .int (nI (f)), .int (nI (x))])).length) Slot.unset).toArray = ls at hl ⊢
  have hl : lv_has ls 3 [(0, .ref (ad 3)), (1, .int (nI (f))), (2, .int (nI (x)))] := hl
  have hnum := numN_lt hw hf
  refine lv_iload_n hx hb dX3_missBy_0 rfl (lv_at hl 2 rfl) ?_
  refine lv_aload_n hx hb dX3_missBy_1 rfl (lv_at hl 0 rfl) ?_
  refine va_get (D := D) (ci := 3) (v := .ref (ad 5)) (C := RX3) (T := TX3) (N := 9) hx hb hts ni3 hown hK hP 3 (cw_c3 cy ad aw σ J) rfl 1 (by decide) (hts _ flX3_19) (fun _ h => h) rfl dX3_missBy_2 ?_
  refine lv_iload_n hx hb dX3_missBy_5 rfl (lv_at hl 1 rfl) ?_
  refine ln_aald (x := ad (29 + f)) hx hb hK hP 5 2 (cw_c5 cy ad aw σ J) rfl (by omega) (by decide) rfl dX3_missBy_6 ?_
  refine lv_aload_n hx hb dX3_missBy_7 rfl (lv_at hl 0 rfl) ?_
  refine va_get (D := D) (ci := 3) (v := .ref (ad 6)) (C := RX3) (T := TX3) (N := 9) hx hb hts ni3 hown hK hP 3 (cw_c3 cy ad aw σ J) rfl 2 (by decide) (hts _ flX3_26) (fun _ h => h) rfl dX3_missBy_8 ?_
  refine va_get (D := D) (ci := 5) (v := .int (bI (s_la σ))) (C := RX5) (T := TX5) (N := 5) hx hb hts ni5 hown hK hP 6 (cw_c6 cy ad aw σ J) rfl 3 (by decide) (hts _ flX3_129) (fun _ h => h) rfl dX3_missBy_11 ?_
  refine cr_v (n := 1) (As := [.int (bI (s_la σ))]) (rest := [.int (nI (x))]) ⟨hx, hb, hml, hown, hts⟩ (k_X0_numberNow l D cy ad aw σ J f hw (by omega)) gvX3_168 (by decide +kernel) ⟨Nat.le_of_ble_eq_true rfl, Nat.le_of_ble_eq_true rfl⟩ hK hN hP (29 + f) (cw_ferry cy ad aw σ J (t := f) (by omega)) rfl rfl hl.1 rfl (Nat.le_of_ble_eq_true rfl) dX3_missBy_14 ⟨Nat.zero_le _, Nat.zero_le _⟩ ?_
  refine lv_isub hx hb dX3_missBy_17 ?_
  refine va_mabs hx hb (hml.trans hl.1.symm) hown (hts _ mlabsX3_172) (hts _ smabs) (hts _ iniJ9) (hts _ cdabs) (by decide) (Nat.le_of_ble_eq_true rfl) (Nat.zero_le _) (Nat.zero_le _) dX3_missBy_18 ?_
  exact rt_i hx hb hr hlocks (fit_abs (by omega) (by omega)) dX3_missBy_21
set_option maxHeartbeats 4000000 in
set_option maxRecDepth 100000 in
theorem k_X3_isNumber (l : Launch) (D : va_G) (cy : Nat → ClassId) (ad aw : Nat → Nat) (σ : Sg) (J : Js) (f x : Nat) (hw : wfS σ) (hf : f < 3) (h1 : x < 2 ^ 29) : MR l yX3_isNumber qX3_isNumber 2 [.ref (ad 3), .int (nI (f)), .int (nI (x))] D cy (cw cy ad aw σ J) (bI (fit σ f x 0)) := by
  refine Met.ofW (cc := cX3_isNumber) (maxL := 3) (ret := (some .boolean)) (by decide) rfl ?_
  intro p e s m args below meth c s₁ B hml hv
  obtain ⟨rfl, hP, hK, hN⟩ := hv
  have hx := B.exec
  have hb := B.bytes
  have hr := B.returns
  have hlocks := B.notSynchronized
  have hts : ∀ cq ∈ tg, cq.before ([.ref (ad 3), .int (nI (f)), .int (nI (x))] : List Value).toArray s = true := fun cq h => atoms_spec (ws := qX3_isNumber) B.pre cq (List.mem_cons_of_mem _ h)
  have hown : s.vm.findClass RX3 = some m.cls := findClass_of_methodNamed B.named
  have hl := lv_entry ([.ref (ad 3), .int (nI (f)), .int (nI (x))]) (n := 3) (Nat.le_of_ble_eq_true rfl)
  rw [lg_entry_eq]
  generalize (lg_sl ([.ref (ad 3), .int (nI (f)), .int (nI (x))]) ++ List.replicate (3 - (lg_sl ([.ref (ad 3), .int (nI (f)), .int (nI (x))])).length) Slot.unset).toArray = ls at hl ⊢
  have hl : lv_has ls 3 [(0, .ref (ad 3)), (1, .int (nI (f))), (2, .int (nI (x)))] := hl
  have hnum := numN_lt hw hf
  have hdf := adif_lt (a := x) (b := numN σ f) (c := 2 ^ 29) h1 (by omega)
  have hpl : plN σ f ≤ 1 := by unfold plN; split <;> omega
  refine lv_aload_n hx hb dX3_isNumber_0 rfl (lv_at hl 0 rfl) ?_
  refine lv_iload_n hx hb dX3_isNumber_1 rfl (lv_at hl 1 rfl) ?_
  refine lv_iload_n hx hb dX3_isNumber_2 rfl (lv_at hl 2 rfl) ?_
  refine cr_v (n := 2) (As := [.int (nI (f)), .int (nI (x))]) (rest := []) ⟨hx, hb, hml, hown, hts⟩ (k_X3_missBy l D cy ad aw σ J f x hw (by omega) (by omega)) gvX3_177 (by decide +kernel) ⟨Nat.le_of_ble_eq_true rfl, Nat.le_of_ble_eq_true rfl⟩ hK hN hP 3 (cw_c3 cy ad aw σ J) rfl rfl hl.1 rfl (Nat.le_of_ble_eq_true rfl) dX3_isNumber_3 ⟨Nat.zero_le _, Nat.zero_le _⟩ ?_
  refine lv_aload_n hx hb dX3_isNumber_6 rfl (lv_at hl 0 rfl) ?_
  refine va_get (D := D) (ci := 3) (v := .ref (ad 5)) (C := RX3) (T := TX3) (N := 9) hx hb hts ni3 hown hK hP 3 (cw_c3 cy ad aw σ J) rfl 1 (by decide) (hts _ flX3_19) (fun _ h => h) rfl dX3_isNumber_7 ?_
  refine lv_iload_n hx hb dX3_isNumber_10 rfl (lv_at hl 1 rfl) ?_
  refine ln_aald (x := ad (29 + f)) hx hb hK hP 5 2 (cw_c5 cy ad aw σ J) rfl (by omega) (by decide) rfl dX3_isNumber_11 ?_
  refine cr_v (n := 0) (As := []) (rest := [.int (nI (adif x (numN σ f)))]) ⟨hx, hb, hml, hown, hts⟩ (k_X0_play l D cy ad aw σ J f hw (by omega)) gvX3_180 (by decide +kernel) ⟨Nat.le_of_ble_eq_true rfl, Nat.le_of_ble_eq_true rfl⟩ hK hN hP (29 + f) (cw_ferry cy ad aw σ J (t := f) (by omega)) rfl rfl hl.1 rfl (Nat.le_of_ble_eq_true rfl) dX3_isNumber_12 ⟨Nat.zero_le _, Nat.zero_le _⟩ ?_
  refine ln_icmp_gt (tgt := 22) hx hb dX3_isNumber_15 (by decide) (by omega) (by omega) (fun c15 => ?_) (fun c15 => ?_)
  · refine lv_iconst (v := nI 0) hx hb dX3_isNumber_22 (by decide) ?_
    refine ln_eq bI_f.symm ?_
    exact rt_z hx hb hr hlocks (by unfold fit; first | exact (decide_eq_true (by omega)).symm | exact (decide_eq_false (by omega)).symm) dX3_isNumber_23
  · refine lv_iconst (v := nI 1) hx hb dX3_isNumber_18 (by decide) ?_
    refine lv_goto (tgt := 23) hx hb dX3_isNumber_19 (by decide) ?_
    refine ln_eq bI_t.symm ?_
    exact rt_z hx hb hr hlocks (by unfold fit; first | exact (decide_eq_true (by omega)).symm | exact (decide_eq_false (by omega)).symm) dX3_isNumber_23
/-- right wherever the ferry is -/
def isRS (σ : Sg) (f x : Nat) : Bool := decide (bits x ≤ s_fe σ (5 * f + 3)) && hasP σ x && fit σ f (pdA σ x (s_of σ)) 0
theorem isR_eq (σ : Sg) (f x th bo : Nat) : isR σ f x th bo (s_of σ) = (onB (bo.testBit f) x th && isRS σ f x) := by
  unfold isR isRS board
  cases hasP σ x <;> cases onB (bo.testBit f) x th <;> cases decide (bits x ≤ s_fe σ (5 * f + 3)) <;> cases fit σ f (pdA σ x (s_of σ)) 0 <;> rfl
set_option maxHeartbeats 4000000 in
set_option maxRecDepth 100000 in
theorem k_X3_isRightSomewhere (l : Launch) (D : va_G) (cy : Nat → ClassId) (ad aw : Nat → Nat) (σ : Sg) (J : Js) (f x : Nat) (hw : wfS σ) (hj : wfJ σ J) (hf : f < 3) (h1 : x < 2 ^ s_n σ) : MR l yX3_isRightSomewhere qX3_isRightSomewhere 3 [.ref (ad 3), .int (nI (f)), .int (nI (x))] D cy (cw cy ad aw σ J) (bI (isRS σ f x)) := by
  refine Met.ofW (cc := cX3_isRightSomewhere) (maxL := 3) (ret := (some .boolean)) (by decide) rfl ?_
  intro p e s m args below meth c s₁ B hml hv
  obtain ⟨rfl, hP, hK, hN⟩ := hv
  have hx := B.exec
  have hb := B.bytes
  have hr := B.returns
  have hlocks := B.notSynchronized
  have hts : ∀ cq ∈ tg, cq.before ([.ref (ad 3), .int (nI (f)), .int (nI (x))] : List Value).toArray s = true := fun cq h => atoms_spec (ws := qX3_isRightSomewhere) B.pre cq (List.mem_cons_of_mem _ h)
  have hown : s.vm.findClass RX3 = some m.cls := findClass_of_methodNamed B.named
  have hl := lv_entry ([.ref (ad 3), .int (nI (f)), .int (nI (x))]) (n := 3) (Nat.le_of_ble_eq_true rfl)
  rw [lg_entry_eq]
  generalize (lg_sl ([.ref (ad 3), .int (nI (f)), .int (nI (x))]) ++ List.replicate (3 - (lg_sl ([.ref (ad 3), .int (nI (f)), .int (nI (x))])).length) Slot.unset).toArray = ls at hl ⊢
  have hl : lv_has ls 3 [(0, .ref (ad 3)), (1, .int (nI (f))), (2, .int (nI (x)))] := hl
  have hw1 := hw.1
  have hw2 := hw.2.1
  have hp8 := pw_8 hw1
  have hpp := pw_pos (s_n σ)
  have hov := ov_lt hw
  have hmo := mo_lt hw
  have hof := of_lt hw
  have hpd := pdA_le hw x (s_of σ)
  refine lv_aload_n hx hb dX3_isRightSomewhere_0 rfl (lv_at hl 0 rfl) ?_
  refine lv_iload_n hx hb dX3_isRightSomewhere_1 rfl (lv_at hl 1 rfl) ?_
  refine lv_iload_n hx hb dX3_isRightSomewhere_2 rfl (lv_at hl 2 rfl) ?_
  refine cr_v (n := 2) (As := [.int (nI (f)), .int (nI (x))]) (rest := []) ⟨hx, hb, hml, hown, hts⟩ (k_X3_mayGoAboard l D cy ad aw σ J f x hw hj (by omega) (by omega)) gvX3_184 (by decide +kernel) ⟨Nat.le_of_ble_eq_true rfl, Nat.le_of_ble_eq_true rfl⟩ hK hN hP 3 (cw_c3 cy ad aw σ J) rfl rfl hl.1 rfl (Nat.le_of_ble_eq_true rfl) dX3_isRightSomewhere_3 ⟨Nat.zero_le _, Nat.zero_le _⟩ ?_
  refine lb_if_eq (tgt := 26) hx hb dX3_isRightSomewhere_6 (by decide) (fun c6 => ?_) (fun c6 => ?_)
  · refine lv_iconst (v := nI 0) hx hb dX3_isRightSomewhere_26 (by decide) ?_
    refine ln_eq bI_f.symm ?_
    exact rt_z hx hb hr hlocks (by unfold isRS; first | (rw [c6]; rfl; done) | (rw [c6, c19]; rfl)) dX3_isRightSomewhere_27
  · refine lv_aload_n hx hb dX3_isRightSomewhere_9 rfl (lv_at hl 0 rfl) ?_
    refine lv_iload_n hx hb dX3_isRightSomewhere_10 rfl (lv_at hl 1 rfl) ?_
    refine lv_aload_n hx hb dX3_isRightSomewhere_11 rfl (lv_at hl 0 rfl) ?_
    refine lv_iload_n hx hb dX3_isRightSomewhere_12 rfl (lv_at hl 2 rfl) ?_
    refine cr_v (n := 1) (As := [.int (nI (x))]) (rest := [.int (nI (f)), .ref (ad 3)]) ⟨hx, hb, hml, hown, hts⟩ (k_X3_poundsOf l D cy ad aw σ J x hw hj (by omega)) gvX3_188 (by decide +kernel) ⟨Nat.le_of_ble_eq_true rfl, Nat.le_of_ble_eq_true rfl⟩ hK hN hP 3 (cw_c3 cy ad aw σ J) rfl rfl hl.1 rfl (Nat.le_of_ble_eq_true rfl) dX3_isRightSomewhere_13 ⟨Nat.zero_le _, Nat.zero_le _⟩ ?_
    refine cr_v (n := 2) (As := [.int (nI (f)), .int (nI (pdA σ x (s_of σ)))]) (rest := []) ⟨hx, hb, hml, hown, hts⟩ (k_X3_isNumber l D cy ad aw σ J f (pdA σ x (s_of σ)) hw (by omega) (by omega)) gvX3_191 (by decide +kernel) ⟨Nat.le_of_ble_eq_true rfl, Nat.le_of_ble_eq_true rfl⟩ hK hN hP 3 (cw_c3 cy ad aw σ J) rfl rfl hl.1 rfl (Nat.le_of_ble_eq_true rfl) dX3_isRightSomewhere_16 ⟨Nat.zero_le _, Nat.zero_le _⟩ ?_
    refine lb_if_eq (tgt := 26) hx hb dX3_isRightSomewhere_19 (by decide) (fun c19 => ?_) (fun c19 => ?_)
    · refine lv_iconst (v := nI 0) hx hb dX3_isRightSomewhere_26 (by decide) ?_
      refine ln_eq bI_f.symm ?_
      exact rt_z hx hb hr hlocks (by unfold isRS; first | (rw [c6]; rfl; done) | (rw [c6, c19]; rfl)) dX3_isRightSomewhere_27
    · refine lv_iconst (v := nI 1) hx hb dX3_isRightSomewhere_22 (by decide) ?_
      refine lv_goto (tgt := 27) hx hb dX3_isRightSomewhere_23 (by decide) ?_
      refine ln_eq bI_t.symm ?_
      exact rt_z hx hb hr hlocks (by unfold isRS; first | (rw [c6]; rfl; done) | (rw [c6, c19]; rfl)) dX3_isRightSomewhere_27
set_option maxHeartbeats 4000000 in
set_option maxRecDepth 100000 in
theorem k_X3_isRight (l : Launch) (D : va_G) (cy : Nat → ClassId) (ad aw : Nat → Nat) (σ : Sg) (J : Js) (f x th bo : Nat) (hw : wfS σ) (hj : wfJ σ J) (hf : f < 3) (h1 : x < 2 ^ s_n σ) (ht : th < 256) (hb8 : bo < 256) : MR l yX3_isRight qX3_isRight 4 [.ref (ad 3), .int (nI (f)), .int (nI (x)), .int (nI (th + 256 * bo))] D cy (cw cy ad aw σ J) (bI (isR σ f x th bo (s_of σ))) := by
  refine Met.ofW (cc := cX3_isRight) (maxL := 4) (ret := (some .boolean)) (by decide) rfl ?_
  intro p e s m args below meth c s₁ B hml hv
  obtain ⟨rfl, hP, hK, hN⟩ := hv
  have hx := B.exec
  have hb := B.bytes
  have hr := B.returns
  have hlocks := B.notSynchronized
  have hts : ∀ cq ∈ tg, cq.before ([.ref (ad 3), .int (nI (f)), .int (nI (x)), .int (nI (th + 256 * bo))] : List Value).toArray s = true := fun cq h => atoms_spec (ws := qX3_isRight) B.pre cq (List.mem_cons_of_mem _ h)
  have hown : s.vm.findClass RX3 = some m.cls := findClass_of_methodNamed B.named
  have hl := lv_entry ([.ref (ad 3), .int (nI (f)), .int (nI (x)), .int (nI (th + 256 * bo))]) (n := 4) (Nat.le_of_ble_eq_true rfl)
  rw [lg_entry_eq]
  generalize (lg_sl ([.ref (ad 3), .int (nI (f)), .int (nI (x)), .int (nI (th + 256 * bo))]) ++ List.replicate (4 - (lg_sl ([.ref (ad 3), .int (nI (f)), .int (nI (x)), .int (nI (th + 256 * bo))])).length) Slot.unset).toArray = ls at hl ⊢
  have hl : lv_has ls 4 [(0, .ref (ad 3)), (1, .int (nI (f))), (2, .int (nI (x))), (3, .int (nI (th + 256 * bo)))] := hl
  have hw1 := hw.1
  have hw2 := hw.2.1
  have hp8 := pw_8 hw1
  have hpp := pw_pos (s_n σ)
  have hov := ov_lt hw
  have hmo := mo_lt hw
  have hof := of_lt hw
  refine lv_aload_n hx hb dX3_isRight_0 rfl (lv_at hl 0 rfl) ?_
  refine lv_iload_n hx hb dX3_isRight_1 rfl (lv_at hl 1 rfl) ?_
  refine lv_iload_n hx hb dX3_isRight_2 rfl (lv_at hl 2 rfl) ?_
  refine lv_iload_n hx hb dX3_isRight_3 rfl (lv_at hl 3 rfl) ?_
  refine cr_v (n := 3) (As := [.int (nI (f)), .int (nI (x)), .int (nI (th + 256 * bo))]) (rest := []) ⟨hx, hb, hml, hown, hts⟩ (k_X3_isOnBankOf l D cy ad aw σ J f x th bo (by omega) (by omega) (by omega) (by omega)) gvX3_194 (by decide +kernel) ⟨Nat.le_of_ble_eq_true rfl, Nat.le_of_ble_eq_true rfl⟩ hK hN hP 3 (cw_c3 cy ad aw σ J) rfl rfl hl.1 rfl (Nat.le_of_ble_eq_true rfl) dX3_isRight_4 ⟨Nat.zero_le _, Nat.zero_le _⟩ ?_
  refine lb_if_eq (tgt := 23) hx hb dX3_isRight_7 (by decide) (fun c7 => ?_) (fun c7 => ?_)
  · refine lv_iconst (v := nI 0) hx hb dX3_isRight_23 (by decide) ?_
    refine ln_eq bI_f.symm ?_
    exact rt_z hx hb hr hlocks (by rw [isR_eq]; first | (rw [c7]; rfl; done) | (rw [c7, c16]; rfl)) dX3_isRight_24
  · refine lv_aload_n hx hb dX3_isRight_10 rfl (lv_at hl 0 rfl) ?_
    refine lv_iload_n hx hb dX3_isRight_11 rfl (lv_at hl 1 rfl) ?_
    refine lv_iload_n hx hb dX3_isRight_12 rfl (lv_at hl 2 rfl) ?_
    refine cr_v (n := 2) (As := [.int (nI (f)), .int (nI (x))]) (rest := []) ⟨hx, hb, hml, hown, hts⟩ (k_X3_isRightSomewhere l D cy ad aw σ J f x hw hj (by omega) (by omega)) gvX3_197 (by decide +kernel) ⟨Nat.le_of_ble_eq_true rfl, Nat.le_of_ble_eq_true rfl⟩ hK hN hP 3 (cw_c3 cy ad aw σ J) rfl rfl hl.1 rfl (Nat.le_of_ble_eq_true rfl) dX3_isRight_13 ⟨Nat.zero_le _, Nat.zero_le _⟩ ?_
    refine lb_if_eq (tgt := 23) hx hb dX3_isRight_16 (by decide) (fun c16 => ?_) (fun c16 => ?_)
    · refine lv_iconst (v := nI 0) hx hb dX3_isRight_23 (by decide) ?_
      refine ln_eq bI_f.symm ?_
      exact rt_z hx hb hr hlocks (by rw [isR_eq]; first | (rw [c7]; rfl; done) | (rw [c7, c16]; rfl)) dX3_isRight_24
    · refine lv_iconst (v := nI 1) hx hb dX3_isRight_19 (by decide) ?_
      refine lv_goto (tgt := 24) hx hb dX3_isRight_20 (by decide) ?_
      refine ln_eq bI_t.symm ?_
      exact rt_z hx hb hr hlocks (by rw [isR_eq]; first | (rw [c7]; rfl; done) | (rw [c7, c16]; rfl)) dX3_isRight_24
set_option maxHeartbeats 4000000 in
set_option maxRecDepth 100000 in
theorem k_X3_isSure (l : Launch) (D : va_G) (cy : Nat → ClassId) (ad aw : Nat → Nat) (σ : Sg) (J : Js) (f x : Nat) (hw : wfS σ) (hj : wfJ σ J) (hf : f < 3) (h1 : x < 2 ^ s_n σ) : MR l yX3_isSure qX3_isSure 2 [.ref (ad 3), .int (nI (f)), .int (nI (x))] D cy (cw cy ad aw σ J) (bI (fit σ f (pdA σ x (s_of σ)) (unA σ x))) := by
  refine Met.ofW (cc := cX3_isSure) (maxL := 4) (ret := (some .boolean)) (by decide) rfl ?_
  intro p e s m args below meth c s₁ B hml hv
  obtain ⟨rfl, hP, hK, hN⟩ := hv
  have hx := B.exec
  have hb := B.bytes
  have hr := B.returns
  have hlocks := B.notSynchronized
  have hts : ∀ cq ∈ tg, cq.before ([.ref (ad 3), .int (nI (f)), .int (nI (x))] : List Value).toArray s = true := fun cq h => atoms_spec (ws := qX3_isSure) B.pre cq (List.mem_cons_of_mem _ h)
  have hown : s.vm.findClass RX3 = some m.cls := findClass_of_methodNamed B.named
  have hl := lv_entry ([.ref (ad 3), .int (nI (f)), .int (nI (x))]) (n := 4) (Nat.le_of_ble_eq_true rfl)
  rw [lg_entry_eq]
  generalize (lg_sl ([.ref (ad 3), .int (nI (f)), .int (nI (x))]) ++ List.replicate (4 - (lg_sl ([.ref (ad 3), .int (nI (f)), .int (nI (x))])).length) Slot.unset).toArray = ls at hl ⊢
  have hl : lv_has ls 4 [(0, .ref (ad 3)), (1, .int (nI (f))), (2, .int (nI (x)))] := hl
  have hw1 := hw.1
  have hw2 := hw.2.1
  have hp8 := pw_8 hw1
  have hpp := pw_pos (s_n σ)
  have hov := ov_lt hw
  have hmo := mo_lt hw
  have hof := of_lt hw
  have hpd := pdA_le hw x (s_of σ)
  have hnum := numN_lt hw hf
  have hdf := adif_lt (a := pdA σ x (s_of σ)) (b := numN σ f) (c := 2 ^ 29) (by omega) (by omega)
  have hpl : plN σ f ≤ 1 := by unfold plN; split <;> omega
  have hua := unA_le hw x
  have hus := us_lt hw
  refine lv_iload_n hx hb dX3_isSure_0 rfl (lv_at hl 2 rfl) ?_
  refine lv_aload_n hx hb dX3_isSure_1 rfl (lv_at hl 0 rfl) ?_
  refine va_get (D := D) (ci := 3) (v := .int (nI (j_us J))) (C := RX3) (T := TX3) (N := 9) hx hb hts ni3 hown hK hP 3 (cw_c3 cy ad aw σ J) rfl 7 (by decide) (hts _ flX3_43) (fun _ h => h) rfl dX3_isSure_2 ?_
  refine ln_nat (show j_us J = usN σ from hj.2.2.1) ?_
  refine ln_iand hx hb dX3_isSure_5 ?_
  have hand : x &&& usN σ < 256 := and_lt (by omega)
  refine cr_so (n := 1) (As := [.int (nI (x &&& (usN σ)))]) (rest := []) ⟨hx, hb, hml, hown, hts⟩ (k_J6_bitCount_0f7a4 l (x &&& (usN σ)) (by omega)) (hts _ mlX3_159) (hts _ smJ6_bitCount_0f7a4) (hts _ iniJ6) (gc_of cdJ6_bitCount_0f7a4) (by decide +kernel) ⟨Nat.le_of_ble_eq_true rfl, Nat.le_of_ble_eq_true rfl⟩ rfl hl.1 rfl (Nat.le_of_ble_eq_true rfl) dX3_isSure_6 ⟨Nat.zero_le _, Nat.zero_le _⟩ ?_
  refine ln_nat (show bits (x &&& (usN σ)) = unA σ x from un_bits hw h1) ?_
  refine lv_istore_n (lv' := [(3, .int (nI (unA σ x))), (0, .ref (ad 3)), (1, .int (nI (f))), (2, .int (nI (x)))]) hx hb dX3_isSure_9 rfl hl (by decide) rfl (fun ls hl => ?_)
  refine lv_aload_n hx hb dX3_isSure_10 rfl (lv_at hl 1 rfl) ?_
  refine lv_iload_n hx hb dX3_isSure_11 rfl (lv_at hl 2 rfl) ?_
  refine lv_aload_n hx hb dX3_isSure_12 rfl (lv_at hl 1 rfl) ?_
  refine lv_iload_n hx hb dX3_isSure_13 rfl (lv_at hl 3 rfl) ?_
  refine cr_v (n := 1) (As := [.int (nI (x))]) (rest := [.int (nI (f)), .ref (ad 3)]) ⟨hx, hb, hml, hown, hts⟩ (k_X3_poundsOf l D cy ad aw σ J x hw hj (by omega)) gvX3_188 (by decide +kernel) ⟨Nat.le_of_ble_eq_true rfl, Nat.le_of_ble_eq_true rfl⟩ hK hN hP 3 (cw_c3 cy ad aw σ J) rfl rfl hl.1 rfl (Nat.le_of_ble_eq_true rfl) dX3_isSure_14 ⟨Nat.zero_le _, Nat.zero_le _⟩ ?_
  refine cr_v (n := 2) (As := [.int (nI (f)), .int (nI (pdA σ x (s_of σ)))]) (rest := []) ⟨hx, hb, hml, hown, hts⟩ (k_X3_missBy l D cy ad aw σ J f (pdA σ x (s_of σ)) hw (by omega) (by omega)) gvX3_177 (by decide +kernel) ⟨Nat.le_of_ble_eq_true rfl, Nat.le_of_ble_eq_true rfl⟩ hK hN hP 3 (cw_c3 cy ad aw σ J) rfl rfl hl.1 rfl (Nat.le_of_ble_eq_true rfl) dX3_isSure_17 ⟨Nat.zero_le _, Nat.zero_le _⟩ ?_
  refine lv_iload_n hx hb dX3_isSure_20 rfl (lv_at hl 0 rfl) ?_
  refine ln_iadd hx hb dX3_isSure_21 ?_
  refine lv_aload_n hx hb dX3_isSure_22 rfl (lv_at hl 1 rfl) ?_
  refine va_get (D := D) (ci := 3) (v := .ref (ad 5)) (C := RX3) (T := TX3) (N := 9) hx hb hts ni3 hown hK hP 3 (cw_c3 cy ad aw σ J) rfl 1 (by decide) (hts _ flX3_19) (fun _ h => h) rfl dX3_isSure_23 ?_
  refine lv_iload_n hx hb dX3_isSure_26 rfl (lv_at hl 2 rfl) ?_
  refine ln_aald (x := ad (29 + f)) hx hb hK hP 5 2 (cw_c5 cy ad aw σ J) rfl (by omega) (by decide) rfl dX3_isSure_27 ?_
  refine cr_v (n := 0) (As := []) (rest := [.int (nI ((adif (pdA σ x (s_of σ)) (numN σ f)) + (unA σ x)))]) ⟨hx, hb, hml, hown, hts⟩ (k_X0_play l D cy ad aw σ J f hw (by omega)) gvX3_180 (by decide +kernel) ⟨Nat.le_of_ble_eq_true rfl, Nat.le_of_ble_eq_true rfl⟩ hK hN hP (29 + f) (cw_ferry cy ad aw σ J (t := f) (by omega)) rfl rfl hl.1 rfl (Nat.le_of_ble_eq_true rfl) dX3_isSure_28 ⟨Nat.zero_le _, Nat.zero_le _⟩ ?_
  refine ln_icmp_gt (tgt := 38) hx hb dX3_isSure_31 (by decide) (by omega) (by omega) (fun c31 => ?_) (fun c31 => ?_)
  · refine lv_iconst (v := nI 0) hx hb dX3_isSure_38 (by decide) ?_
    refine ln_eq bI_f.symm ?_
    exact rt_z hx hb hr hlocks (by unfold fit; first | exact (decide_eq_true (by omega)).symm | exact (decide_eq_false (by omega)).symm) dX3_isSure_39
  · refine lv_iconst (v := nI 1) hx hb dX3_isSure_34 (by decide) ?_
    refine lv_goto (tgt := 39) hx hb dX3_isSure_35 (by decide) ?_
    refine ln_eq bI_t.symm ?_
    exact rt_z hx hb hr hlocks (by unfold fit; first | exact (decide_eq_true (by omega)).symm | exact (decide_eq_false (by omega)).symm) dX3_isSure_39
