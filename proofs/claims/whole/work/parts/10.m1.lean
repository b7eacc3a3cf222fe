theorem in_t {v a b : Int32} (h1 : ¬ v < a) (h2 : ¬ b < v) : true = decide (a ≤ v ∧ v ≤ b) := by
  rw [Int32.lt_iff_toInt_lt] at h1 h2
  symm
  rw [decide_eq_true_iff, Int32.le_iff_toInt_le, Int32.le_iff_toInt_le]
  omega
theorem in_f1 {v a b : Int32} (h1 : v < a) : false = decide (a ≤ v ∧ v ≤ b) := by
  rw [Int32.lt_iff_toInt_lt] at h1
  symm
  rw [decide_eq_false_iff_not, Int32.le_iff_toInt_le, Int32.le_iff_toInt_le]
  omega
theorem in_f2 {v a b : Int32} (h1 : b < v) : false = decide (a ≤ v ∧ v ≤ b) := by
  rw [Int32.lt_iff_toInt_lt] at h1
  symm
  rw [decide_eq_false_iff_not, Int32.le_iff_toInt_le, Int32.le_iff_toInt_le]
  omega
theorem and1_lt (x : Nat) : x &&& 1 < 2 ^ 31 := Nat.lt_of_le_of_lt Nat.and_le_right (by decide)
set_option maxHeartbeats 4000000 in
set_option maxRecDepth 100000 in
theorem k_X11_in (l : Launch)  (v a b : Int32)  : MS l yX11_in qX11_in 0 [.int (v), .int (a), .int (b)] (bI (decide (a ≤ v ∧ v ≤ b))) := by
  refine Met.ofW (cc := cX11_in) (maxL := 3) (ret := (some .boolean)) (by decide) rfl ?_
  intro p e s m args below meth c s₁ B hml hv
  obtain ⟨rfl, -⟩ := hv
  have hx := B.exec
  have hb := B.bytes
  have hr := B.returns
  have hlocks := B.notSynchronized
  have hts : ∀ cq ∈ tg, cq.before ([.int (v), .int (a), .int (b)] : List Value).toArray s = true := fun cq h => atoms_spec (ws := qX11_in) B.pre cq (List.mem_cons_of_mem _ h)
  have hown : s.vm.findClass RX11 = some m.cls := findClass_of_methodNamed B.named
  have hl := lv_entry ([.int (v), .int (a), .int (b)]) (n := 3) (Nat.le_of_ble_eq_true rfl)
  rw [lg_entry_eq]
  generalize (lg_sl ([.int (v), .int (a), .int (b)]) ++ List.replicate (3 - (lg_sl ([.int (v), .int (a), .int (b)])).length) Slot.unset).toArray = ls at hl ⊢
  have hl : lv_has ls 3 [(0, .int (v)), (1, .int (a)), (2, .int (b))] := hl
  refine lv_iload_n hx hb dX11_in_0 rfl (lv_at hl 0 rfl) ?_
  refine lv_iload_n hx hb dX11_in_1 rfl (lv_at hl 1 rfl) ?_
  refine lv_icmp_lt (tgt := 14) hx hb dX11_in_2 (by decide) (fun c2 => ?_) (fun c2 => ?_)
  · refine lv_iconst (v := nI 0) hx hb dX11_in_14 (by decide) ?_
    refine ln_eq bI_f.symm ?_
    exact rt_z hx hb hr hlocks (by first | exact in_t c2 c7 | exact in_f1 c2 | exact in_f2 c7) dX11_in_15
  · refine lv_iload_n hx hb dX11_in_5 rfl (lv_at hl 0 rfl) ?_
    refine lv_iload_n hx hb dX11_in_6 rfl (lv_at hl 2 rfl) ?_
    refine lv_icmp_gt (tgt := 14) hx hb dX11_in_7 (by decide) (fun c7 => ?_) (fun c7 => ?_)
    · refine lv_iconst (v := nI 0) hx hb dX11_in_14 (by decide) ?_
      refine ln_eq bI_f.symm ?_
      exact rt_z hx hb hr hlocks (by first | exact in_t c2 c7 | exact in_f1 c2 | exact in_f2 c7) dX11_in_15
    · refine lv_iconst (v := nI 1) hx hb dX11_in_10 (by decide) ?_
      refine lv_goto (tgt := 15) hx hb dX11_in_11 (by decide) ?_
      refine ln_eq bI_t.symm ?_
      exact rt_z hx hb hr hlocks (by first | exact in_t c2 c7 | exact in_f1 c2 | exact in_f2 c7) dX11_in_15
set_option maxHeartbeats 4000000 in
set_option maxRecDepth 100000 in
theorem k_X11_has (l : Launch)  (x k : Nat) (h1 : x < 2 ^ 31) (h2 : k < 32) : MS l yX11_has qX11_has 0 [.int (nI (x)), .int (nI (k))] (bI (x.testBit k)) := by
  refine Met.ofW (cc := cX11_has) (maxL := 2) (ret := (some .boolean)) (by decide) rfl ?_
  intro p e s m args below meth c s₁ B hml hv
  obtain ⟨rfl, -⟩ := hv
  have hx := B.exec
  have hb := B.bytes
  have hr := B.returns
  have hlocks := B.notSynchronized
  have hts : ∀ cq ∈ tg, cq.before ([.int (nI (x)), .int (nI (k))] : List Value).toArray s = true := fun cq h => atoms_spec (ws := qX11_has) B.pre cq (List.mem_cons_of_mem _ h)
  have hown : s.vm.findClass RX11 = some m.cls := findClass_of_methodNamed B.named
  have hl := lv_entry ([.int (nI (x)), .int (nI (k))]) (n := 2) (Nat.le_of_ble_eq_true rfl)
  rw [lg_entry_eq]
  generalize (lg_sl ([.int (nI (x)), .int (nI (k))]) ++ List.replicate (2 - (lg_sl ([.int (nI (x)), .int (nI (k))])).length) Slot.unset).toArray = ls at hl ⊢
  have hl : lv_has ls 2 [(0, .int (nI (x))), (1, .int (nI (k)))] := hl
  refine lv_iload_n hx hb dX11_has_0 rfl (lv_at hl 0 rfl) ?_
  refine lv_iload_n hx hb dX11_has_1 rfl (lv_at hl 1 rfl) ?_
  refine ln_ishr hx hb dX11_has_2 (by omega) (by omega) ?_
  refine lv_iconst (v := nI 1) hx hb dX11_has_3 (by decide) ?_
  refine ln_iand hx hb dX11_has_4 ?_
  refine lv_iconst (v := nI 1) hx hb dX11_has_5 (by decide) ?_
  refine ln_icmp_ne (tgt := 13) hx hb dX11_has_6 (by decide) (and1_lt _) (by decide) (fun c6 => ?_) (fun c6 => ?_)
  · refine lv_iconst (v := nI 0) hx hb dX11_has_13 (by decide) ?_
    refine ln_eq bI_f.symm ?_
    exact rt_z hx hb hr hlocks (by first | exact ((bit_1 x k).mp c6).symm | exact (Bool.eq_false_iff.mpr (fun q => c6 ((bit_1 x k).mpr q))).symm) dX11_has_14
  · refine lv_iconst (v := nI 1) hx hb dX11_has_9 (by decide) ?_
    refine lv_goto (tgt := 14) hx hb dX11_has_10 (by decide) ?_
    refine ln_eq bI_t.symm ?_
    exact rt_z hx hb hr hlocks (by first | exact ((bit_1 x k).mp c6).symm | exact (Bool.eq_false_iff.mpr (fun q => c6 ((bit_1 x k).mpr q))).symm) dX11_has_14
set_option maxHeartbeats 4000000 in
set_option maxRecDepth 100000 in
theorem k_X11_isThing (l : Launch) (D : va_G) (cy : Nat → ClassId) (ad : Nat → Nat) (σ : Sg) (T : Ms) (x : Int32) (hw : wfS σ) : MR l yX11_isThing qX11_isThing 1 [.ref (ad 0), .int (x)] D cy (mw cy ad σ T) (bI (isIx (s_n σ) x)) := by
  refine Met.ofW (cc := cX11_isThing) (maxL := 2) (ret := (some .boolean)) (by decide) rfl ?_
  intro p e s m args below meth c s₁ B hml hv
  obtain ⟨rfl, hP, hK, hN⟩ := hv
  have hx := B.exec
  have hb := B.bytes
  have hr := B.returns
  have hlocks := B.notSynchronized
  have hts : ∀ cq ∈ tg, cq.before ([.ref (ad 0), .int (x)] : List Value).toArray s = true := fun cq h => atoms_spec (ws := qX11_isThing) B.pre cq (List.mem_cons_of_mem _ h)
  have hown : s.vm.findClass RX11 = some m.cls := findClass_of_methodNamed B.named
  have hl := lv_entry ([.ref (ad 0), .int (x)]) (n := 2) (Nat.le_of_ble_eq_true rfl)
  rw [lg_entry_eq]
  generalize (lg_sl ([.ref (ad 0), .int (x)]) ++ List.replicate (2 - (lg_sl ([.ref (ad 0), .int (x)])).length) Slot.unset).toArray = ls at hl ⊢
  have hl : lv_has ls 2 [(0, .ref (ad 0)), (1, .int (x))] := hl
  have hw1 := hw.1
  have hw2 := hw.2.1
  refine lv_iload_n hx hb dX11_isThing_0 rfl (lv_at hl 1 rfl) ?_
  refine lv_iconst (v := nI 0) hx hb dX11_isThing_1 (by decide) ?_
  refine lv_aload_n hx hb dX11_isThing_2 rfl (lv_at hl 0 rfl) ?_
  refine va_get (D := D) (ci := 10) (v := .int (nI (s_n σ))) (C := RX11) (T := TX11) (N := 31) hx hb hts ni11 hown hK hP 0 (mw_c0 cy ad σ T) rfl 0 (by decide) (hts _ flX11_47) (fun _ h => h) rfl dX11_isThing_3 ?_
  refine lv_iconst (v := nI 1) hx hb dX11_isThing_6 (by decide) ?_
  refine lv_isub hx hb dX11_isThing_7 ?_
  refine cr_s (n := 3) (As := [.int (x), .int (nI (0)), .int ((nI (s_n σ)) - (nI (1)))]) (rest := []) ⟨hx, hb, hml, hown, hts⟩ (k_X11_in l (x) (nI (0)) ((nI (s_n σ)) - (nI (1)))) gsX11_51 (by decide +kernel) ⟨Nat.le_of_ble_eq_true rfl, Nat.le_of_ble_eq_true rfl⟩ rfl hl.1 rfl (Nat.le_of_ble_eq_true rfl) dX11_isThing_8 ⟨Nat.zero_le _, Nat.zero_le _⟩ ?_
  exact rt_z hx hb hr hlocks (ix_le (by omega) x) dX11_isThing_11
set_option maxHeartbeats 4000000 in
set_option maxRecDepth 100000 in
theorem k_X11_isFerry (l : Launch) (D : va_G) (cy : Nat → ClassId) (ad : Nat → Nat) (σ : Sg) (T : Ms) (x : Int32) (hw : wfS σ) : MR l yX11_isFerry qX11_isFerry 1 [.ref (ad 0), .int (x)] D cy (mw cy ad σ T) (bI (isIx (s_m σ) x)) := by
  refine Met.ofW (cc := cX11_isFerry) (maxL := 2) (ret := (some .boolean)) (by decide) rfl ?_
  intro p e s m args below meth c s₁ B hml hv
  obtain ⟨rfl, hP, hK, hN⟩ := hv
  have hx := B.exec
  have hb := B.bytes
  have hr := B.returns
  have hlocks := B.notSynchronized
  have hts : ∀ cq ∈ tg, cq.before ([.ref (ad 0), .int (x)] : List Value).toArray s = true := fun cq h => atoms_spec (ws := qX11_isFerry) B.pre cq (List.mem_cons_of_mem _ h)
  have hown : s.vm.findClass RX11 = some m.cls := findClass_of_methodNamed B.named
  have hl := lv_entry ([.ref (ad 0), .int (x)]) (n := 2) (Nat.le_of_ble_eq_true rfl)
  rw [lg_entry_eq]
  generalize (lg_sl ([.ref (ad 0), .int (x)]) ++ List.replicate (2 - (lg_sl ([.ref (ad 0), .int (x)])).length) Slot.unset).toArray = ls at hl ⊢
  have hl : lv_has ls 2 [(0, .ref (ad 0)), (1, .int (x))] := hl
  have hw1 := hw.1
  have hw2 := hw.2.1
  refine lv_iload_n hx hb dX11_isFerry_0 rfl (lv_at hl 1 rfl) ?_
  refine lv_iconst (v := nI 0) hx hb dX11_isFerry_1 (by decide) ?_
  refine lv_aload_n hx hb dX11_isFerry_2 rfl (lv_at hl 0 rfl) ?_
  refine va_get (D := D) (ci := 10) (v := .int (nI (s_m σ))) (C := RX11) (T := TX11) (N := 31) hx hb hts ni11 hown hK hP 0 (mw_c0 cy ad σ T) rfl 2 (by decide) (hts _ flX11_55) (fun _ h => h) rfl dX11_isFerry_3 ?_
  refine lv_iconst (v := nI 1) hx hb dX11_isFerry_6 (by decide) ?_
  refine lv_isub hx hb dX11_isFerry_7 ?_
  refine cr_s (n := 3) (As := [.int (x), .int (nI (0)), .int ((nI (s_m σ)) - (nI (1)))]) (rest := []) ⟨hx, hb, hml, hown, hts⟩ (k_X11_in l (x) (nI (0)) ((nI (s_m σ)) - (nI (1)))) gsX11_51 (by decide +kernel) ⟨Nat.le_of_ble_eq_true rfl, Nat.le_of_ble_eq_true rfl⟩ rfl hl.1 rfl (Nat.le_of_ble_eq_true rfl) dX11_isFerry_8 ⟨Nat.zero_le _, Nat.zero_le _⟩ ?_
  exact rt_z hx hb hr hlocks (ix_le (by omega) x) dX11_isFerry_11
set_option maxHeartbeats 4000000 in
set_option maxRecDepth 100000 in
theorem k_X11_isSet (l : Launch) (D : va_G) (cy : Nat → ClassId) (ad : Nat → Nat) (σ : Sg) (T : Ms) (x : Int32) (hw : wfS σ) : MR l yX11_isSet qX11_isSet 1 [.ref (ad 0), .int (x)] D cy (mw cy ad σ T) (bI (isIx (2 ^ s_n σ) x)) := by
  refine Met.ofW (cc := cX11_isSet) (maxL := 2) (ret := (some .boolean)) (by decide) rfl ?_
  intro p e s m args below meth c s₁ B hml hv
  obtain ⟨rfl, hP, hK, hN⟩ := hv
  have hx := B.exec
  have hb := B.bytes
  have hr := B.returns
  have hlocks := B.notSynchronized
  have hts : ∀ cq ∈ tg, cq.before ([.ref (ad 0), .int (x)] : List Value).toArray s = true := fun cq h => atoms_spec (ws := qX11_isSet) B.pre cq (List.mem_cons_of_mem _ h)
  have hown : s.vm.findClass RX11 = some m.cls := findClass_of_methodNamed B.named
  have hl := lv_entry ([.ref (ad 0), .int (x)]) (n := 2) (Nat.le_of_ble_eq_true rfl)
  rw [lg_entry_eq]
  generalize (lg_sl ([.ref (ad 0), .int (x)]) ++ List.replicate (2 - (lg_sl ([.ref (ad 0), .int (x)])).length) Slot.unset).toArray = ls at hl ⊢
  have hl : lv_has ls 2 [(0, .ref (ad 0)), (1, .int (x))] := hl
  have hw1 := hw.1
  have hp := pw_8 hw1
  refine lv_iload_n hx hb dX11_isSet_0 rfl (lv_at hl 1 rfl) ?_
  refine lv_iconst (v := nI 0) hx hb dX11_isSet_1 (by decide) ?_
  refine lv_iconst (v := nI 1) hx hb dX11_isSet_2 (by decide) ?_
  refine lv_aload_n hx hb dX11_isSet_3 rfl (lv_at hl 0 rfl) ?_
  refine va_get (D := D) (ci := 10) (v := .int (nI (s_n σ))) (C := RX11) (T := TX11) (N := 31) hx hb hts ni11 hown hK hP 0 (mw_c0 cy ad σ T) rfl 0 (by decide) (hts _ flX11_47) (fun _ h => h) rfl dX11_isSet_4 ?_
  refine ln_ishl hx hb dX11_isSet_7 (by omega) (by omega) ?_
  refine lv_iconst (v := nI 1) hx hb dX11_isSet_8 (by decide) ?_
  refine lv_isub hx hb dX11_isSet_9 ?_
  refine cr_s (n := 3) (As := [.int (x), .int (nI (0)), .int ((nI (1 * 2 ^ (s_n σ))) - (nI (1)))]) (rest := []) ⟨hx, hb, hml, hown, hts⟩ (k_X11_in l (x) (nI (0)) ((nI (1 * 2 ^ (s_n σ))) - (nI (1)))) gsX11_51 (by decide +kernel) ⟨Nat.le_of_ble_eq_true rfl, Nat.le_of_ble_eq_true rfl⟩ rfl hl.1 rfl (Nat.le_of_ble_eq_true rfl) dX11_isSet_10 ⟨Nat.zero_le _, Nat.zero_le _⟩ ?_
  exact rt_z hx hb hr hlocks (by rw [Nat.one_mul]; exact ix_le (by omega) x) dX11_isSet_13
set_option maxHeartbeats 4000000 in
set_option maxRecDepth 100000 in
theorem k_X11_isBank (l : Launch)  (x : Int32)  : MS l yX11_isBank qX11_isBank 1 [.int (x)] (bI (isIx 2 x)) := by
  refine Met.ofW (cc := cX11_isBank) (maxL := 1) (ret := (some .boolean)) (by decide) rfl ?_
  intro p e s m args below meth c s₁ B hml hv
  obtain ⟨rfl, -⟩ := hv
  have hx := B.exec
  have hb := B.bytes
  have hr := B.returns
  have hlocks := B.notSynchronized
  have hts : ∀ cq ∈ tg, cq.before ([.int (x)] : List Value).toArray s = true := fun cq h => atoms_spec (ws := qX11_isBank) B.pre cq (List.mem_cons_of_mem _ h)
  have hown : s.vm.findClass RX11 = some m.cls := findClass_of_methodNamed B.named
  have hl := lv_entry ([.int (x)]) (n := 1) (Nat.le_of_ble_eq_true rfl)
  rw [lg_entry_eq]
  generalize (lg_sl ([.int (x)]) ++ List.replicate (1 - (lg_sl ([.int (x)])).length) Slot.unset).toArray = ls at hl ⊢
  have hl : lv_has ls 1 [(0, .int (x))] := hl
  refine lv_iload_n hx hb dX11_isBank_0 rfl (lv_at hl 0 rfl) ?_
  refine lv_iconst (v := nI 0) hx hb dX11_isBank_1 (by decide) ?_
  refine lv_iconst (v := nI 1) hx hb dX11_isBank_2 (by decide) ?_
  refine cr_s (n := 3) (As := [.int (x), .int (nI (0)), .int (nI (1))]) (rest := []) ⟨hx, hb, hml, hown, hts⟩ (k_X11_in l (x) (nI (0)) (nI (1))) gsX11_51 (by decide +kernel) ⟨Nat.le_of_ble_eq_true rfl, Nat.le_of_ble_eq_true rfl⟩ rfl hl.1 rfl (Nat.le_of_ble_eq_true rfl) dX11_isBank_3 ⟨Nat.zero_le _, Nat.zero_le _⟩ ?_
  exact rt_z hx hb hr hlocks (ix_le (n := 2) (by decide) x) dX11_isBank_6
set_option maxHeartbeats 4000000 in
set_option maxRecDepth 100000 in
theorem k_X11_poundsOf (l : Launch) (D : va_G) (cy : Nat → ClassId) (ad : Nat → Nat) (σ : Sg) (T : Ms) (t h : Nat) (ht : t < 8) (hh : h < 2 ^ 31) : MR l yX11_poundsOf qX11_poundsOf 1 [.ref (ad 0), .int (nI (t)), .int (nI (h))] D cy (mw cy ad σ T) (nI (pd σ h t)) := by
  refine Met.ofW (cc := cX11_poundsOf) (maxL := 3) (ret := (some .int)) (by decide) rfl ?_
  intro p e s m args below meth c s₁ B hml hv
  obtain ⟨rfl, hP, hK, hN⟩ := hv
  have hx := B.exec
  have hb := B.bytes
  have hr := B.returns
  have hlocks := B.notSynchronized
  have hts : ∀ cq ∈ tg, cq.before ([.ref (ad 0), .int (nI (t)), .int (nI (h))] : List Value).toArray s = true := fun cq h => atoms_spec (ws := qX11_poundsOf) B.pre cq (List.mem_cons_of_mem _ h)
  have hown : s.vm.findClass RX11 = some m.cls := findClass_of_methodNamed B.named
  have hl := lv_entry ([.ref (ad 0), .int (nI (t)), .int (nI (h))]) (n := 3) (Nat.le_of_ble_eq_true rfl)
  rw [lg_entry_eq]
  generalize (lg_sl ([.ref (ad 0), .int (nI (t)), .int (nI (h))]) ++ List.replicate (3 - (lg_sl ([.ref (ad 0), .int (nI (t)), .int (nI (h))])).length) Slot.unset).toArray = ls at hl ⊢
  have hl : lv_has ls 3 [(0, .ref (ad 0)), (1, .int (nI (t))), (2, .int (nI (h)))] := hl
  refine lv_aload_n hx hb dX11_poundsOf_0 rfl (lv_at hl 0 rfl) ?_
  refine va_get (D := D) (ci := 10) (v := .ref (ad 1)) (C := RX11) (T := TX11) (N := 31) hx hb hts ni11 hown hK hP 0 (mw_c0 cy ad σ T) rfl 1 (by decide) (hts _ flX11_7) (fun _ h => h) rfl dX11_poundsOf_1 ?_
  refine lv_bipush (v := nI 6) hx hb dX11_poundsOf_4 (by decide) ?_
  refine lv_iload_n hx hb dX11_poundsOf_6 rfl (lv_at hl 1 rfl) ?_
  refine ln_imul hx hb dX11_poundsOf_7 ?_
  refine lv_iconst (v := nI 1) hx hb dX11_poundsOf_8 (by decide) ?_
  refine ln_iadd hx hb dX11_poundsOf_9 ?_
  refine ln_iald (v := (nI (s_th σ ((6 * t) + 1)))) hx hb hK hP 1 (mw_c1 cy ad σ T) (by omega) (by decide) rfl dX11_poundsOf_10 ?_
  refine lv_iload_n hx hb dX11_poundsOf_11 rfl (lv_at hl 2 rfl) ?_
  refine lv_iload_n hx hb dX11_poundsOf_12 rfl (lv_at hl 1 rfl) ?_
  refine cr_s (n := 2) (As := [.int (nI (h)), .int (nI (t))]) (rest := [.int (nI (s_th σ ((6 * t) + 1)))]) ⟨hx, hb, hml, hown, hts⟩ (k_X11_has l h t (by omega) (by omega)) gsX11_173 (by decide +kernel) ⟨Nat.le_of_ble_eq_true rfl, Nat.le_of_ble_eq_true rfl⟩ rfl hl.1 rfl (Nat.le_of_ble_eq_true rfl) dX11_poundsOf_13 ⟨Nat.zero_le _, Nat.zero_le _⟩ ?_
  refine lb_if_eq (tgt := 23) hx hb dX11_poundsOf_16 (by decide) (fun c16 => ?_) (fun c16 => ?_)
  · refine lv_aload_n hx hb dX11_poundsOf_23 rfl (lv_at hl 0 rfl) ?_
    refine va_get (D := D) (ci := 10) (v := .ref (ad 1)) (C := RX11) (T := TX11) (N := 31) hx hb hts ni11 hown hK hP 0 (mw_c0 cy ad σ T) rfl 1 (by decide) (hts _ flX11_7) (fun _ h => h) rfl dX11_poundsOf_24 ?_
    refine lv_bipush (v := nI 6) hx hb dX11_poundsOf_27 (by decide) ?_
    refine lv_iload_n hx hb dX11_poundsOf_29 rfl (lv_at hl 1 rfl) ?_
    refine ln_imul hx hb dX11_poundsOf_30 ?_
    refine lv_iconst (v := nI 3) hx hb dX11_poundsOf_31 (by decide) ?_
    refine ln_iadd hx hb dX11_poundsOf_32 ?_
    refine ln_iald (v := (nI (s_th σ ((6 * t) + 3)))) hx hb hK hP 1 (mw_c1 cy ad σ T) (by omega) (by decide) rfl dX11_poundsOf_33 ?_
    refine ln_iadd hx hb dX11_poundsOf_34 ?_
    exact rt_i hx hb hr hlocks (congrArg nI (by unfold pd; simp [c16])) dX11_poundsOf_35
  · refine lv_iconst (v := nI 0) hx hb dX11_poundsOf_19 (by decide) ?_
    refine lv_goto (tgt := 34) hx hb dX11_poundsOf_20 (by decide) ?_
    refine ln_iadd hx hb dX11_poundsOf_34 ?_
    exact rt_i hx hb hr hlocks (congrArg nI (by unfold pd; simp [c16])) dX11_poundsOf_35
