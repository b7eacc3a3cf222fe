set_option maxHeartbeats 4000000 in
set_option maxRecDepth 100000 in
theorem k_X8_tell (l : Launch) (D : va_G) (cy : Nat → ClassId) (ad aw : Nat → Nat) (σ : Sg) (J : Js) (t k a b : Nat) (ht : t < 8) : MV l yX8_tell qX8_tell 0 [.ref (ad (21 + t)), .int (nI (k)), .int (nI (a)), .int (nI (b))] D cy (cw cy ad aw σ J) (fun _ : Unit => True) (fun _ : Unit => cw cy ad aw (su_th σ (th6 (s_th σ) t k a b)) J) := by
  intro sz
  refine Met.ofW (cc := cX8_tell) (maxL := 4) (ret := none) (by decide) rfl ?_
  intro p e s m args below meth c s₁ B hml hv
  obtain ⟨rfl, rfl, hP, hK, hN, hD0⟩ := hv
  have hx := B.exec
  have hb := B.bytes
  have hr := B.returns
  have hlocks := B.notSynchronized
  have hts : ∀ cq ∈ tg, cq.before ([.ref (ad (21 + t)), .int (nI (k)), .int (nI (a)), .int (nI (b))] : List Value).toArray s = true := fun cq h => atoms_spec (ws := qX8_tell) B.pre cq (List.mem_cons_of_mem _ h)
  have hown : s.vm.findClass RX8 = some m.cls := findClass_of_methodNamed B.named
  have hD := hD0.self (sz := s.heap.size)
  generalize hAe : va_A (cw cy ad aw σ J) s.heap.size = A at hD ⊢
  have hA : ∀ q : Nat, s.heap.size ≤ q → A q := fun q h => by rw [← hAe]; exact Or.inr h
  have hS : va_S A s.heap s.heap [] := va_S.rf
  have hl := lv_entry ([.ref (ad (21 + t)), .int (nI (k)), .int (nI (a)), .int (nI (b))]) (n := 4) (Nat.le_of_ble_eq_true rfl)
  rw [lg_entry_eq]
  generalize (lg_sl ([.ref (ad (21 + t)), .int (nI (k)), .int (nI (a)), .int (nI (b))]) ++ List.replicate (4 - (lg_sl ([.ref (ad (21 + t)), .int (nI (k)), .int (nI (a)), .int (nI (b))])).length) Slot.unset).toArray = ls at hl ⊢
  have hl : lv_has ls 4 [(0, .ref (ad (21 + t))), (1, .int (nI (k))), (2, .int (nI (a))), (3, .int (nI (b)))] := hl
  refine lv_aload_n hx hb dX8_tell_0 rfl (lv_at hl 0 rfl) ?_
  refine lv_iload_n hx hb dX8_tell_1 rfl (lv_at hl 1 rfl) ?_
  refine ln_put (ci := 8) (C := RX8) (T := TX8) (N := 6) (ty := .int) (v := .int (nI (k))) hx hb hts ni8 tyX8 tyX8_ok nmX8 hown hK hP hD hS (21 + t) (cw_thing cy ad aw σ J (t := t) (by omega)) rfl 0 (by decide) (hts _ flX8_9) (fun _ h => h) rfl (by decide +kernel) rfl rfl (Nat.le_of_ble_eq_true rfl) (cp_thing_0 cy ad aw σ J k (t := t) (by omega)) dX8_tell_2 (fun H locs hP hD hS => ?_)
  refine lv_aload_n hx hb dX8_tell_5 rfl (lv_at hl 0 rfl) ?_
  refine lv_iload_n hx hb dX8_tell_6 rfl (lv_at hl 2 rfl) ?_
  refine ln_put (ci := 8) (C := RX8) (T := TX8) (N := 6) (ty := .int) (v := .int (nI (a))) hx hb hts ni8 tyX8 tyX8_ok nmX8 hown hK hP hD hS (21 + t) (cw_thing cy ad aw (su_th σ (updN (s_th σ) (6 * t) k)) J (t := t) (by omega)) rfl 1 (by decide) (hts _ flX8_15) (fun _ h => h) rfl (by decide +kernel) rfl rfl (Nat.le_of_ble_eq_true rfl) ((cp_thing_1 cy ad aw (su_th σ (updN (s_th σ) (6 * t) k)) J a (t := t) (by omega)).trans (congrArg (fun z => cw cy ad aw z J) (by rw [sc_th]))) dX8_tell_7 (fun H locs hP hD hS => ?_)
  refine lv_aload_n hx hb dX8_tell_10 rfl (lv_at hl 0 rfl) ?_
  refine lv_iload_n hx hb dX8_tell_11 rfl (lv_at hl 3 rfl) ?_
  refine ln_put (ci := 8) (C := RX8) (T := TX8) (N := 6) (ty := .int) (v := .int (nI (b))) hx hb hts ni8 tyX8 tyX8_ok nmX8 hown hK hP hD hS (21 + t) (cw_thing cy ad aw (su_th σ (updN (updN (s_th σ) (6 * t) k) (6 * t + 1) a)) J (t := t) (by omega)) rfl 2 (by decide) (hts _ flX8_18) (fun _ h => h) rfl (by decide +kernel) rfl rfl (Nat.le_of_ble_eq_true rfl) ((cp_thing_2 cy ad aw (su_th σ (updN (updN (s_th σ) (6 * t) k) (6 * t + 1) a)) J b (t := t) (by omega)).trans (congrArg (fun z => cw cy ad aw z J) (by rw [sc_th]))) dX8_tell_12 (fun H locs hP hD hS => ?_)
  refine lv_aload_n hx hb dX8_tell_15 rfl (lv_at hl 0 rfl) ?_
  refine lv_iconst (v := nI 0) hx hb dX8_tell_16 (by decide) ?_
  refine ln_put (ci := 8) (C := RX8) (T := TX8) (N := 6) (ty := .int) (v := .int (nI (0))) hx hb hts ni8 tyX8 tyX8_ok nmX8 hown hK hP hD hS (21 + t) (cw_thing cy ad aw (su_th σ (updN (updN (updN (s_th σ) (6 * t) k) (6 * t + 1) a) (6 * t + 2) b)) J (t := t) (by omega)) rfl 3 (by decide) (hts _ flX8_21) (fun _ h => h) rfl (by decide +kernel) rfl rfl (Nat.le_of_ble_eq_true rfl) ((cp_thing_3 cy ad aw (su_th σ (updN (updN (updN (s_th σ) (6 * t) k) (6 * t + 1) a) (6 * t + 2) b)) J 0 (t := t) (by omega)).trans (congrArg (fun z => cw cy ad aw z J) (by rw [sc_th]))) dX8_tell_17 (fun H locs hP hD hS => ?_)
  refine lv_aload_n hx hb dX8_tell_20 rfl (lv_at hl 0 rfl) ?_
  refine lv_iconst (v := nI 0) hx hb dX8_tell_21 (by decide) ?_
  refine ln_put (ci := 8) (C := RX8) (T := TX8) (N := 6) (ty := .int) (v := .int (nI (0))) hx hb hts ni8 tyX8 tyX8_ok nmX8 hown hK hP hD hS (21 + t) (cw_thing cy ad aw (su_th σ (updN (updN (updN (updN (s_th σ) (6 * t) k) (6 * t + 1) a) (6 * t + 2) b) (6 * t + 3) 0)) J (t := t) (by omega)) rfl 4 (by decide) (hts _ flX8_24) (fun _ h => h) rfl (by decide +kernel) rfl rfl (Nat.le_of_ble_eq_true rfl) ((cp_thing_4 cy ad aw (su_th σ (updN (updN (updN (updN (s_th σ) (6 * t) k) (6 * t + 1) a) (6 * t + 2) b) (6 * t + 3) 0)) J 0 (t := t) (by omega)).trans (congrArg (fun z => cw cy ad aw z J) (by rw [sc_th]))) dX8_tell_22 (fun H locs hP hD hS => ?_)
  refine lv_aload_n hx hb dX8_tell_25 rfl (lv_at hl 0 rfl) ?_
  refine lv_iconst (v := nI 0) hx hb dX8_tell_26 (by decide) ?_
  refine ln_put (ci := 8) (C := RX8) (T := TX8) (N := 6) (ty := .boolean) (v := .int (nI (0))) hx hb hts ni8 tyX8 tyX8_ok nmX8 hown hK hP hD hS (21 + t) (cw_thing cy ad aw (su_th σ (updN (updN (updN (updN (updN (s_th σ) (6 * t) k) (6 * t + 1) a) (6 * t + 2) b) (6 * t + 3) 0) (6 * t + 4) 0)) J (t := t) (by omega)) rfl 5 (by decide) (hts _ flX8_27) (fun _ h => h) rfl (by decide +kernel) rfl rfl (Nat.le_of_ble_eq_true rfl) ((cp_thing_5 cy ad aw (su_th σ (updN (updN (updN (updN (updN (s_th σ) (6 * t) k) (6 * t + 1) a) (6 * t + 2) b) (6 * t + 3) 0) (6 * t + 4) 0)) J 0 (t := t) (by omega)).trans (congrArg (fun z => cw cy ad aw z J) (by rw [sc_th]))) dX8_tell_27 (fun H locs hP hD hS => ?_)
  exact rw_v hx hb hr hlocks hS () (trivial) hP dX8_tell_30
set_option maxHeartbeats 4000000 in
set_option maxRecDepth 100000 in
theorem k_X0_tell (l : Launch) (D : va_G) (cy : Nat → ClassId) (ad aw : Nat → Nat) (σ : Sg) (J : Js) (t k a b c1 d1 : Nat) (ht : t < 3) : MV l yX0_tell qX0_tell 0 [.ref (ad (29 + t)), .int (nI (k)), .int (nI (a)), .int (nI (b)), .int (nI (c1)), .int (nI (d1))] D cy (cw cy ad aw σ J) (fun _ : Unit => True) (fun _ : Unit => cw cy ad aw (su_fe σ (fe5 (s_fe σ) t k a b c1 d1)) J) := by
  intro sz
  refine Met.ofW (cc := cX0_tell) (maxL := 6) (ret := none) (by decide) rfl ?_
  intro p e s m args below meth c s₁ B hml hv
  obtain ⟨rfl, rfl, hP, hK, hN, hD0⟩ := hv
  have hx := B.exec
  have hb := B.bytes
  have hr := B.returns
  have hlocks := B.notSynchronized
  have hts : ∀ cq ∈ tg, cq.before ([.ref (ad (29 + t)), .int (nI (k)), .int (nI (a)), .int (nI (b)), .int (nI (c1)), .int (nI (d1))] : List Value).toArray s = true := fun cq h => atoms_spec (ws := qX0_tell) B.pre cq (List.mem_cons_of_mem _ h)
  have hown : s.vm.findClass RX0 = some m.cls := findClass_of_methodNamed B.named
  have hD := hD0.self (sz := s.heap.size)
  generalize hAe : va_A (cw cy ad aw σ J) s.heap.size = A at hD ⊢
  have hA : ∀ q : Nat, s.heap.size ≤ q → A q := fun q h => by rw [← hAe]; exact Or.inr h
  have hS : va_S A s.heap s.heap [] := va_S.rf
  have hl := lv_entry ([.ref (ad (29 + t)), .int (nI (k)), .int (nI (a)), .int (nI (b)), .int (nI (c1)), .int (nI (d1))]) (n := 6) (Nat.le_of_ble_eq_true rfl)
  rw [lg_entry_eq]
  generalize (lg_sl ([.ref (ad (29 + t)), .int (nI (k)), .int (nI (a)), .int (nI (b)), .int (nI (c1)), .int (nI (d1))]) ++ List.replicate (6 - (lg_sl ([.ref (ad (29 + t)), .int (nI (k)), .int (nI (a)), .int (nI (b)), .int (nI (c1)), .int (nI (d1))])).length) Slot.unset).toArray = ls at hl ⊢
  have hl : lv_has ls 6 [(0, .ref (ad (29 + t))), (1, .int (nI (k))), (2, .int (nI (a))), (3, .int (nI (b))), (4, .int (nI (c1))), (5, .int (nI (d1)))] := hl
  refine lv_aload_n hx hb dX0_tell_0 rfl (lv_at hl 0 rfl) ?_
  refine lv_iload_n hx hb dX0_tell_1 rfl (lv_at hl 1 rfl) ?_
  refine ln_put (ci := 0) (C := RX0) (T := TX0) (N := 5) (ty := .int) (v := .int (nI (k))) hx hb hts ni0 tyX0 tyX0_ok nmX0 hown hK hP hD hS (29 + t) (cw_ferry cy ad aw σ J (t := t) (by omega)) rfl 0 (by decide) (hts _ flX0_9) (fun _ h => h) rfl (by decide +kernel) rfl rfl (Nat.le_of_ble_eq_true rfl) (cp_ferry_0 cy ad aw σ J k (t := t) (by omega)) dX0_tell_2 (fun H locs hP hD hS => ?_)
  refine lv_aload_n hx hb dX0_tell_5 rfl (lv_at hl 0 rfl) ?_
  refine lv_iload_n hx hb dX0_tell_6 rfl (lv_at hl 2 rfl) ?_
  refine ln_put (ci := 0) (C := RX0) (T := TX0) (N := 5) (ty := .int) (v := .int (nI (a))) hx hb hts ni0 tyX0 tyX0_ok nmX0 hown hK hP hD hS (29 + t) (cw_ferry cy ad aw (su_fe σ (updN (s_fe σ) (5 * t) k)) J (t := t) (by omega)) rfl 1 (by decide) (hts _ flX0_15) (fun _ h => h) rfl (by decide +kernel) rfl rfl (Nat.le_of_ble_eq_true rfl) ((cp_ferry_1 cy ad aw (su_fe σ (updN (s_fe σ) (5 * t) k)) J a (t := t) (by omega)).trans (congrArg (fun z => cw cy ad aw z J) (by rw [sc_fe]))) dX0_tell_7 (fun H locs hP hD hS => ?_)
  refine lv_aload_n hx hb dX0_tell_10 rfl (lv_at hl 0 rfl) ?_
  refine lv_iload_n hx hb dX0_tell_11 rfl (lv_at hl 3 rfl) ?_
  refine ln_put (ci := 0) (C := RX0) (T := TX0) (N := 5) (ty := .int) (v := .int (nI (b))) hx hb hts ni0 tyX0 tyX0_ok nmX0 hown hK hP hD hS (29 + t) (cw_ferry cy ad aw (su_fe σ (updN (updN (s_fe σ) (5 * t) k) (5 * t + 1) a)) J (t := t) (by omega)) rfl 2 (by decide) (hts _ flX0_18) (fun _ h => h) rfl (by decide +kernel) rfl rfl (Nat.le_of_ble_eq_true rfl) ((cp_ferry_2 cy ad aw (su_fe σ (updN (updN (s_fe σ) (5 * t) k) (5 * t + 1) a)) J b (t := t) (by omega)).trans (congrArg (fun z => cw cy ad aw z J) (by rw [sc_fe]))) dX0_tell_12 (fun H locs hP hD hS => ?_)
  refine lv_aload_n hx hb dX0_tell_15 rfl (lv_at hl 0 rfl) ?_
  refine lv_iload hx hb dX0_tell_16 (lv_at hl 4 rfl) ?_
  refine ln_put (ci := 0) (C := RX0) (T := TX0) (N := 5) (ty := .int) (v := .int (nI (c1))) hx hb hts ni0 tyX0 tyX0_ok nmX0 hown hK hP hD hS (29 + t) (cw_ferry cy ad aw (su_fe σ (updN (updN (updN (s_fe σ) (5 * t) k) (5 * t + 1) a) (5 * t + 2) b)) J (t := t) (by omega)) rfl 3 (by decide) (hts _ flX0_21) (fun _ h => h) rfl (by decide +kernel) rfl rfl (Nat.le_of_ble_eq_true rfl) ((cp_ferry_3 cy ad aw (su_fe σ (updN (updN (updN (s_fe σ) (5 * t) k) (5 * t + 1) a) (5 * t + 2) b)) J c1 (t := t) (by omega)).trans (congrArg (fun z => cw cy ad aw z J) (by rw [sc_fe]))) dX0_tell_18 (fun H locs hP hD hS => ?_)
  refine lv_aload_n hx hb dX0_tell_21 rfl (lv_at hl 0 rfl) ?_
  refine lv_iload hx hb dX0_tell_22 (lv_at hl 5 rfl) ?_
  refine ln_put (ci := 0) (C := RX0) (T := TX0) (N := 5) (ty := .int) (v := .int (nI (d1))) hx hb hts ni0 tyX0 tyX0_ok nmX0 hown hK hP hD hS (29 + t) (cw_ferry cy ad aw (su_fe σ (updN (updN (updN (updN (s_fe σ) (5 * t) k) (5 * t + 1) a) (5 * t + 2) b) (5 * t + 3) c1)) J (t := t) (by omega)) rfl 4 (by decide) (hts _ flX0_24) (fun _ h => h) rfl (by decide +kernel) rfl rfl (Nat.le_of_ble_eq_true rfl) ((cp_ferry_4 cy ad aw (su_fe σ (updN (updN (updN (updN (s_fe σ) (5 * t) k) (5 * t + 1) a) (5 * t + 2) b) (5 * t + 3) c1)) J d1 (t := t) (by omega)).trans (congrArg (fun z => cw cy ad aw z J) (by rw [sc_fe]))) dX0_tell_24 (fun H locs hP hD hS => ?_)
  exact rw_v hx hb hr hlocks hS () (trivial) hP dX0_tell_27
set_option maxHeartbeats 4000000 in
set_option maxRecDepth 100000 in
theorem k_X3_addThing (l : Launch) (D : va_G) (cy : Nat → ClassId) (ad aw : Nat → Nat) (σ : Sg) (J : Js) (k t a b : Nat) (ht : t < 12) (hn8 : s_n σ < 8) (h0 : j_nb J t 0 = nI a) (h1 : j_nb J t 1 = nI b) : MV l yX3_addThing qX3_addThing 1 [.ref (ad 3), .int (nI (k)), .ref (ad (46 + t))] D cy (cw cy ad aw σ J) (fun _ : Unit => True) (fun _ : Unit => cw cy ad aw (doT σ k [a, b]) J) := by
  intro sz
  refine Met.ofW (cc := cX3_addThing) (maxL := 3) (ret := none) (by decide) rfl ?_
  intro p e s m args below meth c s₁ B hml hv
  obtain ⟨rfl, rfl, hP, hK, hN, hD0⟩ := hv
  have hx := B.exec
  have hb := B.bytes
  have hr := B.returns
  have hlocks := B.notSynchronized
  have hts : ∀ cq ∈ tg, cq.before ([.ref (ad 3), .int (nI (k)), .ref (ad (46 + t))] : List Value).toArray s = true := fun cq h => atoms_spec (ws := qX3_addThing) B.pre cq (List.mem_cons_of_mem _ h)
  have hown : s.vm.findClass RX3 = some m.cls := findClass_of_methodNamed B.named
  have hD := hD0.self (sz := s.heap.size)
  generalize hAe : va_A (cw cy ad aw σ J) s.heap.size = A at hD ⊢
  have hA : ∀ q : Nat, s.heap.size ≤ q → A q := fun q h => by rw [← hAe]; exact Or.inr h
  have hS : va_S A s.heap s.heap [] := va_S.rf
  have hl := lv_entry ([.ref (ad 3), .int (nI (k)), .ref (ad (46 + t))]) (n := 3) (Nat.le_of_ble_eq_true rfl)
  rw [lg_entry_eq]
  generalize (lg_sl ([.ref (ad 3), .int (nI (k)), .ref (ad (46 + t))]) ++ List.replicate (3 - (lg_sl ([.ref (ad 3), .int (nI (k)), .ref (ad (46 + t))])).length) Slot.unset).toArray = ls at hl ⊢
  have hl : lv_has ls 3 [(0, .ref (ad 3)), (1, .int (nI (k))), (2, .ref (ad (46 + t)))] := hl
  refine lv_aload_n hx hb dX3_addThing_0 rfl (lv_at hl 0 rfl) ?_
  refine va_get (D := D) (ci := 3) (v := .int (nI (s_n σ))) (C := RX3) (T := TX3) (N := 9) hx hb hts ni3 hown hK hP 3 (cw_c3 cy ad aw σ J) rfl 3 (by decide) (hts _ flX3_30) (fun _ h => h) rfl dX3_addThing_1 ?_
  refine lv_bipush (v := nI 8) hx hb dX3_addThing_4 (by decide) ?_
  refine ln_icmp_ge (tgt := 38) hx hb dX3_addThing_6 (by decide) (by omega) (by omega) (fun c6 => ?_) (fun c6 => ?_)
  · exact absurd c6 (by omega)
  · refine lv_aload_n hx hb dX3_addThing_9 rfl (lv_at hl 0 rfl) ?_
    refine va_get (D := D) (ci := 3) (v := .ref (ad 4)) (C := RX3) (T := TX3) (N := 9) hx hb hts ni3 hown hK hP 3 (cw_c3 cy ad aw σ J) rfl 0 (by decide) (hts _ flX3_11) (fun _ h => h) rfl dX3_addThing_10 ?_
    refine lv_aload_n hx hb dX3_addThing_13 rfl (lv_at hl 0 rfl) ?_
    refine va_get (D := D) (ci := 3) (v := .int (nI (s_n σ))) (C := RX3) (T := TX3) (N := 9) hx hb hts ni3 hown hK hP 3 (cw_c3 cy ad aw σ J) rfl 3 (by decide) (hts _ flX3_30) (fun _ h => h) rfl dX3_addThing_14 ?_
    refine ln_aald (x := ad (21 + (s_n σ))) hx hb hK hP 4 5 (cw_c4 cy ad aw σ J) rfl (by omega) (by decide) rfl dX3_addThing_17 ?_
    refine lv_iload_n hx hb dX3_addThing_18 rfl (lv_at hl 1 rfl) ?_
    refine lv_aload_n hx hb dX3_addThing_19 rfl (lv_at hl 2 rfl) ?_
    refine lv_iconst (v := nI 0) hx hb dX3_addThing_20 (by decide) ?_
    refine ln_iald (v := ((j_nb J t) 0)) hx hb hK hP (46 + t) (cw_nums cy ad aw σ J (t := t) (by omega)) (by omega) (by decide) rfl dX3_addThing_21 ?_
    refine ln_eq (show ((j_nb J t) 0) = (nI (a)) from h0) ?_
    refine lv_aload_n hx hb dX3_addThing_22 rfl (lv_at hl 2 rfl) ?_
    refine lv_iconst (v := nI 1) hx hb dX3_addThing_23 (by decide) ?_
    refine ln_iald (v := ((j_nb J t) 1)) hx hb hK hP (46 + t) (cw_nums cy ad aw σ J (t := t) (by omega)) (by omega) (by decide) rfl dX3_addThing_24 ?_
    refine ln_eq (show ((j_nb J t) 1) = (nI (b)) from h1) ?_
    refine cr_vv (n := 3) (As := [.int (nI (k)), .int (nI (a)), .int (nI (b))]) (rest := []) ⟨hx, hb, hml, hown, hts⟩ (k_X8_tell l D cy ad aw σ J (s_n σ) k a b hn8) gvX3_87 (by decide +kernel) ⟨Nat.le_of_ble_eq_true rfl, Nat.le_of_ble_eq_true rfl⟩ hK hN hP hD hS hA (21 + (s_n σ)) (cw_thing cy ad aw σ J (t := (s_n σ)) (by omega)) rfl rfl hl.1 rfl (Nat.le_of_ble_eq_true rfl) dX3_addThing_25 ⟨Nat.zero_le _, Nat.zero_le _⟩ (fun _ => (cw_ad _ _ _ _ _).trans (cw_ad _ _ _ _ _).symm) (fun u1 H locs hpu1 hP hD hS => ?_)
    have hP : va_P D vwCl (cw cy ad aw (su_th σ (th6 (s_th σ) (s_n σ) k a b)) J) H := hP
    have hD : va_D A (cw cy ad aw (su_th σ (th6 (s_th σ) (s_n σ) k a b)) J) := hD
    refine lv_aload_n hx hb dX3_addThing_28 rfl (lv_at hl 0 rfl) ?_
    refine lv_dup hx hb dX3_addThing_29 rfl ?_
    refine va_get (D := D) (ci := 3) (v := .int (nI (s_n σ))) (C := RX3) (T := TX3) (N := 9) hx hb hts ni3 hown hK hP 3 (cw_c3 cy ad aw (su_th σ (th6 (s_th σ) (s_n σ) k a b)) J) rfl 3 (by decide) (hts _ flX3_30) (fun _ h => h) rfl dX3_addThing_30 ?_
    refine lv_iconst (v := nI 1) hx hb dX3_addThing_33 (by decide) ?_
    refine ln_iadd hx hb dX3_addThing_34 ?_
    refine ln_put (ci := 3) (C := RX3) (T := TX3) (N := 9) (ty := .int) (v := .int (nI ((s_n σ) + 1))) hx hb hts ni3 tyX3 tyX3_ok nmX3 hown hK hP hD hS 3 (cw_c3 cy ad aw (su_th σ (th6 (s_th σ) (s_n σ) k a b)) J) rfl 3 (by decide) (hts _ flX3_30) (fun _ h => h) rfl (by decide +kernel) rfl rfl (Nat.le_of_ble_eq_true rfl) (cp_3_3 cy ad aw (su_th σ (th6 (s_th σ) (s_n σ) k a b)) J ((s_n σ) + 1)) dX3_addThing_35 (fun H locs hP hD hS => ?_)
    exact rw_v hx hb hr hlocks hS () (trivial) hP dX3_addThing_38
set_option maxHeartbeats 4000000 in
set_option maxRecDepth 100000 in
theorem k_X3_addFerry (l : Launch) (D : va_G) (cy : Nat → ClassId) (ad aw : Nat → Nat) (σ : Sg) (J : Js) (k t a b c1 d1 : Nat) (ht : t < 12) (hm3 : s_m σ < 3) (h0 : j_nb J t 0 = nI a) (h1 : j_nb J t 1 = nI b) (h2 : j_nb J t 2 = nI c1) (h3 : j_nb J t 3 = nI d1) : MV l yX3_addFerry qX3_addFerry 1 [.ref (ad 3), .int (nI (k)), .ref (ad (46 + t))] D cy (cw cy ad aw σ J) (fun _ : Unit => True) (fun _ : Unit => cw cy ad aw (doF σ (k + 4) [a, b, c1, d1]) J) := by
  intro sz
  refine Met.ofW (cc := cX3_addFerry) (maxL := 3) (ret := none) (by decide) rfl ?_
  intro p e s m args below meth c s₁ B hml hv
  obtain ⟨rfl, rfl, hP, hK, hN, hD0⟩ := hv
  have hx := B.exec
  have hb := B.bytes
  have hr := B.returns
  have hlocks := B.notSynchronized
  have hts : ∀ cq ∈ tg, cq.before ([.ref (ad 3), .int (nI (k)), .ref (ad (46 + t))] : List Value).toArray s = true := fun cq h => atoms_spec (ws := qX3_addFerry) B.pre cq (List.mem_cons_of_mem _ h)
  have hown : s.vm.findClass RX3 = some m.cls := findClass_of_methodNamed B.named
  have hD := hD0.self (sz := s.heap.size)
  generalize hAe : va_A (cw cy ad aw σ J) s.heap.size = A at hD ⊢
  have hA : ∀ q : Nat, s.heap.size ≤ q → A q := fun q h => by rw [← hAe]; exact Or.inr h
  have hS : va_S A s.heap s.heap [] := va_S.rf
  have hl := lv_entry ([.ref (ad 3), .int (nI (k)), .ref (ad (46 + t))]) (n := 3) (Nat.le_of_ble_eq_true rfl)
  rw [lg_entry_eq]
  generalize (lg_sl ([.ref (ad 3), .int (nI (k)), .ref (ad (46 + t))]) ++ List.replicate (3 - (lg_sl ([.ref (ad 3), .int (nI (k)), .ref (ad (46 + t))])).length) Slot.unset).toArray = ls at hl ⊢
  have hl : lv_has ls 3 [(0, .ref (ad 3)), (1, .int (nI (k))), (2, .ref (ad (46 + t)))] := hl
  refine lv_aload_n hx hb dX3_addFerry_0 rfl (lv_at hl 0 rfl) ?_
  refine va_get (D := D) (ci := 3) (v := .int (nI (s_m σ))) (C := RX3) (T := TX3) (N := 9) hx hb hts ni3 hown hK hP 3 (cw_c3 cy ad aw σ J) rfl 4 (by decide) (hts _ flX3_34) (fun _ h => h) rfl dX3_addFerry_1 ?_
  refine lv_iconst (v := nI 3) hx hb dX3_addFerry_4 (by decide) ?_
  refine ln_icmp_ge (tgt := 43) hx hb dX3_addFerry_5 (by decide) (by omega) (by omega) (fun c5 => ?_) (fun c5 => ?_)
  · exact absurd c5 (by omega)
  · refine lv_aload_n hx hb dX3_addFerry_8 rfl (lv_at hl 0 rfl) ?_
    refine va_get (D := D) (ci := 3) (v := .ref (ad 5)) (C := RX3) (T := TX3) (N := 9) hx hb hts ni3 hown hK hP 3 (cw_c3 cy ad aw σ J) rfl 1 (by decide) (hts _ flX3_19) (fun _ h => h) rfl dX3_addFerry_9 ?_
    refine lv_aload_n hx hb dX3_addFerry_12 rfl (lv_at hl 0 rfl) ?_
    refine va_get (D := D) (ci := 3) (v := .int (nI (s_m σ))) (C := RX3) (T := TX3) (N := 9) hx hb hts ni3 hown hK hP 3 (cw_c3 cy ad aw σ J) rfl 4 (by decide) (hts _ flX3_34) (fun _ h => h) rfl dX3_addFerry_13 ?_
    refine ln_aald (x := ad (29 + (s_m σ))) hx hb hK hP 5 2 (cw_c5 cy ad aw σ J) rfl (by omega) (by decide) rfl dX3_addFerry_16 ?_
    refine lv_iload_n hx hb dX3_addFerry_17 rfl (lv_at hl 1 rfl) ?_
    refine lv_aload_n hx hb dX3_addFerry_18 rfl (lv_at hl 2 rfl) ?_
    refine lv_iconst (v := nI 0) hx hb dX3_addFerry_19 (by decide) ?_
    refine ln_iald (v := ((j_nb J t) 0)) hx hb hK hP (46 + t) (cw_nums cy ad aw σ J (t := t) (by omega)) (by omega) (by decide) rfl dX3_addFerry_20 ?_
    refine ln_eq (show ((j_nb J t) 0) = (nI (a)) from h0) ?_
    refine lv_aload_n hx hb dX3_addFerry_21 rfl (lv_at hl 2 rfl) ?_
    refine lv_iconst (v := nI 1) hx hb dX3_addFerry_22 (by decide) ?_
    refine ln_iald (v := ((j_nb J t) 1)) hx hb hK hP (46 + t) (cw_nums cy ad aw σ J (t := t) (by omega)) (by omega) (by decide) rfl dX3_addFerry_23 ?_
    refine ln_eq (show ((j_nb J t) 1) = (nI (b)) from h1) ?_
    refine lv_aload_n hx hb dX3_addFerry_24 rfl (lv_at hl 2 rfl) ?_
    refine lv_iconst (v := nI 2) hx hb dX3_addFerry_25 (by decide) ?_
    refine ln_iald (v := ((j_nb J t) 2)) hx hb hK hP (46 + t) (cw_nums cy ad aw σ J (t := t) (by omega)) (by omega) (by decide) rfl dX3_addFerry_26 ?_
    refine ln_eq (show ((j_nb J t) 2) = (nI (c1)) from h2) ?_
    refine lv_aload_n hx hb dX3_addFerry_27 rfl (lv_at hl 2 rfl) ?_
    refine lv_iconst (v := nI 3) hx hb dX3_addFerry_28 (by decide) ?_
    refine ln_iald (v := ((j_nb J t) 3)) hx hb hK hP (46 + t) (cw_nums cy ad aw σ J (t := t) (by omega)) (by omega) (by decide) rfl dX3_addFerry_29 ?_
    refine ln_eq (show ((j_nb J t) 3) = (nI (d1)) from h3) ?_
    refine cr_vv (n := 5) (As := [.int (nI (k)), .int (nI (a)), .int (nI (b)), .int (nI (c1)), .int (nI (d1))]) (rest := []) ⟨hx, hb, hml, hown, hts⟩ (k_X0_tell l D cy ad aw σ J (s_m σ) k a b c1 d1 hm3) gvX3_91 (by decide +kernel) ⟨Nat.le_of_ble_eq_true rfl, Nat.le_of_ble_eq_true rfl⟩ hK hN hP hD hS hA (29 + (s_m σ)) (cw_ferry cy ad aw σ J (t := (s_m σ)) (by omega)) rfl rfl hl.1 rfl (Nat.le_of_ble_eq_true rfl) dX3_addFerry_30 ⟨Nat.zero_le _, Nat.zero_le _⟩ (fun _ => (cw_ad _ _ _ _ _).trans (cw_ad _ _ _ _ _).symm) (fun u1 H locs hpu1 hP hD hS => ?_)
    have hP : va_P D vwCl (cw cy ad aw (su_fe σ (fe5 (s_fe σ) (s_m σ) k a b c1 d1)) J) H := hP
    have hD : va_D A (cw cy ad aw (su_fe σ (fe5 (s_fe σ) (s_m σ) k a b c1 d1)) J) := hD
    refine lv_aload_n hx hb dX3_addFerry_33 rfl (lv_at hl 0 rfl) ?_
    refine lv_dup hx hb dX3_addFerry_34 rfl ?_
    refine va_get (D := D) (ci := 3) (v := .int (nI (s_m σ))) (C := RX3) (T := TX3) (N := 9) hx hb hts ni3 hown hK hP 3 (cw_c3 cy ad aw (su_fe σ (fe5 (s_fe σ) (s_m σ) k a b c1 d1)) J) rfl 4 (by decide) (hts _ flX3_34) (fun _ h => h) rfl dX3_addFerry_35 ?_
    refine lv_iconst (v := nI 1) hx hb dX3_addFerry_38 (by decide) ?_
    refine ln_iadd hx hb dX3_addFerry_39 ?_
    refine ln_put (ci := 3) (C := RX3) (T := TX3) (N := 9) (ty := .int) (v := .int (nI ((s_m σ) + 1))) hx hb hts ni3 tyX3 tyX3_ok nmX3 hown hK hP hD hS 3 (cw_c3 cy ad aw (su_fe σ (fe5 (s_fe σ) (s_m σ) k a b c1 d1)) J) rfl 4 (by decide) (hts _ flX3_34) (fun _ h => h) rfl (by decide +kernel) rfl rfl (Nat.le_of_ble_eq_true rfl) (cp_3_4 cy ad aw (su_fe σ (fe5 (s_fe σ) (s_m σ) k a b c1 d1)) J ((s_m σ) + 1)) dX3_addFerry_40 (fun H locs hP hD hS => ?_)
    exact rw_v hx hb hr hlocks hS () (trivial) hP dX3_addFerry_43
set_option maxHeartbeats 4000000 in
set_option maxRecDepth 100000 in
theorem k_change5 (l : Launch) (D : va_G) (cy : Nat → ClassId) (ad aw aS aV aT : Nat → Nat) (σ : Sg) (J : Js) (a b : Nat) (ha : a < 8) : MVC l yX3_change qX3_change 0 [.ref (ad (21 + a)), .ref (aw 5), .int (nI (b))] D cy (cw cy ad aw σ J) aw aS aV aT (fun _ : Unit => True) (fun _ : Unit => cw cy ad aw (su_th σ (updN (s_th σ) (6 * a + 3) b)) J) := by
  intro sz
  refine Met.ofW (cc := cX3_change) (maxL := 3) (ret := none) (by decide) rfl ?_
  intro p e s m args below meth c s₁ B hml hv
  obtain ⟨rfl, rfl, hP, hK, hN, hD0, hC⟩ := hv
  have hx := B.exec
  have hb := B.bytes
  have hr := B.returns
  have hlocks := B.notSynchronized
  have hts : ∀ cq ∈ tg, cq.before ([.ref (ad (21 + a)), .ref (aw 5), .int (nI (b))] : List Value).toArray s = true := fun cq h => atoms_spec (ws := qX3_change) B.pre cq (List.mem_cons_of_mem _ h)
  have hown : s.vm.findClass RX3 = some m.cls := findClass_of_methodNamed B.named
  have hD := hD0.self (sz := s.heap.size)
  generalize hAe : va_A (cw cy ad aw σ J) s.heap.size = A at hD hC ⊢
  have hA : ∀ q : Nat, s.heap.size ≤ q → A q := fun q h => by rw [← hAe]; exact Or.inr h
  have hS : va_S A s.heap s.heap [] := va_S.rf
  have hl := lv_entry ([.ref (ad (21 + a)), .ref (aw 5), .int (nI (b))]) (n := 3) (Nat.le_of_ble_eq_true rfl)
  rw [lg_entry_eq]
  generalize (lg_sl ([.ref (ad (21 + a)), .ref (aw 5), .int (nI (b))]) ++ List.replicate (3 - (lg_sl ([.ref (ad (21 + a)), .ref (aw 5), .int (nI (b))])).length) Slot.unset).toArray = ls at hl ⊢
  have hl : lv_has ls 3 [(0, .ref (ad (21 + a))), (1, .ref (aw 5)), (2, .int (nI (b)))] := hl
  refine lv_aload_n hx hb dX3_change_0 rfl (lv_at hl 1 rfl) ?_
  refine va_gets hx hb (hC.1 5 (by decide)).1 hS hown (hts _ flX3_94) (fun _ h => h) dX3_change_1 ?_
  refine lk_acmp_eq (tgt := 15) hx hb dX3_change_4 (by decide) ?_
  refine lv_aload_n hx hb dX3_change_7 rfl (lv_at hl 0 rfl) ?_
  refine lv_iload_n hx hb dX3_change_8 rfl (lv_at hl 2 rfl) ?_
  refine ln_put (ci := 8) (C := RX8) (T := TX8) (N := 6) (ty := .int) (v := .int (nI (b))) hx hb hts ni8 tyX8 tyX8_ok nmX8 hown hK hP hD hS (21 + a) (cw_thing cy ad aw σ J (t := a) (by omega)) rfl 3 (by decide) (hts _ flX3_97) (fun _ h => h) rfl (by decide +kernel) rfl rfl (Nat.le_of_ble_eq_true rfl) (cp_thing_3 cy ad aw σ J b (t := a) (by omega)) dX3_change_9 (fun H locs hP hD hS => ?_)
  refine lv_goto (tgt := 42) hx hb dX3_change_12 (by decide) ?_
  exact rw_v hx hb hr hlocks hS () (trivial) hP dX3_change_42
set_option maxHeartbeats 4000000 in
set_option maxRecDepth 100000 in
theorem k_change6 (l : Launch) (D : va_G) (cy : Nat → ClassId) (ad aw aS aV aT : Nat → Nat) (σ : Sg) (J : Js) (a b : Nat) (ha : a < 8) : MVC l yX3_change qX3_change 0 [.ref (ad (21 + a)), .ref (aw 6), .int (nI (b))] D cy (cw cy ad aw σ J) aw aS aV aT (fun _ : Unit => True) (fun _ : Unit => cw cy ad aw (su_th σ (updN (s_th σ) (6 * a + 4) b)) J) := by
  intro sz
  refine Met.ofW (cc := cX3_change) (maxL := 3) (ret := none) (by decide) rfl ?_
  intro p e s m args below meth c s₁ B hml hv
  obtain ⟨rfl, rfl, hP, hK, hN, hD0, hC⟩ := hv
  have hx := B.exec
  have hb := B.bytes
  have hr := B.returns
  have hlocks := B.notSynchronized
  have hts : ∀ cq ∈ tg, cq.before ([.ref (ad (21 + a)), .ref (aw 6), .int (nI (b))] : List Value).toArray s = true := fun cq h => atoms_spec (ws := qX3_change) B.pre cq (List.mem_cons_of_mem _ h)
  have hown : s.vm.findClass RX3 = some m.cls := findClass_of_methodNamed B.named
  have hD := hD0.self (sz := s.heap.size)
  generalize hAe : va_A (cw cy ad aw σ J) s.heap.size = A at hD hC ⊢
  have hA : ∀ q : Nat, s.heap.size ≤ q → A q := fun q h => by rw [← hAe]; exact Or.inr h
  have hS : va_S A s.heap s.heap [] := va_S.rf
  have hl := lv_entry ([.ref (ad (21 + a)), .ref (aw 6), .int (nI (b))]) (n := 3) (Nat.le_of_ble_eq_true rfl)
  rw [lg_entry_eq]
  generalize (lg_sl ([.ref (ad (21 + a)), .ref (aw 6), .int (nI (b))]) ++ List.replicate (3 - (lg_sl ([.ref (ad (21 + a)), .ref (aw 6), .int (nI (b))])).length) Slot.unset).toArray = ls at hl ⊢
  have hl : lv_has ls 3 [(0, .ref (ad (21 + a))), (1, .ref (aw 6)), (2, .int (nI (b)))] := hl
  refine lv_aload_n hx hb dX3_change_0 rfl (lv_at hl 1 rfl) ?_
  refine va_gets hx hb (hC.1 5 (by decide)).1 hS hown (hts _ flX3_94) (fun _ h => h) dX3_change_1 ?_
  refine lk_acmp_ne (tgt := 15) hx hb dX3_change_4 (by decide) (hC.ne (by decide) (by decide) (by decide)) ?_
  refine lv_aload_n hx hb dX3_change_15 rfl (lv_at hl 1 rfl) ?_
  refine va_gets hx hb (hC.1 6 (by decide)).1 hS hown (hts _ flX3_100) (fun _ h => h) dX3_change_16 ?_
  refine lk_acmp_eq (tgt := 30) hx hb dX3_change_19 (by decide) ?_
  refine lv_aload_n hx hb dX3_change_22 rfl (lv_at hl 0 rfl) ?_
  refine lv_iload_n hx hb dX3_change_23 rfl (lv_at hl 2 rfl) ?_
  refine ln_put (ci := 8) (C := RX8) (T := TX8) (N := 6) (ty := .int) (v := .int (nI (b))) hx hb hts ni8 tyX8 tyX8_ok nmX8 hown hK hP hD hS (21 + a) (cw_thing cy ad aw σ J (t := a) (by omega)) rfl 4 (by decide) (hts _ flX3_103) (fun _ h => h) rfl (by decide +kernel) rfl rfl (Nat.le_of_ble_eq_true rfl) (cp_thing_4 cy ad aw σ J b (t := a) (by omega)) dX3_change_24 (fun H locs hP hD hS => ?_)
  refine lv_goto (tgt := 42) hx hb dX3_change_27 (by decide) ?_
  exact rw_v hx hb hr hlocks hS () (trivial) hP dX3_change_42
set_option maxHeartbeats 4000000 in
set_option maxRecDepth 100000 in
theorem k_change7 (l : Launch) (D : va_G) (cy : Nat → ClassId) (ad aw aS aV aT : Nat → Nat) (σ : Sg) (J : Js) (a : Nat) (v : Int32) (ha : a < 8) : MVC l yX3_change qX3_change 0 [.ref (ad (21 + a)), .ref (aw 7), .int (v)] D cy (cw cy ad aw σ J) aw aS aV aT (fun _ : Unit => True) (fun _ : Unit => cw cy ad aw (su_th σ (updN (s_th σ) (6 * a + 5) 1)) J) := by
  intro sz
  refine Met.ofW (cc := cX3_change) (maxL := 3) (ret := none) (by decide) rfl ?_
  intro p e s m args below meth c s₁ B hml hv
  obtain ⟨rfl, rfl, hP, hK, hN, hD0, hC⟩ := hv
  have hx := B.exec
  have hb := B.bytes
  have hr := B.returns
  have hlocks := B.notSynchronized
  have hts : ∀ cq ∈ tg, cq.before ([.ref (ad (21 + a)), .ref (aw 7), .int (v)] : List Value).toArray s = true := fun cq h => atoms_spec (ws := qX3_change) B.pre cq (List.mem_cons_of_mem _ h)
  have hown : s.vm.findClass RX3 = some m.cls := findClass_of_methodNamed B.named
  have hD := hD0.self (sz := s.heap.size)
  generalize hAe : va_A (cw cy ad aw σ J) s.heap.size = A at hD hC ⊢
  have hA : ∀ q : Nat, s.heap.size ≤ q → A q := fun q h => by rw [← hAe]; exact Or.inr h
  have hS : va_S A s.heap s.heap [] := va_S.rf
  have hl := lv_entry ([.ref (ad (21 + a)), .ref (aw 7), .int (v)]) (n := 3) (Nat.le_of_ble_eq_true rfl)
  rw [lg_entry_eq]
  generalize (lg_sl ([.ref (ad (21 + a)), .ref (aw 7), .int (v)]) ++ List.replicate (3 - (lg_sl ([.ref (ad (21 + a)), .ref (aw 7), .int (v)])).length) Slot.unset).toArray = ls at hl ⊢
  have hl : lv_has ls 3 [(0, .ref (ad (21 + a))), (1, .ref (aw 7)), (2, .int (v))] := hl
  refine lv_aload_n hx hb dX3_change_0 rfl (lv_at hl 1 rfl) ?_
  refine va_gets hx hb (hC.1 5 (by decide)).1 hS hown (hts _ flX3_94) (fun _ h => h) dX3_change_1 ?_
  refine lk_acmp_ne (tgt := 15) hx hb dX3_change_4 (by decide) (hC.ne (by decide) (by decide) (by decide)) ?_
  refine lv_aload_n hx hb dX3_change_15 rfl (lv_at hl 1 rfl) ?_
  refine va_gets hx hb (hC.1 6 (by decide)).1 hS hown (hts _ flX3_100) (fun _ h => h) dX3_change_16 ?_
  refine lk_acmp_ne (tgt := 30) hx hb dX3_change_19 (by decide) (hC.ne (by decide) (by decide) (by decide)) ?_
  refine lv_aload_n hx hb dX3_change_30 rfl (lv_at hl 1 rfl) ?_
  refine va_gets hx hb (hC.1 7 (by decide)).1 hS hown (hts _ flX3_106) (fun _ h => h) dX3_change_31 ?_
  refine lk_acmp_eq (tgt := 42) hx hb dX3_change_34 (by decide) ?_
  refine lv_aload_n hx hb dX3_change_37 rfl (lv_at hl 0 rfl) ?_
  refine lv_iconst (v := nI 1) hx hb dX3_change_38 (by decide) ?_
  refine ln_put (ci := 8) (C := RX8) (T := TX8) (N := 6) (ty := .boolean) (v := .int (nI (1))) hx hb hts ni8 tyX8 tyX8_ok nmX8 hown hK hP hD hS (21 + a) (cw_thing cy ad aw σ J (t := a) (by omega)) rfl 5 (by decide) (hts _ flX3_109) (fun _ h => h) rfl (by decide +kernel) rfl rfl (Nat.le_of_ble_eq_true rfl) (cp_thing_5 cy ad aw σ J 1 (t := a) (by omega)) dX3_change_39 (fun H locs hP hD hS => ?_)
  exact rw_v hx hb hr hlocks hS () (trivial) hP dX3_change_42
def wfV (σ : Sg) : Prop := s_n σ ≤ 8 ∧ wfT (s_th σ) ∧ s_of σ < 256
theorem pd_hatV {σ : Sg} {t : Nat} (c : (decide (s_th σ (6 * t) < 2) && !(s_of σ).testBit t) = true) : s_th σ (6 * t + 1) + s_th σ (6 * t + 3) = pd σ (s_of σ) t := by
  rw [Bool.and_eq_true, Bool.not_eq_true'] at c
  rw [pd, c.2]; rfl
theorem pd_nohatV {σ : Sg} (hw : wfV σ) {t : Nat} (ht : t < s_n σ) (c : (decide (s_th σ (6 * t) < 2) && !(s_of σ).testBit t) = false) : s_th σ (6 * t + 1) + 0 = pd σ (s_of σ) t := by
  have h1 := hw.2.1 t (by have := hw.1; omega)
  unfold pd
  cases hq : (s_of σ).testBit t with
  | true => rfl
  | false =>
    rw [hq] at c
    have : ¬ s_th σ (6 * t) < 2 := fun r => by rw [decide_eq_true r] at c; cases c
    rw [h1.2.2.2.2.2.2 (by omega)]; rfl
set_option maxHeartbeats 4000000 in
set_option maxRecDepth 100000 in
theorem k_hasThingV (l : Launch) (D : va_G) (cy : Nat → ClassId) (ad aw : Nat → Nat) (σ : Sg) (J : Js) (x : Int32) (hw1 : s_n σ ≤ 8) : MR l yX3_hasThing qX3_hasThing 0 [.ref (ad 3), .int (x)] D cy (cw cy ad aw σ J) (bI (isIx (s_n σ) x)) := by
  refine Met.ofW (cc := cX3_hasThing) (maxL := 2) (ret := (some .boolean)) (by decide) rfl ?_
  intro p e s m args below meth c s₁ B hml hv
  obtain ⟨rfl, hP, hK, hN⟩ := hv
  have hx := B.exec
  have hb := B.bytes
  have hr := B.returns
  have hlocks := B.notSynchronized
  have hts : ∀ cq ∈ tg, cq.before ([.ref (ad 3), .int (x)] : List Value).toArray s = true := fun cq h => atoms_spec (ws := qX3_hasThing) B.pre cq (List.mem_cons_of_mem _ h)
  have hown : s.vm.findClass RX3 = some m.cls := findClass_of_methodNamed B.named
  have hl := lv_entry ([.ref (ad 3), .int (x)]) (n := 2) (Nat.le_of_ble_eq_true rfl)
  rw [lg_entry_eq]
  generalize (lg_sl ([.ref (ad 3), .int (x)]) ++ List.replicate (2 - (lg_sl ([.ref (ad 3), .int (x)])).length) Slot.unset).toArray = ls at hl ⊢
  have hl : lv_has ls 2 [(0, .ref (ad 3)), (1, .int (x))] := hl
  refine lv_iload_n hx hb dX3_hasThing_0 rfl (lv_at hl 1 rfl) ?_
  refine lv_if_lt (tgt := 16) hx hb dX3_hasThing_1 (by decide) (fun c1 => ?_) (fun c1 => ?_)
  · refine lv_iconst (v := nI 0) hx hb dX3_hasThing_16 (by decide) ?_
    refine ln_eq bI_f.symm ?_
    exact rt_z hx hb hr hlocks (by unfold isIx; first | (rw [decide_eq_false (fun q => absurd c1 (Int32.not_lt.mpr q.1))]; done) | (rw [decide_eq_false (fun q => absurd q.2 (Int32.not_lt.mpr c9))]; done) | (rw [decide_eq_true ⟨Int32.not_lt.mp c1, Int32.not_le.mp c9⟩])) dX3_hasThing_17
  · refine lv_iload_n hx hb dX3_hasThing_4 rfl (lv_at hl 1 rfl) ?_
    refine lv_aload_n hx hb dX3_hasThing_5 rfl (lv_at hl 0 rfl) ?_
    refine va_get (D := D) (ci := 3) (v := .int (nI (s_n σ))) (C := RX3) (T := TX3) (N := 9) hx hb hts ni3 hown hK hP 3 (cw_c3 cy ad aw σ J) rfl 3 (by decide) (hts _ flX3_30) (fun _ h => h) rfl dX3_hasThing_6 ?_
    refine lv_icmp_ge (tgt := 16) hx hb dX3_hasThing_9 (by decide) (fun c9 => ?_) (fun c9 => ?_)
    · refine lv_iconst (v := nI 0) hx hb dX3_hasThing_16 (by decide) ?_
      refine ln_eq bI_f.symm ?_
      exact rt_z hx hb hr hlocks (by unfold isIx; first | (rw [decide_eq_false (fun q => absurd c1 (Int32.not_lt.mpr q.1))]; done) | (rw [decide_eq_false (fun q => absurd q.2 (Int32.not_lt.mpr c9))]; done) | (rw [decide_eq_true ⟨Int32.not_lt.mp c1, Int32.not_le.mp c9⟩])) dX3_hasThing_17
    · refine lv_iconst (v := nI 1) hx hb dX3_hasThing_12 (by decide) ?_
      refine lv_goto (tgt := 17) hx hb dX3_hasThing_13 (by decide) ?_
      refine ln_eq bI_t.symm ?_
      exact rt_z hx hb hr hlocks (by unfold isIx; first | (rw [decide_eq_false (fun q => absurd c1 (Int32.not_lt.mpr q.1))]; done) | (rw [decide_eq_false (fun q => absurd q.2 (Int32.not_lt.mpr c9))]; done) | (rw [decide_eq_true ⟨Int32.not_lt.mp c1, Int32.not_le.mp c9⟩])) dX3_hasThing_17
set_option maxHeartbeats 4000000 in
set_option maxRecDepth 100000 in
theorem k_hasHatV (l : Launch) (D : va_G) (cy : Nat → ClassId) (ad aw : Nat → Nat) (σ : Sg) (J : Js) (t : Nat) (hk : s_th σ (6 * t) ≤ 3) (ht : t < 8) : MR l yX8_hasHat qX8_hasHat 1 [.ref (ad (21 + t))] D cy (cw cy ad aw σ J) (bI (decide (s_th σ (6 * t) < 2))) := by
  refine Met.ofW (cc := cX8_hasHat) (maxL := 1) (ret := (some .boolean)) (by decide) rfl ?_
  intro p e s m args below meth c s₁ B hml hv
  obtain ⟨rfl, hP, hK, hN⟩ := hv
  have hx := B.exec
  have hb := B.bytes
  have hr := B.returns
  have hlocks := B.notSynchronized
  have hts : ∀ cq ∈ tg, cq.before ([.ref (ad (21 + t))] : List Value).toArray s = true := fun cq h => atoms_spec (ws := qX8_hasHat) B.pre cq (List.mem_cons_of_mem _ h)
  have hown : s.vm.findClass RX8 = some m.cls := findClass_of_methodNamed B.named
  have hl := lv_entry ([.ref (ad (21 + t))]) (n := 1) (Nat.le_of_ble_eq_true rfl)
  rw [lg_entry_eq]
  generalize (lg_sl ([.ref (ad (21 + t))]) ++ List.replicate (1 - (lg_sl ([.ref (ad (21 + t))])).length) Slot.unset).toArray = ls at hl ⊢
  have hl : lv_has ls 1 [(0, .ref (ad (21 + t)))] := hl
  refine lv_aload_n hx hb dX8_hasHat_0 rfl (lv_at hl 0 rfl) ?_
  refine va_get (D := D) (ci := 8) (v := .int (nI (s_th σ (6 * t)))) (C := RX8) (T := TX8) (N := 6) hx hb hts ni8 hown hK hP (21 + t) (cw_thing cy ad aw σ J (t := t) (by omega)) rfl 0 (by decide) (hts _ flX8_9) (fun _ h => h) rfl dX8_hasHat_1 ?_
  refine cr_s (n := 1) (As := [.int (nI (s_th σ (6 * t)))]) (rest := []) ⟨hx, hb, hml, hown, hts⟩ (k_X8_isHatted l (s_th σ (6 * t)) (by omega)) gsX8_31 (by decide +kernel) ⟨Nat.le_of_ble_eq_true rfl, Nat.le_of_ble_eq_true rfl⟩ rfl hl.1 rfl (Nat.le_of_ble_eq_true rfl) dX8_hasHat_4 ⟨Nat.zero_le _, Nat.zero_le _⟩ ?_
  exact rt_z hx hb hr hlocks (rfl) dX8_hasHat_7
set_option maxHeartbeats 4000000 in
set_option maxRecDepth 100000 in
theorem k_hatIsOnV (l : Launch) (D : va_G) (cy : Nat → ClassId) (ad aw : Nat → Nat) (σ : Sg) (J : Js) (t : Nat) (hw : wfV σ) (hj2 : j_wh J = whN σ) (ht : t < s_n σ) : MR l yX3_hatIsOn qX3_hatIsOn 0 [.ref (ad 3), .int (nI (t))] D cy (cw cy ad aw σ J) (bI (decide (s_th σ (6 * t) < 2) && !(s_of σ).testBit t)) := by
  refine Met.ofW (cc := cX3_hatIsOn) (maxL := 2) (ret := (some .boolean)) (by decide) rfl ?_
  intro p e s m args below meth c s₁ B hml hv
  obtain ⟨rfl, hP, hK, hN⟩ := hv
  have hx := B.exec
  have hb := B.bytes
  have hr := B.returns
  have hlocks := B.notSynchronized
  have hts : ∀ cq ∈ tg, cq.before ([.ref (ad 3), .int (nI (t))] : List Value).toArray s = true := fun cq h => atoms_spec (ws := qX3_hatIsOn) B.pre cq (List.mem_cons_of_mem _ h)
  have hown : s.vm.findClass RX3 = some m.cls := findClass_of_methodNamed B.named
  have hl := lv_entry ([.ref (ad 3), .int (nI (t))]) (n := 2) (Nat.le_of_ble_eq_true rfl)
  rw [lg_entry_eq]
  generalize (lg_sl ([.ref (ad 3), .int (nI (t))]) ++ List.replicate (2 - (lg_sl ([.ref (ad 3), .int (nI (t))])).length) Slot.unset).toArray = ls at hl ⊢
  have hl : lv_has ls 2 [(0, .ref (ad 3)), (1, .int (nI (t)))] := hl
  have hw1 := hw.1
  have hp8 := pw_8 hw1
  have hpp := pw_pos (s_n σ)
  have hof := hw.2.2
  have hwh := wc_lt σ hw1
  refine lv_aload_n hx hb dX3_hatIsOn_0 rfl (lv_at hl 0 rfl) ?_
  refine va_get (D := D) (ci := 3) (v := .int (nI (j_wh J))) (C := RX3) (T := TX3) (N := 9) hx hb hts ni3 hown hK hP 3 (cw_c3 cy ad aw σ J) rfl 6 (by decide) (hts _ flX3_40) (fun _ h => h) rfl dX3_hatIsOn_1 ?_
  refine ln_nat (show j_wh J = whN σ from hj2) ?_
  refine lv_aload_n hx hb dX3_hatIsOn_4 rfl (lv_at hl 0 rfl) ?_
  refine va_get (D := D) (ci := 3) (v := .ref (ad 6)) (C := RX3) (T := TX3) (N := 9) hx hb hts ni3 hown hK hP 3 (cw_c3 cy ad aw σ J) rfl 2 (by decide) (hts _ flX3_26) (fun _ h => h) rfl dX3_hatIsOn_5 ?_
  refine va_get (D := D) (ci := 5) (v := .int (nI (s_of σ))) (C := RX5) (T := TX5) (N := 5) hx hb hts ni5 hown hK hP 6 (cw_c6 cy ad aw σ J) rfl 2 (by decide) (hts _ flX3_126) (fun _ h => h) rfl dX3_hatIsOn_8 ?_
  refine lv_iconst (v := -1) hx hb dX3_hatIsOn_11 (by decide) ?_
  refine lv_ixor hx hb dX3_hatIsOn_12 ?_
  refine ln_eq (show ((nI (s_of σ)) ^^^ (-1)) = (nI (s_of σ ^^^ (2 ^ 32 - 1))) from xorm1 _ (by omega)) ?_
  refine ln_iand hx hb dX3_hatIsOn_13 ?_
  refine lv_iload_n hx hb dX3_hatIsOn_14 rfl (lv_at hl 1 rfl) ?_
  refine ln_ishr hx hb dX3_hatIsOn_15 (by omega) (and_lt (by omega)) ?_
  refine lv_iconst (v := nI 1) hx hb dX3_hatIsOn_16 (by decide) ?_
  refine ln_iand hx hb dX3_hatIsOn_17 ?_
  refine lv_iconst (v := nI 1) hx hb dX3_hatIsOn_18 (by decide) ?_
  refine ln_icmp_ne (tgt := 26) hx hb dX3_hatIsOn_19 (by decide) (and1_lt _) (by decide) (fun c19 => ?_) (fun c19 => ?_)
  · refine lv_iconst (v := nI 0) hx hb dX3_hatIsOn_26 (by decide) ?_
    refine ln_eq bI_f.symm ?_
    exact rt_z hx hb hr hlocks (by rw [← hi_of ht hw1]; first | exact (bit_t c19).symm | exact (bit_f c19).symm) dX3_hatIsOn_27
  · refine lv_iconst (v := nI 1) hx hb dX3_hatIsOn_22 (by decide) ?_
    refine lv_goto (tgt := 27) hx hb dX3_hatIsOn_23 (by decide) ?_
    refine ln_eq bI_t.symm ?_
    exact rt_z hx hb hr hlocks (by rw [← hi_of ht hw1]; first | exact (bit_t c19).symm | exact (bit_f c19).symm) dX3_hatIsOn_27
set_option maxHeartbeats 4000000 in
set_option maxRecDepth 100000 in
theorem k_weighAllV (l : Launch) (D : va_G) (cy : Nat → ClassId) (ad aw : Nat → Nat) (σ : Sg) (J : Js)  (hw : wfV σ) (hj2 : j_wh J = whN σ) (hpb : j_pb J 0 = nI 0) : MV l yX3_weighAll qX3_weighAll 1 [.ref (ad 3)] D cy (cw cy ad aw σ J) (fun pb : Nat → Int32 => pbOk σ pb (2 ^ s_n σ)) (fun pb : Nat → Int32 => cw cy ad aw σ (ju_pb J pb)) := by
  intro sz
  refine Met.ofW (cc := cX3_weighAll) (maxL := 4) (ret := none) (by decide) rfl ?_
  intro p e s m args below meth c s₁ B hml hv
  obtain ⟨rfl, rfl, hP, hK, hN, hD0⟩ := hv
  have hx := B.exec
  have hb := B.bytes
  have hr := B.returns
  have hlocks := B.notSynchronized
  have hts : ∀ cq ∈ tg, cq.before ([.ref (ad 3)] : List Value).toArray s = true := fun cq h => atoms_spec (ws := qX3_weighAll) B.pre cq (List.mem_cons_of_mem _ h)
  have hown : s.vm.findClass RX3 = some m.cls := findClass_of_methodNamed B.named
  have hD := hD0.self (sz := s.heap.size)
  generalize hAe : va_A (cw cy ad aw σ J) s.heap.size = A at hD ⊢
  have hA : ∀ q : Nat, s.heap.size ≤ q → A q := fun q h => by rw [← hAe]; exact Or.inr h
  have hS : va_S A s.heap s.heap [] := va_S.rf
  have hl := lv_entry ([.ref (ad 3)]) (n := 4) (Nat.le_of_ble_eq_true rfl)
  rw [lg_entry_eq]
  generalize (lg_sl ([.ref (ad 3)]) ++ List.replicate (4 - (lg_sl ([.ref (ad 3)])).length) Slot.unset).toArray = ls at hl ⊢
  have hl : lv_has ls 4 [(0, .ref (ad 3))] := hl
  have hw1 := hw.1
  have hp8 := pw_8 hw1
  have hpp := pw_pos (s_n σ)
  have hof := hw.2.2
  have hwt := hw.2.1
  refine lv_iconst (v := nI 0) hx hb dX3_weighAll_0 (by decide) ?_
  refine lv_istore_n (lv' := [(1, .int (nI (0))), (0, .ref (ad 3))]) hx hb dX3_weighAll_1 rfl hl (by decide) rfl (fun ls hl => ?_)
  have lp : ∀ (k_lp t : Nat) (ls : Array Slot) (H : Heap) (locs : List Loc) (pb : Nat → Int32), t + k_lp = s_n σ → pbOk σ pb (2 ^ t) → va_P D vwCl (cw cy ad aw σ (ju_pb J pb)) H → va_D A (cw cy ad aw σ (ju_pb J pb)) → va_S A s.heap H locs → lv_has ls 4 [(1, .int (nI (t))), (0, .ref (ad 3))] → W p l e (headSpec qX3_weighAll (rq 1)).room s m ([.ref (ad 3)] : List Value).toArray below meth c H locs 0 0 (MQ below (va_Qv (fun pb : Nat → Int32 => pbOk σ pb (2 ^ s_n σ)) (fun u t => va_P D vwCl ((fun pb : Nat → Int32 => cw cy ad aw σ (ju_pb J pb)) u) t.heap) A) ([.ref (ad 3)] : List Value).toArray s 0 0 A) (F0 m 2 ls []) := by
    intro k_lp
    induction k_lp with
    | zero =>
      intro t ls H locs pb hi_lp hok hP hD hS hl
      have hpt8 := fun q : t < 8 => pw_lt8 q
      have hppt := pw_pos t
      refine lv_iload_n hx hb dX3_weighAll_2 rfl (lv_at hl 0 rfl) ?_
      refine lv_aload_n hx hb dX3_weighAll_3 rfl (lv_at hl 1 rfl) ?_
      refine va_get (D := D) (ci := 3) (v := .int (nI (s_n σ))) (C := RX3) (T := TX3) (N := 9) hx hb hts ni3 hown hK hP 3 (cw_c3 cy ad aw σ (ju_pb J pb)) rfl 3 (by decide) (hts _ flX3_30) (fun _ h => h) rfl dX3_weighAll_4 ?_
      refine ln_icmp_ge (tgt := 81) hx hb dX3_weighAll_7 (by decide) (by omega) (by omega) (fun c7 => ?_) (fun c7 => ?_)
      · exact rw_v hx hb hr hlocks hS pb (by rw [← show t = s_n σ by omega]; exact hok) hP dX3_weighAll_81
      · exact absurd c7 (by omega)
    | succ k_lp ih_lp =>
      intro t ls H locs pb hi_lp hok hP hD hS hl
      have hpt8 := fun q : t < 8 => pw_lt8 q
      have hppt := pw_pos t
      refine lv_iload_n hx hb dX3_weighAll_2 rfl (lv_at hl 0 rfl) ?_
      refine lv_aload_n hx hb dX3_weighAll_3 rfl (lv_at hl 1 rfl) ?_
      refine va_get (D := D) (ci := 3) (v := .int (nI (s_n σ))) (C := RX3) (T := TX3) (N := 9) hx hb hts ni3 hown hK hP 3 (cw_c3 cy ad aw σ (ju_pb J pb)) rfl 3 (by decide) (hts _ flX3_30) (fun _ h => h) rfl dX3_weighAll_4 ?_
      refine ln_icmp_ge (tgt := 81) hx hb dX3_weighAll_7 (by decide) (by omega) (by omega) (fun c7 => ?_) (fun c7 => ?_)
      · exact absurd c7 (by omega)
      · refine lv_aload_n hx hb dX3_weighAll_10 rfl (lv_at hl 1 rfl) ?_
        refine va_get (D := D) (ci := 3) (v := .ref (ad 4)) (C := RX3) (T := TX3) (N := 9) hx hb hts ni3 hown hK hP 3 (cw_c3 cy ad aw σ (ju_pb J pb)) rfl 0 (by decide) (hts _ flX3_11) (fun _ h => h) rfl dX3_weighAll_11 ?_
        refine lv_iload_n hx hb dX3_weighAll_14 rfl (lv_at hl 0 rfl) ?_
        refine ln_aald (x := ad (21 + t)) hx hb hK hP 4 5 (cw_c4 cy ad aw σ (ju_pb J pb)) rfl (by omega) (by decide) rfl dX3_weighAll_15 ?_
        refine va_get (D := D) (ci := 8) (v := .int (nI (s_th σ (6 * t + 1)))) (C := RX8) (T := TX8) (N := 6) hx hb hts ni8 hown hK hP (21 + t) (cw_thing cy ad aw σ (ju_pb J pb) (t := t) (by omega)) rfl 1 (by decide) (hts _ flX3_142) (fun _ h => h) rfl dX3_weighAll_16 ?_
        refine lv_aload_n hx hb dX3_weighAll_19 rfl (lv_at hl 1 rfl) ?_
        refine lv_iload_n hx hb dX3_weighAll_20 rfl (lv_at hl 0 rfl) ?_
        refine cr_v (n := 1) (As := [.int (nI (t))]) (rest := [.int (nI (s_th σ (6 * t + 1)))]) ⟨hx, hb, hml, hown, hts⟩ (k_hatIsOnV l D cy ad aw σ (ju_pb J pb) t hw hj2 (by omega)) gvX3_145 (by decide +kernel) ⟨Nat.le_of_ble_eq_true rfl, Nat.le_of_ble_eq_true rfl⟩ hK hN hP 3 (cw_c3 cy ad aw σ (ju_pb J pb)) rfl rfl hl.1 rfl (Nat.le_of_ble_eq_true rfl) dX3_weighAll_21 ⟨Nat.zero_le _, Nat.zero_le _⟩ ?_
        refine lb_if_eq (tgt := 39) hx hb dX3_weighAll_24 (by decide) (fun c24 => ?_) (fun c24 => ?_)
        · refine lv_iconst (v := nI 0) hx hb dX3_weighAll_39 (by decide) ?_
          refine ln_iadd hx hb dX3_weighAll_40 ?_
          refine ln_nat (show (s_th σ (6 * t + 1)) + 0 = pd σ (s_of σ) t from by first | exact pd_hatV c24 | exact pd_nohatV hw (by omega) c24) ?_
          refine lv_istore_n (lv' := [(2, .int (nI (pd σ (s_of σ) t))), (1, .int (nI (t))), (0, .ref (ad 3))]) hx hb dX3_weighAll_41 rfl hl (by decide) rfl (fun ls hl => ?_)
          refine lv_iconst (v := nI 0) hx hb dX3_weighAll_42 (by decide) ?_
          refine lv_istore_n (lv' := [(3, .int (nI (0))), (2, .int (nI (pd σ (s_of σ) t))), (1, .int (nI (t))), (0, .ref (ad 3))]) hx hb dX3_weighAll_43 rfl hl (by decide) rfl (fun ls hl => ?_)
          have lq : ∀ (k_lq q : Nat) (ls : Array Slot) (H : Heap) (locs : List Loc) (pb : Nat → Int32), q + k_lq = 2 ^ t → pbOk σ pb (2 ^ t + q) → va_P D vwCl (cw cy ad aw σ (ju_pb J pb)) H → va_D A (cw cy ad aw σ (ju_pb J pb)) → va_S A s.heap H locs → lv_has ls 4 [(3, .int (nI (q))), (2, .int (nI (pd σ (s_of σ) t))), (1, .int (nI (t))), (0, .ref (ad 3))] → W p l e (headSpec qX3_weighAll (rq 1)).room s m ([.ref (ad 3)] : List Value).toArray below meth c H locs 0 0 (MQ below (va_Qv (fun pb : Nat → Int32 => pbOk σ pb (2 ^ s_n σ)) (fun u t => va_P D vwCl ((fun pb : Nat → Int32 => cw cy ad aw σ (ju_pb J pb)) u) t.heap) A) ([.ref (ad 3)] : List Value).toArray s 0 0 A) (F0 m 44 ls []) := by
            intro k_lq
            induction k_lq with
            | zero =>
              intro q ls H locs pb hi_lq hok2 hP hD hS hl
              have hpt9 := hpt8 (by omega)
              refine lv_iload_n hx hb dX3_weighAll_44 rfl (lv_at hl 0 rfl) ?_
              have hpt9 := pw_lt8 (k := t) (by omega)
              refine lv_iconst (v := nI 1) hx hb dX3_weighAll_45 (by decide) ?_
              refine lv_iload_n hx hb dX3_weighAll_46 rfl (lv_at hl 2 rfl) ?_
              refine ln_ishl hx hb dX3_weighAll_47 (by omega) (by omega) ?_
              refine ln_icmp_ge (tgt := 75) hx hb dX3_weighAll_48 (by decide) (by omega) (by omega) (fun c48 => ?_) (fun c48 => ?_)
              · refine ln_iinc (lv' := [(1, .int (nI (t + 1))), (3, .int (nI (q))), (2, .int (nI (pd σ (s_of σ) t))), (0, .ref (ad 3))]) hx hb dX3_weighAll_75 hl (k := 2) (n := 1) rfl (by decide) rfl (fun ls hl => ?_)
                refine lv_goto (tgt := 2) hx hb dX3_weighAll_78 (by decide) ?_
                have hl : lv_has ls 4 [(1, .int (nI (t + 1))), (0, .ref (ad 3))] := lv_sub hl [0, 3] rfl
                exact ih_lp (t + 1) ls _ _ pb (by omega) (by have hpt := pw_pos t; rw [Nat.pow_succ, Nat.mul_two]; rw [show q = 2 ^ t by omega] at hok2; exact hok2) hP hD hS hl
              · exact absurd c48 (by omega)
            | succ k_lq ih_lq =>
              intro q ls H locs pb hi_lq hok2 hP hD hS hl
              have hpt9 := hpt8 (by omega)
              refine lv_iload_n hx hb dX3_weighAll_44 rfl (lv_at hl 0 rfl) ?_
              have hpt9 := pw_lt8 (k := t) (by omega)
              refine lv_iconst (v := nI 1) hx hb dX3_weighAll_45 (by decide) ?_
              refine lv_iload_n hx hb dX3_weighAll_46 rfl (lv_at hl 2 rfl) ?_
              refine ln_ishl hx hb dX3_weighAll_47 (by omega) (by omega) ?_
              refine ln_icmp_ge (tgt := 75) hx hb dX3_weighAll_48 (by decide) (by omega) (by omega) (fun c48 => ?_) (fun c48 => ?_)
              · exact absurd c48 (by omega)
              · refine lv_aload_n hx hb dX3_weighAll_51 rfl (lv_at hl 3 rfl) ?_
                refine va_get (D := D) (ci := 3) (v := .ref (ad 7)) (C := RX3) (T := TX3) (N := 9) hx hb hts ni3 hown hK hP 3 (cw_c3 cy ad aw σ (ju_pb J pb)) rfl 8 (by decide) (hts _ flX3_46) (fun _ h => h) rfl dX3_weighAll_52 ?_
                refine lv_iconst (v := nI 1) hx hb dX3_weighAll_55 (by decide) ?_
                refine lv_iload_n hx hb dX3_weighAll_56 rfl (lv_at hl 2 rfl) ?_
                refine ln_ishl hx hb dX3_weighAll_57 (by omega) (by omega) ?_
                refine ln_nat (show 1 * 2 ^ t = 2 ^ t from Nat.one_mul _) ?_
                refine lv_iload_n hx hb dX3_weighAll_58 rfl (lv_at hl 0 rfl) ?_
                refine ln_ior hx hb dX3_weighAll_59 ?_
                refine lv_iload_n hx hb dX3_weighAll_60 rfl (lv_at hl 1 rfl) ?_
                refine lv_aload_n hx hb dX3_weighAll_61 rfl (lv_at hl 3 rfl) ?_
                refine va_get (D := D) (ci := 3) (v := .ref (ad 7)) (C := RX3) (T := TX3) (N := 9) hx hb hts ni3 hown hK hP 3 (cw_c3 cy ad aw σ (ju_pb J pb)) rfl 8 (by decide) (hts _ flX3_46) (fun _ h => h) rfl dX3_weighAll_62 ?_
                refine lv_iload_n hx hb dX3_weighAll_65 rfl (lv_at hl 0 rfl) ?_
                refine ln_iald (v := (pb q)) hx hb hK hP 7 (cw_c7 cy ad aw σ (ju_pb J pb)) (by omega) (by decide) rfl dX3_weighAll_66 ?_
                refine lv_iadd hx hb dX3_weighAll_67 ?_
                have hor : 2 ^ t ||| q < 256 := Nat.or_lt_two_pow (n := 8) (by omega) (by omega)
                refine ln_iast hx hb hK hP hD hS 7 (cw_c7 cy ad aw σ (ju_pb J pb)) (by omega) (by decide) ((cp_7 cy ad aw σ (ju_pb J pb) ((2 ^ t) ||| q) ((nI (pd σ (s_of σ) t)) + (pb q))).trans (congrArg (fun z => cw cy ad aw σ z) (by rw [jc_pb]))) dX3_weighAll_68 (fun H locs hP hD hS => ?_)
                refine ln_iinc (lv' := [(3, .int (nI (q + 1))), (2, .int (nI (pd σ (s_of σ) t))), (1, .int (nI (t))), (0, .ref (ad 3))]) hx hb dX3_weighAll_69 hl (k := 0) (n := 1) rfl (by decide) rfl (fun ls hl => ?_)
                refine lv_goto (tgt := 44) hx hb dX3_weighAll_72 (by decide) ?_
                have hl : lv_has ls 4 [(3, .int (nI (q + 1))), (2, .int (nI (pd σ (s_of σ) t))), (1, .int (nI (t))), (0, .ref (ad 3))] := lv_sub hl [0, 1, 2, 3] rfl
                exact ih_lq (q + 1) ls _ _ _ (by omega) (pbOk_s (by omega) (by omega) hok2) hP hD hS hl
          have hl : lv_has ls 4 [(3, .int (nI (0))), (2, .int (nI (pd σ (s_of σ) t))), (1, .int (nI (t))), (0, .ref (ad 3))] := lv_sub hl [0, 1, 2, 3] rfl
          exact lq (2 ^ t - 0) 0 ls _ _ pb (by omega) hok hP hD hS hl
        · refine lv_aload_n hx hb dX3_weighAll_27 rfl (lv_at hl 1 rfl) ?_
          refine va_get (D := D) (ci := 3) (v := .ref (ad 4)) (C := RX3) (T := TX3) (N := 9) hx hb hts ni3 hown hK hP 3 (cw_c3 cy ad aw σ (ju_pb J pb)) rfl 0 (by decide) (hts _ flX3_11) (fun _ h => h) rfl dX3_weighAll_28 ?_
          refine lv_iload_n hx hb dX3_weighAll_31 rfl (lv_at hl 0 rfl) ?_
          refine ln_aald (x := ad (21 + t)) hx hb hK hP 4 5 (cw_c4 cy ad aw σ (ju_pb J pb)) rfl (by omega) (by decide) rfl dX3_weighAll_32 ?_
          refine va_get (D := D) (ci := 8) (v := .int (nI (s_th σ (6 * t + 3)))) (C := RX8) (T := TX8) (N := 6) hx hb hts ni8 hown hK hP (21 + t) (cw_thing cy ad aw σ (ju_pb J pb) (t := t) (by omega)) rfl 3 (by decide) (hts _ flX3_97) (fun _ h => h) rfl dX3_weighAll_33 ?_
          refine lv_goto (tgt := 40) hx hb dX3_weighAll_36 (by decide) ?_
          refine ln_iadd hx hb dX3_weighAll_40 ?_
          refine ln_nat (show (s_th σ (6 * t + 1)) + (s_th σ (6 * t + 3)) = pd σ (s_of σ) t from by first | exact pd_hatV c24 | exact pd_nohatV hw (by omega) c24) ?_
          refine lv_istore_n (lv' := [(2, .int (nI (pd σ (s_of σ) t))), (1, .int (nI (t))), (0, .ref (ad 3))]) hx hb dX3_weighAll_41 rfl hl (by decide) rfl (fun ls hl => ?_)
          refine lv_iconst (v := nI 0) hx hb dX3_weighAll_42 (by decide) ?_
          refine lv_istore_n (lv' := [(3, .int (nI (0))), (2, .int (nI (pd σ (s_of σ) t))), (1, .int (nI (t))), (0, .ref (ad 3))]) hx hb dX3_weighAll_43 rfl hl (by decide) rfl (fun ls hl => ?_)
          have lq : ∀ (k_lq q : Nat) (ls : Array Slot) (H : Heap) (locs : List Loc) (pb : Nat → Int32), q + k_lq = 2 ^ t → pbOk σ pb (2 ^ t + q) → va_P D vwCl (cw cy ad aw σ (ju_pb J pb)) H → va_D A (cw cy ad aw σ (ju_pb J pb)) → va_S A s.heap H locs → lv_has ls 4 [(3, .int (nI (q))), (2, .int (nI (pd σ (s_of σ) t))), (1, .int (nI (t))), (0, .ref (ad 3))] → W p l e (headSpec qX3_weighAll (rq 1)).room s m ([.ref (ad 3)] : List Value).toArray below meth c H locs 0 0 (MQ below (va_Qv (fun pb : Nat → Int32 => pbOk σ pb (2 ^ s_n σ)) (fun u t => va_P D vwCl ((fun pb : Nat → Int32 => cw cy ad aw σ (ju_pb J pb)) u) t.heap) A) ([.ref (ad 3)] : List Value).toArray s 0 0 A) (F0 m 44 ls []) := by
            intro k_lq
            induction k_lq with
            | zero =>
              intro q ls H locs pb hi_lq hok2 hP hD hS hl
              have hpt9 := hpt8 (by omega)
              refine lv_iload_n hx hb dX3_weighAll_44 rfl (lv_at hl 0 rfl) ?_
              have hpt9 := pw_lt8 (k := t) (by omega)
              refine lv_iconst (v := nI 1) hx hb dX3_weighAll_45 (by decide) ?_
              refine lv_iload_n hx hb dX3_weighAll_46 rfl (lv_at hl 2 rfl) ?_
              refine ln_ishl hx hb dX3_weighAll_47 (by omega) (by omega) ?_
              refine ln_icmp_ge (tgt := 75) hx hb dX3_weighAll_48 (by decide) (by omega) (by omega) (fun c48 => ?_) (fun c48 => ?_)
              · refine ln_iinc (lv' := [(1, .int (nI (t + 1))), (3, .int (nI (q))), (2, .int (nI (pd σ (s_of σ) t))), (0, .ref (ad 3))]) hx hb dX3_weighAll_75 hl (k := 2) (n := 1) rfl (by decide) rfl (fun ls hl => ?_)
                refine lv_goto (tgt := 2) hx hb dX3_weighAll_78 (by decide) ?_
                have hl : lv_has ls 4 [(1, .int (nI (t + 1))), (0, .ref (ad 3))] := lv_sub hl [0, 3] rfl
                exact ih_lp (t + 1) ls _ _ pb (by omega) (by have hpt := pw_pos t; rw [Nat.pow_succ, Nat.mul_two]; rw [show q = 2 ^ t by omega] at hok2; exact hok2) hP hD hS hl
              · exact absurd c48 (by omega)
            | succ k_lq ih_lq =>
              intro q ls H locs pb hi_lq hok2 hP hD hS hl
              have hpt9 := hpt8 (by omega)
              refine lv_iload_n hx hb dX3_weighAll_44 rfl (lv_at hl 0 rfl) ?_
              have hpt9 := pw_lt8 (k := t) (by omega)
              refine lv_iconst (v := nI 1) hx hb dX3_weighAll_45 (by decide) ?_
              refine lv_iload_n hx hb dX3_weighAll_46 rfl (lv_at hl 2 rfl) ?_
              refine ln_ishl hx hb dX3_weighAll_47 (by omega) (by omega) ?_
              refine ln_icmp_ge (tgt := 75) hx hb dX3_weighAll_48 (by decide) (by omega) (by omega) (fun c48 => ?_) (fun c48 => ?_)
              · exact absurd c48 (by omega)
              · refine lv_aload_n hx hb dX3_weighAll_51 rfl (lv_at hl 3 rfl) ?_
                refine va_get (D := D) (ci := 3) (v := .ref (ad 7)) (C := RX3) (T := TX3) (N := 9) hx hb hts ni3 hown hK hP 3 (cw_c3 cy ad aw σ (ju_pb J pb)) rfl 8 (by decide) (hts _ flX3_46) (fun _ h => h) rfl dX3_weighAll_52 ?_
                refine lv_iconst (v := nI 1) hx hb dX3_weighAll_55 (by decide) ?_
                refine lv_iload_n hx hb dX3_weighAll_56 rfl (lv_at hl 2 rfl) ?_
                refine ln_ishl hx hb dX3_weighAll_57 (by omega) (by omega) ?_
                refine ln_nat (show 1 * 2 ^ t = 2 ^ t from Nat.one_mul _) ?_
                refine lv_iload_n hx hb dX3_weighAll_58 rfl (lv_at hl 0 rfl) ?_
                refine ln_ior hx hb dX3_weighAll_59 ?_
                refine lv_iload_n hx hb dX3_weighAll_60 rfl (lv_at hl 1 rfl) ?_
                refine lv_aload_n hx hb dX3_weighAll_61 rfl (lv_at hl 3 rfl) ?_
                refine va_get (D := D) (ci := 3) (v := .ref (ad 7)) (C := RX3) (T := TX3) (N := 9) hx hb hts ni3 hown hK hP 3 (cw_c3 cy ad aw σ (ju_pb J pb)) rfl 8 (by decide) (hts _ flX3_46) (fun _ h => h) rfl dX3_weighAll_62 ?_
                refine lv_iload_n hx hb dX3_weighAll_65 rfl (lv_at hl 0 rfl) ?_
                refine ln_iald (v := (pb q)) hx hb hK hP 7 (cw_c7 cy ad aw σ (ju_pb J pb)) (by omega) (by decide) rfl dX3_weighAll_66 ?_
                refine lv_iadd hx hb dX3_weighAll_67 ?_
                have hor : 2 ^ t ||| q < 256 := Nat.or_lt_two_pow (n := 8) (by omega) (by omega)
                refine ln_iast hx hb hK hP hD hS 7 (cw_c7 cy ad aw σ (ju_pb J pb)) (by omega) (by decide) ((cp_7 cy ad aw σ (ju_pb J pb) ((2 ^ t) ||| q) ((nI (pd σ (s_of σ) t)) + (pb q))).trans (congrArg (fun z => cw cy ad aw σ z) (by rw [jc_pb]))) dX3_weighAll_68 (fun H locs hP hD hS => ?_)
                refine ln_iinc (lv' := [(3, .int (nI (q + 1))), (2, .int (nI (pd σ (s_of σ) t))), (1, .int (nI (t))), (0, .ref (ad 3))]) hx hb dX3_weighAll_69 hl (k := 0) (n := 1) rfl (by decide) rfl (fun ls hl => ?_)
                refine lv_goto (tgt := 44) hx hb dX3_weighAll_72 (by decide) ?_
                have hl : lv_has ls 4 [(3, .int (nI (q + 1))), (2, .int (nI (pd σ (s_of σ) t))), (1, .int (nI (t))), (0, .ref (ad 3))] := lv_sub hl [0, 1, 2, 3] rfl
                exact ih_lq (q + 1) ls _ _ _ (by omega) (pbOk_s (by omega) (by omega) hok2) hP hD hS hl
          have hl : lv_has ls 4 [(3, .int (nI (0))), (2, .int (nI (pd σ (s_of σ) t))), (1, .int (nI (t))), (0, .ref (ad 3))] := lv_sub hl [0, 1, 2, 3] rfl
          exact lq (2 ^ t - 0) 0 ls _ _ pb (by omega) hok hP hD hS hl
  have hl : lv_has ls 4 [(1, .int (nI (0))), (0, .ref (ad 3))] := lv_sub hl [0, 1] rfl
  exact lp (s_n σ - 0) 0 ls _ _ (j_pb J) (by omega) (by intro x hx; rw [show x = 0 from (by have h01 : (2 : Nat) ^ 0 = 1 := rfl; omega), pdA_0]; exact hpb) hP hD hS hl
set_option maxHeartbeats 4000000 in
set_option maxRecDepth 100000 in
theorem k_X3_carryOut (l : Launch) (D : va_G) (cy : Nat → ClassId) (ad aw aS aV aT : Nat → Nat) (σ : Sg) (J : Js) (t k : Nat) (xs : List Nat) (ht : t < 12) (hw8 : s_n σ ≤ 8) (hok : okL σ k xs) (hLJ : LJ J t (k, xs)) : MVC l yX3_carryOut qX3_carryOut 2 [.ref (ad 3), .ref (ad (34 + t))] D cy (cw cy ad aw σ J) aw aS aV aT (fun _ : Unit => True) (fun _ : Unit => cw cy ad aw (doL σ k xs) J) := by
  intro sz
  refine Met.ofW (cc := cX3_carryOut) (maxL := 4) (ret := none) (by decide) rfl ?_
  intro p e s m args below meth c s₁ B hml hv
  obtain ⟨rfl, rfl, hP, hK, hN, hD0, hC⟩ := hv
  have hx := B.exec
  have hb := B.bytes
  have hr := B.returns
  have hlocks := B.notSynchronized
  have hts : ∀ cq ∈ tg, cq.before ([.ref (ad 3), .ref (ad (34 + t))] : List Value).toArray s = true := fun cq h => atoms_spec (ws := qX3_carryOut) B.pre cq (List.mem_cons_of_mem _ h)
  have hown : s.vm.findClass RX3 = some m.cls := findClass_of_methodNamed B.named
  have hD := hD0.self (sz := s.heap.size)
  generalize hAe : va_A (cw cy ad aw σ J) s.heap.size = A at hD hC ⊢
  have hA : ∀ q : Nat, s.heap.size ≤ q → A q := fun q h => by rw [← hAe]; exact Or.inr h
  have hS : va_S A s.heap s.heap [] := va_S.rf
  have hl := lv_entry ([.ref (ad 3), .ref (ad (34 + t))]) (n := 4) (Nat.le_of_ble_eq_true rfl)
  rw [lg_entry_eq]
  generalize (lg_sl ([.ref (ad 3), .ref (ad (34 + t))]) ++ List.replicate (4 - (lg_sl ([.ref (ad 3), .ref (ad (34 + t))])).length) Slot.unset).toArray = ls at hl ⊢
  have hl : lv_has ls 4 [(0, .ref (ad 3)), (1, .ref (ad (34 + t)))] := hl
  have hk11 := hok.1
  rcases (show k = 0 ∨ k = 1 ∨ k = 2 ∨ k = 3 ∨ k = 4 ∨ k = 5 ∨ k = 6 ∨ k = 7 ∨ k = 8 ∨ k = 9 ∨ k = 10 by omega) with rfl | rfl | rfl | rfl | rfl | rfl | rfl | rfl | rfl | rfl | rfl
  · obtain ⟨hn8, a, b, rfl, -⟩ := hok.2.1 (by decide)
    have h0 : j_nb J t 0 = nI a := hLJ.2 0 a rfl
    have h1 : j_nb J t 1 = nI b := hLJ.2 1 b rfl
    have hlw : j_lw J t = some 1 := hLJ.1
    refine lv_aload_n hx hb dX3_carryOut_0 rfl (lv_at hl 1 rfl) ?_
    refine va_get (D := D) (ci := 1) (v := .ref (ad (46 + t))) (C := RX1) (T := TX1) (N := 2) hx hb hts ni1 hown hK hP (34 + t) (cw_line cy ad aw σ J (t := t) (by omega)) rfl 1 (by decide) (hts _ flX3_52) (fun _ h => h) rfl dX3_carryOut_1 ?_
    refine lv_astore_n (lv' := [(2, .ref (ad (46 + t))), (0, .ref (ad 3)), (1, .ref (ad (34 + t)))]) hx hb dX3_carryOut_4 rfl hl (by decide) rfl (fun ls hl => ?_)
    refine lv_aload_n hx hb dX3_carryOut_5 rfl (lv_at hl 2 rfl) ?_
    refine va_get (D := D) (ci := 1) (v := va_re aw (j_lw J t)) (C := RX1) (T := TX1) (N := 2) hx hb hts ni1 hown hK hP (34 + t) (cw_line cy ad aw σ J (t := t) (by omega)) rfl 0 (by decide) (hts _ flX3_57) (fun _ h => h) rfl dX3_carryOut_6 ?_
    refine lx_eq (show va_re aw (j_lw J t) = .ref (aw 1) from by rw [hlw]; rfl) ?_
    refine lv_astore_n (lv' := [(3, .ref (aw 1)), (2, .ref (ad (46 + t))), (0, .ref (ad 3)), (1, .ref (ad (34 + t)))]) hx hb dX3_carryOut_9 rfl hl (by decide) rfl (fun ls hl => ?_)
    refine lv_aload_n hx hb dX3_carryOut_10 rfl (lv_at hl 0 rfl) ?_
    refine va_gets hx hb (hC.1 0 (by decide)).1 hS hown (hts _ flX3_61) (fun _ h => h) dX3_carryOut_11 ?_
    refine lk_acmp_ne (tgt := 30) hx hb dX3_carryOut_14 (by decide) (hC.ne (by decide) (by decide) (by decide)) ?_
    refine lv_aload_n hx hb dX3_carryOut_30 rfl (lv_at hl 0 rfl) ?_
    refine vk_getf (v := .int (nI (0))) hx hb (hC.1 1 (by decide)).2.2.2.1 hS hown (hts _ flX3_66) (fun _ h => h) dX3_carryOut_31 ?_
    refine lv_iconst (v := -1) hx hb dX3_carryOut_34 (by decide) ?_
    refine lv_icmp_eq (tgt := 50) hx hb dX3_carryOut_35 (by decide) (fun c => absurd c (m1_ne _ (by omega))) (fun _ => ?_)
    refine lv_aload_n hx hb dX3_carryOut_38 rfl (lv_at hl 2 rfl) ?_
    refine lv_aload_n hx hb dX3_carryOut_39 rfl (lv_at hl 0 rfl) ?_
    refine vk_getf (v := .int (nI (0))) hx hb (hC.1 1 (by decide)).2.2.2.1 hS hown (hts _ flX3_66) (fun _ h => h) dX3_carryOut_40 ?_
    refine lv_aload_n hx hb dX3_carryOut_43 rfl (lv_at hl 1 rfl) ?_
    refine cr_vv (n := 2) (As := [.int (nI (0)), .ref (ad (46 + t))]) (rest := []) ⟨hx, hb, hml, hown, hts⟩ (k_X3_addThing l D cy ad aw σ J 0 t a b ht hn8 h0 h1) gvX3_69 (by decide +kernel) ⟨Nat.le_of_ble_eq_true rfl, Nat.le_of_ble_eq_true rfl⟩ hK hN hP hD hS hA 3 (cw_c3 cy ad aw σ J) rfl rfl hl.1 rfl (Nat.le_of_ble_eq_true rfl) dX3_carryOut_44 ⟨Nat.zero_le _, Nat.zero_le _⟩ (fun _ => (cw_ad _ _ _ _ _).trans (cw_ad _ _ _ _ _).symm) (fun u1 H locs hpu1 hP hD hS => ?_)
    have hP : va_P D vwCl (cw cy ad aw (doT σ 0 [a, b]) J) H := hP
    have hD : va_D A (cw cy ad aw (doT σ 0 [a, b]) J) := hD
    refine lv_goto (tgt := 95) hx hb dX3_carryOut_47 (by decide) ?_
    exact rw_v hx hb hr hlocks hS () (trivial) (by show va_P D vwCl (cw cy ad aw (doL σ 0 [a, b]) J) _; rw [doL, if_pos (by decide)]; exact hP) dX3_carryOut_95
  · obtain ⟨hn8, a, b, rfl, -⟩ := hok.2.1 (by decide)
    have h0 : j_nb J t 0 = nI a := hLJ.2 0 a rfl
    have h1 : j_nb J t 1 = nI b := hLJ.2 1 b rfl
    have hlw : j_lw J t = some 2 := hLJ.1
    refine lv_aload_n hx hb dX3_carryOut_0 rfl (lv_at hl 1 rfl) ?_
    refine va_get (D := D) (ci := 1) (v := .ref (ad (46 + t))) (C := RX1) (T := TX1) (N := 2) hx hb hts ni1 hown hK hP (34 + t) (cw_line cy ad aw σ J (t := t) (by omega)) rfl 1 (by decide) (hts _ flX3_52) (fun _ h => h) rfl dX3_carryOut_1 ?_
    refine lv_astore_n (lv' := [(2, .ref (ad (46 + t))), (0, .ref (ad 3)), (1, .ref (ad (34 + t)))]) hx hb dX3_carryOut_4 rfl hl (by decide) rfl (fun ls hl => ?_)
    refine lv_aload_n hx hb dX3_carryOut_5 rfl (lv_at hl 2 rfl) ?_
    refine va_get (D := D) (ci := 1) (v := va_re aw (j_lw J t)) (C := RX1) (T := TX1) (N := 2) hx hb hts ni1 hown hK hP (34 + t) (cw_line cy ad aw σ J (t := t) (by omega)) rfl 0 (by decide) (hts _ flX3_57) (fun _ h => h) rfl dX3_carryOut_6 ?_
    refine lx_eq (show va_re aw (j_lw J t) = .ref (aw 2) from by rw [hlw]; rfl) ?_
    refine lv_astore_n (lv' := [(3, .ref (aw 2)), (2, .ref (ad (46 + t))), (0, .ref (ad 3)), (1, .ref (ad (34 + t)))]) hx hb dX3_carryOut_9 rfl hl (by decide) rfl (fun ls hl => ?_)
    refine lv_aload_n hx hb dX3_carryOut_10 rfl (lv_at hl 0 rfl) ?_
    refine va_gets hx hb (hC.1 0 (by decide)).1 hS hown (hts _ flX3_61) (fun _ h => h) dX3_carryOut_11 ?_
    refine lk_acmp_ne (tgt := 30) hx hb dX3_carryOut_14 (by decide) (hC.ne (by decide) (by decide) (by decide)) ?_
    refine lv_aload_n hx hb dX3_carryOut_30 rfl (lv_at hl 0 rfl) ?_
    refine vk_getf (v := .int (nI (1))) hx hb (hC.1 2 (by decide)).2.2.2.1 hS hown (hts _ flX3_66) (fun _ h => h) dX3_carryOut_31 ?_
    refine lv_iconst (v := -1) hx hb dX3_carryOut_34 (by decide) ?_
    refine lv_icmp_eq (tgt := 50) hx hb dX3_carryOut_35 (by decide) (fun c => absurd c (m1_ne _ (by omega))) (fun _ => ?_)
    refine lv_aload_n hx hb dX3_carryOut_38 rfl (lv_at hl 2 rfl) ?_
    refine lv_aload_n hx hb dX3_carryOut_39 rfl (lv_at hl 0 rfl) ?_
    refine vk_getf (v := .int (nI (1))) hx hb (hC.1 2 (by decide)).2.2.2.1 hS hown (hts _ flX3_66) (fun _ h => h) dX3_carryOut_40 ?_
    refine lv_aload_n hx hb dX3_carryOut_43 rfl (lv_at hl 1 rfl) ?_
    refine cr_vv (n := 2) (As := [.int (nI (1)), .ref (ad (46 + t))]) (rest := []) ⟨hx, hb, hml, hown, hts⟩ (k_X3_addThing l D cy ad aw σ J 1 t a b ht hn8 h0 h1) gvX3_69 (by decide +kernel) ⟨Nat.le_of_ble_eq_true rfl, Nat.le_of_ble_eq_true rfl⟩ hK hN hP hD hS hA 3 (cw_c3 cy ad aw σ J) rfl rfl hl.1 rfl (Nat.le_of_ble_eq_true rfl) dX3_carryOut_44 ⟨Nat.zero_le _, Nat.zero_le _⟩ (fun _ => (cw_ad _ _ _ _ _).trans (cw_ad _ _ _ _ _).symm) (fun u2 H locs hpu2 hP hD hS => ?_)
    have hP : va_P D vwCl (cw cy ad aw (doT σ 1 [a, b]) J) H := hP
    have hD : va_D A (cw cy ad aw (doT σ 1 [a, b]) J) := hD
    refine lv_goto (tgt := 95) hx hb dX3_carryOut_47 (by decide) ?_
    exact rw_v hx hb hr hlocks hS () (trivial) (by show va_P D vwCl (cw cy ad aw (doL σ 1 [a, b]) J) _; rw [doL, if_pos (by decide)]; exact hP) dX3_carryOut_95
  · obtain ⟨hn8, a, b, rfl, -⟩ := hok.2.1 (by decide)
    have h0 : j_nb J t 0 = nI a := hLJ.2 0 a rfl
    have h1 : j_nb J t 1 = nI b := hLJ.2 1 b rfl
    have hlw : j_lw J t = some 3 := hLJ.1
    refine lv_aload_n hx hb dX3_carryOut_0 rfl (lv_at hl 1 rfl) ?_
    refine va_get (D := D) (ci := 1) (v := .ref (ad (46 + t))) (C := RX1) (T := TX1) (N := 2) hx hb hts ni1 hown hK hP (34 + t) (cw_line cy ad aw σ J (t := t) (by omega)) rfl 1 (by decide) (hts _ flX3_52) (fun _ h => h) rfl dX3_carryOut_1 ?_
    refine lv_astore_n (lv' := [(2, .ref (ad (46 + t))), (0, .ref (ad 3)), (1, .ref (ad (34 + t)))]) hx hb dX3_carryOut_4 rfl hl (by decide) rfl (fun ls hl => ?_)
    refine lv_aload_n hx hb dX3_carryOut_5 rfl (lv_at hl 2 rfl) ?_
    refine va_get (D := D) (ci := 1) (v := va_re aw (j_lw J t)) (C := RX1) (T := TX1) (N := 2) hx hb hts ni1 hown hK hP (34 + t) (cw_line cy ad aw σ J (t := t) (by omega)) rfl 0 (by decide) (hts _ flX3_57) (fun _ h => h) rfl dX3_carryOut_6 ?_
    refine lx_eq (show va_re aw (j_lw J t) = .ref (aw 3) from by rw [hlw]; rfl) ?_
    refine lv_astore_n (lv' := [(3, .ref (aw 3)), (2, .ref (ad (46 + t))), (0, .ref (ad 3)), (1, .ref (ad (34 + t)))]) hx hb dX3_carryOut_9 rfl hl (by decide) rfl (fun ls hl => ?_)
    refine lv_aload_n hx hb dX3_carryOut_10 rfl (lv_at hl 0 rfl) ?_
    refine va_gets hx hb (hC.1 0 (by decide)).1 hS hown (hts _ flX3_61) (fun _ h => h) dX3_carryOut_11 ?_
    refine lk_acmp_ne (tgt := 30) hx hb dX3_carryOut_14 (by decide) (hC.ne (by decide) (by decide) (by decide)) ?_
    refine lv_aload_n hx hb dX3_carryOut_30 rfl (lv_at hl 0 rfl) ?_
    refine vk_getf (v := .int (nI (2))) hx hb (hC.1 3 (by decide)).2.2.2.1 hS hown (hts _ flX3_66) (fun _ h => h) dX3_carryOut_31 ?_
    refine lv_iconst (v := -1) hx hb dX3_carryOut_34 (by decide) ?_
    refine lv_icmp_eq (tgt := 50) hx hb dX3_carryOut_35 (by decide) (fun c => absurd c (m1_ne _ (by omega))) (fun _ => ?_)
    refine lv_aload_n hx hb dX3_carryOut_38 rfl (lv_at hl 2 rfl) ?_
    refine lv_aload_n hx hb dX3_carryOut_39 rfl (lv_at hl 0 rfl) ?_
    refine vk_getf (v := .int (nI (2))) hx hb (hC.1 3 (by decide)).2.2.2.1 hS hown (hts _ flX3_66) (fun _ h => h) dX3_carryOut_40 ?_
    refine lv_aload_n hx hb dX3_carryOut_43 rfl (lv_at hl 1 rfl) ?_
    refine cr_vv (n := 2) (As := [.int (nI (2)), .ref (ad (46 + t))]) (rest := []) ⟨hx, hb, hml, hown, hts⟩ (k_X3_addThing l D cy ad aw σ J 2 t a b ht hn8 h0 h1) gvX3_69 (by decide +kernel) ⟨Nat.le_of_ble_eq_true rfl, Nat.le_of_ble_eq_true rfl⟩ hK hN hP hD hS hA 3 (cw_c3 cy ad aw σ J) rfl rfl hl.1 rfl (Nat.le_of_ble_eq_true rfl) dX3_carryOut_44 ⟨Nat.zero_le _, Nat.zero_le _⟩ (fun _ => (cw_ad _ _ _ _ _).trans (cw_ad _ _ _ _ _).symm) (fun u3 H locs hpu3 hP hD hS => ?_)
    have hP : va_P D vwCl (cw cy ad aw (doT σ 2 [a, b]) J) H := hP
    have hD : va_D A (cw cy ad aw (doT σ 2 [a, b]) J) := hD
    refine lv_goto (tgt := 95) hx hb dX3_carryOut_47 (by decide) ?_
    exact rw_v hx hb hr hlocks hS () (trivial) (by show va_P D vwCl (cw cy ad aw (doL σ 2 [a, b]) J) _; rw [doL, if_pos (by decide)]; exact hP) dX3_carryOut_95
  · obtain ⟨hn8, a, b, rfl, -⟩ := hok.2.1 (by decide)
    have h0 : j_nb J t 0 = nI a := hLJ.2 0 a rfl
    have h1 : j_nb J t 1 = nI b := hLJ.2 1 b rfl
    have hlw : j_lw J t = some 4 := hLJ.1
    refine lv_aload_n hx hb dX3_carryOut_0 rfl (lv_at hl 1 rfl) ?_
    refine va_get (D := D) (ci := 1) (v := .ref (ad (46 + t))) (C := RX1) (T := TX1) (N := 2) hx hb hts ni1 hown hK hP (34 + t) (cw_line cy ad aw σ J (t := t) (by omega)) rfl 1 (by decide) (hts _ flX3_52) (fun _ h => h) rfl dX3_carryOut_1 ?_
    refine lv_astore_n (lv' := [(2, .ref (ad (46 + t))), (0, .ref (ad 3)), (1, .ref (ad (34 + t)))]) hx hb dX3_carryOut_4 rfl hl (by decide) rfl (fun ls hl => ?_)
    refine lv_aload_n hx hb dX3_carryOut_5 rfl (lv_at hl 2 rfl) ?_
    refine va_get (D := D) (ci := 1) (v := va_re aw (j_lw J t)) (C := RX1) (T := TX1) (N := 2) hx hb hts ni1 hown hK hP (34 + t) (cw_line cy ad aw σ J (t := t) (by omega)) rfl 0 (by decide) (hts _ flX3_57) (fun _ h => h) rfl dX3_carryOut_6 ?_
    refine lx_eq (show va_re aw (j_lw J t) = .ref (aw 4) from by rw [hlw]; rfl) ?_
    refine lv_astore_n (lv' := [(3, .ref (aw 4)), (2, .ref (ad (46 + t))), (0, .ref (ad 3)), (1, .ref (ad (34 + t)))]) hx hb dX3_carryOut_9 rfl hl (by decide) rfl (fun ls hl => ?_)
    refine lv_aload_n hx hb dX3_carryOut_10 rfl (lv_at hl 0 rfl) ?_
    refine va_gets hx hb (hC.1 0 (by decide)).1 hS hown (hts _ flX3_61) (fun _ h => h) dX3_carryOut_11 ?_
    refine lk_acmp_ne (tgt := 30) hx hb dX3_carryOut_14 (by decide) (hC.ne (by decide) (by decide) (by decide)) ?_
    refine lv_aload_n hx hb dX3_carryOut_30 rfl (lv_at hl 0 rfl) ?_
    refine vk_getf (v := .int (nI (3))) hx hb (hC.1 4 (by decide)).2.2.2.1 hS hown (hts _ flX3_66) (fun _ h => h) dX3_carryOut_31 ?_
    refine lv_iconst (v := -1) hx hb dX3_carryOut_34 (by decide) ?_
    refine lv_icmp_eq (tgt := 50) hx hb dX3_carryOut_35 (by decide) (fun c => absurd c (m1_ne _ (by omega))) (fun _ => ?_)
    refine lv_aload_n hx hb dX3_carryOut_38 rfl (lv_at hl 2 rfl) ?_
    refine lv_aload_n hx hb dX3_carryOut_39 rfl (lv_at hl 0 rfl) ?_
    refine vk_getf (v := .int (nI (3))) hx hb (hC.1 4 (by decide)).2.2.2.1 hS hown (hts _ flX3_66) (fun _ h => h) dX3_carryOut_40 ?_
    refine lv_aload_n hx hb dX3_carryOut_43 rfl (lv_at hl 1 rfl) ?_
    refine cr_vv (n := 2) (As := [.int (nI (3)), .ref (ad (46 + t))]) (rest := []) ⟨hx, hb, hml, hown, hts⟩ (k_X3_addThing l D cy ad aw σ J 3 t a b ht hn8 h0 h1) gvX3_69 (by decide +kernel) ⟨Nat.le_of_ble_eq_true rfl, Nat.le_of_ble_eq_true rfl⟩ hK hN hP hD hS hA 3 (cw_c3 cy ad aw σ J) rfl rfl hl.1 rfl (Nat.le_of_ble_eq_true rfl) dX3_carryOut_44 ⟨Nat.zero_le _, Nat.zero_le _⟩ (fun _ => (cw_ad _ _ _ _ _).trans (cw_ad _ _ _ _ _).symm) (fun u4 H locs hpu4 hP hD hS => ?_)
    have hP : va_P D vwCl (cw cy ad aw (doT σ 3 [a, b]) J) H := hP
    have hD : va_D A (cw cy ad aw (doT σ 3 [a, b]) J) := hD
    refine lv_goto (tgt := 95) hx hb dX3_carryOut_47 (by decide) ?_
    exact rw_v hx hb hr hlocks hS () (trivial) (by show va_P D vwCl (cw cy ad aw (doL σ 3 [a, b]) J) _; rw [doL, if_pos (by decide)]; exact hP) dX3_carryOut_95
  · obtain ⟨hm3, a, b, c1, d1, rfl, -⟩ := hok.2.2.1 (by decide) (by decide)
    have h0 : j_nb J t 0 = nI a := hLJ.2 0 a rfl
    have h1 : j_nb J t 1 = nI b := hLJ.2 1 b rfl
    have h2 : j_nb J t 2 = nI c1 := hLJ.2 2 c1 rfl
    have h3 : j_nb J t 3 = nI d1 := hLJ.2 3 d1 rfl
    have hlw : j_lw J t = some 8 := hLJ.1
    refine lv_aload_n hx hb dX3_carryOut_0 rfl (lv_at hl 1 rfl) ?_
    refine va_get (D := D) (ci := 1) (v := .ref (ad (46 + t))) (C := RX1) (T := TX1) (N := 2) hx hb hts ni1 hown hK hP (34 + t) (cw_line cy ad aw σ J (t := t) (by omega)) rfl 1 (by decide) (hts _ flX3_52) (fun _ h => h) rfl dX3_carryOut_1 ?_
    refine lv_astore_n (lv' := [(2, .ref (ad (46 + t))), (0, .ref (ad 3)), (1, .ref (ad (34 + t)))]) hx hb dX3_carryOut_4 rfl hl (by decide) rfl (fun ls hl => ?_)
    refine lv_aload_n hx hb dX3_carryOut_5 rfl (lv_at hl 2 rfl) ?_
    refine va_get (D := D) (ci := 1) (v := va_re aw (j_lw J t)) (C := RX1) (T := TX1) (N := 2) hx hb hts ni1 hown hK hP (34 + t) (cw_line cy ad aw σ J (t := t) (by omega)) rfl 0 (by decide) (hts _ flX3_57) (fun _ h => h) rfl dX3_carryOut_6 ?_
    refine lx_eq (show va_re aw (j_lw J t) = .ref (aw 8) from by rw [hlw]; rfl) ?_
    refine lv_astore_n (lv' := [(3, .ref (aw 8)), (2, .ref (ad (46 + t))), (0, .ref (ad 3)), (1, .ref (ad (34 + t)))]) hx hb dX3_carryOut_9 rfl hl (by decide) rfl (fun ls hl => ?_)
    refine lv_aload_n hx hb dX3_carryOut_10 rfl (lv_at hl 0 rfl) ?_
    refine va_gets hx hb (hC.1 0 (by decide)).1 hS hown (hts _ flX3_61) (fun _ h => h) dX3_carryOut_11 ?_
    refine lk_acmp_ne (tgt := 30) hx hb dX3_carryOut_14 (by decide) (hC.ne (by decide) (by decide) (by decide)) ?_
    refine lv_aload_n hx hb dX3_carryOut_30 rfl (lv_at hl 0 rfl) ?_
    refine vk_getf (v := .int (-1)) hx hb (hC.1 8 (by decide)).2.2.2.1 hS hown (hts _ flX3_66) (fun _ h => h) dX3_carryOut_31 ?_
    refine lv_iconst (v := -1) hx hb dX3_carryOut_34 (by decide) ?_
    refine lv_icmp_eq (tgt := 50) hx hb dX3_carryOut_35 (by decide) (fun _ => ?_) (fun c => absurd rfl c)
    refine lv_aload_n hx hb dX3_carryOut_50 rfl (lv_at hl 0 rfl) ?_
    refine vk_getf (v := .int (nI (0))) hx hb (hC.1 8 (by decide)).2.2.2.2 hS hown (hts _ flX3_73) (fun _ h => h) dX3_carryOut_51 ?_
    refine lv_iconst (v := -1) hx hb dX3_carryOut_54 (by decide) ?_
    refine lv_icmp_eq (tgt := 70) hx hb dX3_carryOut_55 (by decide) (fun c => absurd c (m1_ne _ (by omega))) (fun _ => ?_)
    refine lv_aload_n hx hb dX3_carryOut_58 rfl (lv_at hl 2 rfl) ?_
    refine lv_aload_n hx hb dX3_carryOut_59 rfl (lv_at hl 0 rfl) ?_
    refine vk_getf (v := .int (nI (0))) hx hb (hC.1 8 (by decide)).2.2.2.2 hS hown (hts _ flX3_73) (fun _ h => h) dX3_carryOut_60 ?_
    refine lv_aload_n hx hb dX3_carryOut_63 rfl (lv_at hl 1 rfl) ?_
    refine cr_vv (n := 2) (As := [.int (nI (0)), .ref (ad (46 + t))]) (rest := []) ⟨hx, hb, hml, hown, hts⟩ (k_X3_addFerry l D cy ad aw σ J 0 t a b c1 d1 ht hm3 h0 h1 h2 h3) gvX3_76 (by decide +kernel) ⟨Nat.le_of_ble_eq_true rfl, Nat.le_of_ble_eq_true rfl⟩ hK hN hP hD hS hA 3 (cw_c3 cy ad aw σ J) rfl rfl hl.1 rfl (Nat.le_of_ble_eq_true rfl) dX3_carryOut_64 ⟨Nat.zero_le _, Nat.zero_le _⟩ (fun _ => (cw_ad _ _ _ _ _).trans (cw_ad _ _ _ _ _).symm) (fun u5 H locs hpu5 hP hD hS => ?_)
    have hP : va_P D vwCl (cw cy ad aw (doF σ (0 + 4) [a, b, c1, d1]) J) H := hP
    have hD : va_D A (cw cy ad aw (doF σ (0 + 4) [a, b, c1, d1]) J) := hD
    refine lv_goto (tgt := 95) hx hb dX3_carryOut_67 (by decide) ?_
    exact rw_v hx hb hr hlocks hS () (trivial) (by show va_P D vwCl (cw cy ad aw (doL σ 4 [a, b, c1, d1]) J) _; rw [doL, if_neg (by decide), if_pos (by decide)]; exact hP) dX3_carryOut_95
  · obtain ⟨hm3, a, b, c1, d1, rfl, -⟩ := hok.2.2.1 (by decide) (by decide)
    have h0 : j_nb J t 0 = nI a := hLJ.2 0 a rfl
    have h1 : j_nb J t 1 = nI b := hLJ.2 1 b rfl
    have h2 : j_nb J t 2 = nI c1 := hLJ.2 2 c1 rfl
    have h3 : j_nb J t 3 = nI d1 := hLJ.2 3 d1 rfl
    have hlw : j_lw J t = some 9 := hLJ.1
    refine lv_aload_n hx hb dX3_carryOut_0 rfl (lv_at hl 1 rfl) ?_
    refine va_get (D := D) (ci := 1) (v := .ref (ad (46 + t))) (C := RX1) (T := TX1) (N := 2) hx hb hts ni1 hown hK hP (34 + t) (cw_line cy ad aw σ J (t := t) (by omega)) rfl 1 (by decide) (hts _ flX3_52) (fun _ h => h) rfl dX3_carryOut_1 ?_
    refine lv_astore_n (lv' := [(2, .ref (ad (46 + t))), (0, .ref (ad 3)), (1, .ref (ad (34 + t)))]) hx hb dX3_carryOut_4 rfl hl (by decide) rfl (fun ls hl => ?_)
    refine lv_aload_n hx hb dX3_carryOut_5 rfl (lv_at hl 2 rfl) ?_
    refine va_get (D := D) (ci := 1) (v := va_re aw (j_lw J t)) (C := RX1) (T := TX1) (N := 2) hx hb hts ni1 hown hK hP (34 + t) (cw_line cy ad aw σ J (t := t) (by omega)) rfl 0 (by decide) (hts _ flX3_57) (fun _ h => h) rfl dX3_carryOut_6 ?_
    refine lx_eq (show va_re aw (j_lw J t) = .ref (aw 9) from by rw [hlw]; rfl) ?_
    refine lv_astore_n (lv' := [(3, .ref (aw 9)), (2, .ref (ad (46 + t))), (0, .ref (ad 3)), (1, .ref (ad (34 + t)))]) hx hb dX3_carryOut_9 rfl hl (by decide) rfl (fun ls hl => ?_)
    refine lv_aload_n hx hb dX3_carryOut_10 rfl (lv_at hl 0 rfl) ?_
    refine va_gets hx hb (hC.1 0 (by decide)).1 hS hown (hts _ flX3_61) (fun _ h => h) dX3_carryOut_11 ?_
    refine lk_acmp_ne (tgt := 30) hx hb dX3_carryOut_14 (by decide) (hC.ne (by decide) (by decide) (by decide)) ?_
    refine lv_aload_n hx hb dX3_carryOut_30 rfl (lv_at hl 0 rfl) ?_
    refine vk_getf (v := .int (-1)) hx hb (hC.1 9 (by decide)).2.2.2.1 hS hown (hts _ flX3_66) (fun _ h => h) dX3_carryOut_31 ?_
    refine lv_iconst (v := -1) hx hb dX3_carryOut_34 (by decide) ?_
    refine lv_icmp_eq (tgt := 50) hx hb dX3_carryOut_35 (by decide) (fun _ => ?_) (fun c => absurd rfl c)
    refine lv_aload_n hx hb dX3_carryOut_50 rfl (lv_at hl 0 rfl) ?_
    refine vk_getf (v := .int (nI (1))) hx hb (hC.1 9 (by decide)).2.2.2.2 hS hown (hts _ flX3_73) (fun _ h => h) dX3_carryOut_51 ?_
    refine lv_iconst (v := -1) hx hb dX3_carryOut_54 (by decide) ?_
    refine lv_icmp_eq (tgt := 70) hx hb dX3_carryOut_55 (by decide) (fun c => absurd c (m1_ne _ (by omega))) (fun _ => ?_)
    refine lv_aload_n hx hb dX3_carryOut_58 rfl (lv_at hl 2 rfl) ?_
    refine lv_aload_n hx hb dX3_carryOut_59 rfl (lv_at hl 0 rfl) ?_
    refine vk_getf (v := .int (nI (1))) hx hb (hC.1 9 (by decide)).2.2.2.2 hS hown (hts _ flX3_73) (fun _ h => h) dX3_carryOut_60 ?_
    refine lv_aload_n hx hb dX3_carryOut_63 rfl (lv_at hl 1 rfl) ?_
    refine cr_vv (n := 2) (As := [.int (nI (1)), .ref (ad (46 + t))]) (rest := []) ⟨hx, hb, hml, hown, hts⟩ (k_X3_addFerry l D cy ad aw σ J 1 t a b c1 d1 ht hm3 h0 h1 h2 h3) gvX3_76 (by decide +kernel) ⟨Nat.le_of_ble_eq_true rfl, Nat.le_of_ble_eq_true rfl⟩ hK hN hP hD hS hA 3 (cw_c3 cy ad aw σ J) rfl rfl hl.1 rfl (Nat.le_of_ble_eq_true rfl) dX3_carryOut_64 ⟨Nat.zero_le _, Nat.zero_le _⟩ (fun _ => (cw_ad _ _ _ _ _).trans (cw_ad _ _ _ _ _).symm) (fun u6 H locs hpu6 hP hD hS => ?_)
    have hP : va_P D vwCl (cw cy ad aw (doF σ (1 + 4) [a, b, c1, d1]) J) H := hP
    have hD : va_D A (cw cy ad aw (doF σ (1 + 4) [a, b, c1, d1]) J) := hD
    refine lv_goto (tgt := 95) hx hb dX3_carryOut_67 (by decide) ?_
    exact rw_v hx hb hr hlocks hS () (trivial) (by show va_P D vwCl (cw cy ad aw (doL σ 5 [a, b, c1, d1]) J) _; rw [doL, if_neg (by decide), if_pos (by decide)]; exact hP) dX3_carryOut_95
  · obtain ⟨hm3, a, b, c1, d1, rfl, -⟩ := hok.2.2.1 (by decide) (by decide)
    have h0 : j_nb J t 0 = nI a := hLJ.2 0 a rfl
    have h1 : j_nb J t 1 = nI b := hLJ.2 1 b rfl
    have h2 : j_nb J t 2 = nI c1 := hLJ.2 2 c1 rfl
    have h3 : j_nb J t 3 = nI d1 := hLJ.2 3 d1 rfl
    have hlw : j_lw J t = some 10 := hLJ.1
    refine lv_aload_n hx hb dX3_carryOut_0 rfl (lv_at hl 1 rfl) ?_
    refine va_get (D := D) (ci := 1) (v := .ref (ad (46 + t))) (C := RX1) (T := TX1) (N := 2) hx hb hts ni1 hown hK hP (34 + t) (cw_line cy ad aw σ J (t := t) (by omega)) rfl 1 (by decide) (hts _ flX3_52) (fun _ h => h) rfl dX3_carryOut_1 ?_
    refine lv_astore_n (lv' := [(2, .ref (ad (46 + t))), (0, .ref (ad 3)), (1, .ref (ad (34 + t)))]) hx hb dX3_carryOut_4 rfl hl (by decide) rfl (fun ls hl => ?_)
    refine lv_aload_n hx hb dX3_carryOut_5 rfl (lv_at hl 2 rfl) ?_
    refine va_get (D := D) (ci := 1) (v := va_re aw (j_lw J t)) (C := RX1) (T := TX1) (N := 2) hx hb hts ni1 hown hK hP (34 + t) (cw_line cy ad aw σ J (t := t) (by omega)) rfl 0 (by decide) (hts _ flX3_57) (fun _ h => h) rfl dX3_carryOut_6 ?_
    refine lx_eq (show va_re aw (j_lw J t) = .ref (aw 10) from by rw [hlw]; rfl) ?_
    refine lv_astore_n (lv' := [(3, .ref (aw 10)), (2, .ref (ad (46 + t))), (0, .ref (ad 3)), (1, .ref (ad (34 + t)))]) hx hb dX3_carryOut_9 rfl hl (by decide) rfl (fun ls hl => ?_)
    refine lv_aload_n hx hb dX3_carryOut_10 rfl (lv_at hl 0 rfl) ?_
    refine va_gets hx hb (hC.1 0 (by decide)).1 hS hown (hts _ flX3_61) (fun _ h => h) dX3_carryOut_11 ?_
    refine lk_acmp_ne (tgt := 30) hx hb dX3_carryOut_14 (by decide) (hC.ne (by decide) (by decide) (by decide)) ?_
    refine lv_aload_n hx hb dX3_carryOut_30 rfl (lv_at hl 0 rfl) ?_
    refine vk_getf (v := .int (-1)) hx hb (hC.1 10 (by decide)).2.2.2.1 hS hown (hts _ flX3_66) (fun _ h => h) dX3_carryOut_31 ?_
    refine lv_iconst (v := -1) hx hb dX3_carryOut_34 (by decide) ?_
    refine lv_icmp_eq (tgt := 50) hx hb dX3_carryOut_35 (by decide) (fun _ => ?_) (fun c => absurd rfl c)
    refine lv_aload_n hx hb dX3_carryOut_50 rfl (lv_at hl 0 rfl) ?_
    refine vk_getf (v := .int (nI (2))) hx hb (hC.1 10 (by decide)).2.2.2.2 hS hown (hts _ flX3_73) (fun _ h => h) dX3_carryOut_51 ?_
    refine lv_iconst (v := -1) hx hb dX3_carryOut_54 (by decide) ?_
    refine lv_icmp_eq (tgt := 70) hx hb dX3_carryOut_55 (by decide) (fun c => absurd c (m1_ne _ (by omega))) (fun _ => ?_)
    refine lv_aload_n hx hb dX3_carryOut_58 rfl (lv_at hl 2 rfl) ?_
    refine lv_aload_n hx hb dX3_carryOut_59 rfl (lv_at hl 0 rfl) ?_
    refine vk_getf (v := .int (nI (2))) hx hb (hC.1 10 (by decide)).2.2.2.2 hS hown (hts _ flX3_73) (fun _ h => h) dX3_carryOut_60 ?_
    refine lv_aload_n hx hb dX3_carryOut_63 rfl (lv_at hl 1 rfl) ?_
    refine cr_vv (n := 2) (As := [.int (nI (2)), .ref (ad (46 + t))]) (rest := []) ⟨hx, hb, hml, hown, hts⟩ (k_X3_addFerry l D cy ad aw σ J 2 t a b c1 d1 ht hm3 h0 h1 h2 h3) gvX3_76 (by decide +kernel) ⟨Nat.le_of_ble_eq_true rfl, Nat.le_of_ble_eq_true rfl⟩ hK hN hP hD hS hA 3 (cw_c3 cy ad aw σ J) rfl rfl hl.1 rfl (Nat.le_of_ble_eq_true rfl) dX3_carryOut_64 ⟨Nat.zero_le _, Nat.zero_le _⟩ (fun _ => (cw_ad _ _ _ _ _).trans (cw_ad _ _ _ _ _).symm) (fun u7 H locs hpu7 hP hD hS => ?_)
    have hP : va_P D vwCl (cw cy ad aw (doF σ (2 + 4) [a, b, c1, d1]) J) H := hP
    have hD : va_D A (cw cy ad aw (doF σ (2 + 4) [a, b, c1, d1]) J) := hD
    refine lv_goto (tgt := 95) hx hb dX3_carryOut_67 (by decide) ?_
    exact rw_v hx hb hr hlocks hS () (trivial) (by show va_P D vwCl (cw cy ad aw (doL σ 6 [a, b, c1, d1]) J) _; rw [doL, if_neg (by decide), if_pos (by decide)]; exact hP) dX3_carryOut_95
  · have hxs := hok.2.2.2.1 rfl
    subst hxs
    have hlw : j_lw J t = some 0 := hLJ.1
    refine lv_aload_n hx hb dX3_carryOut_0 rfl (lv_at hl 1 rfl) ?_
    refine va_get (D := D) (ci := 1) (v := .ref (ad (46 + t))) (C := RX1) (T := TX1) (N := 2) hx hb hts ni1 hown hK hP (34 + t) (cw_line cy ad aw σ J (t := t) (by omega)) rfl 1 (by decide) (hts _ flX3_52) (fun _ h => h) rfl dX3_carryOut_1 ?_
    refine lv_astore_n (lv' := [(2, .ref (ad (46 + t))), (0, .ref (ad 3)), (1, .ref (ad (34 + t)))]) hx hb dX3_carryOut_4 rfl hl (by decide) rfl (fun ls hl => ?_)
    refine lv_aload_n hx hb dX3_carryOut_5 rfl (lv_at hl 2 rfl) ?_
    refine va_get (D := D) (ci := 1) (v := va_re aw (j_lw J t)) (C := RX1) (T := TX1) (N := 2) hx hb hts ni1 hown hK hP (34 + t) (cw_line cy ad aw σ J (t := t) (by omega)) rfl 0 (by decide) (hts _ flX3_57) (fun _ h => h) rfl dX3_carryOut_6 ?_
    refine lx_eq (show va_re aw (j_lw J t) = .ref (aw 0) from by rw [hlw]; rfl) ?_
    refine lv_astore_n (lv' := [(3, .ref (aw 0)), (2, .ref (ad (46 + t))), (0, .ref (ad 3)), (1, .ref (ad (34 + t)))]) hx hb dX3_carryOut_9 rfl hl (by decide) rfl (fun ls hl => ?_)
    refine lv_aload_n hx hb dX3_carryOut_10 rfl (lv_at hl 0 rfl) ?_
    refine va_gets hx hb (hC.1 0 (by decide)).1 hS hown (hts _ flX3_61) (fun _ h => h) dX3_carryOut_11 ?_
    refine lk_acmp_eq (tgt := 30) hx hb dX3_carryOut_14 (by decide) ?_
    refine lv_aload_n hx hb dX3_carryOut_17 rfl (lv_at hl 2 rfl) ?_
    refine lv_iconst (v := nI 0) hx hb dX3_carryOut_18 (by decide) ?_
    refine ln_put (ci := 3) (C := RX3) (T := TX3) (N := 9) (ty := .int) (v := .int (nI (0))) hx hb hts ni3 tyX3 tyX3_ok nmX3 hown hK hP hD hS 3 (cw_c3 cy ad aw σ J) rfl 3 (by decide) (hts _ flX3_30) (fun _ h => h) rfl (by decide +kernel) rfl rfl (Nat.le_of_ble_eq_true rfl) (cp_3_3 cy ad aw σ J 0) dX3_carryOut_19 (fun H locs hP hD hS => ?_)
    refine lv_aload_n hx hb dX3_carryOut_22 rfl (lv_at hl 2 rfl) ?_
    refine lv_iconst (v := nI 0) hx hb dX3_carryOut_23 (by decide) ?_
    refine ln_put (ci := 3) (C := RX3) (T := TX3) (N := 9) (ty := .int) (v := .int (nI (0))) hx hb hts ni3 tyX3 tyX3_ok nmX3 hown hK hP hD hS 3 (cw_c3 cy ad aw (su_n σ 0) J) rfl 4 (by decide) (hts _ flX3_34) (fun _ h => h) rfl (by decide +kernel) rfl rfl (Nat.le_of_ble_eq_true rfl) (cp_3_4 cy ad aw (su_n σ 0) J 0) dX3_carryOut_24 (fun H locs hP hD hS => ?_)
    refine lv_goto (tgt := 95) hx hb dX3_carryOut_27 (by decide) ?_
    exact rw_v hx hb hr hlocks hS () (trivial) (by show va_P D vwCl (cw cy ad aw (doL σ 7 []) J) _; rw [doL, if_neg (by decide), if_neg (by decide), if_pos rfl]; exact hP) dX3_carryOut_95
  · obtain ⟨a, b, rfl, hlt, -⟩ := hok.2.2.2.2.1 rfl
    have h0 : j_nb J t 0 = nI a := hLJ.2 0 a rfl
    have h1 : j_nb J t 1 = nI b := hLJ.2 1 b rfl
    have hlw : j_lw J t = some 5 := hLJ.1
    refine lv_aload_n hx hb dX3_carryOut_0 rfl (lv_at hl 1 rfl) ?_
    refine va_get (D := D) (ci := 1) (v := .ref (ad (46 + t))) (C := RX1) (T := TX1) (N := 2) hx hb hts ni1 hown hK hP (34 + t) (cw_line cy ad aw σ J (t := t) (by omega)) rfl 1 (by decide) (hts _ flX3_52) (fun _ h => h) rfl dX3_carryOut_1 ?_
    refine lv_astore_n (lv' := [(2, .ref (ad (46 + t))), (0, .ref (ad 3)), (1, .ref (ad (34 + t)))]) hx hb dX3_carryOut_4 rfl hl (by decide) rfl (fun ls hl => ?_)
    refine lv_aload_n hx hb dX3_carryOut_5 rfl (lv_at hl 2 rfl) ?_
    refine va_get (D := D) (ci := 1) (v := va_re aw (j_lw J t)) (C := RX1) (T := TX1) (N := 2) hx hb hts ni1 hown hK hP (34 + t) (cw_line cy ad aw σ J (t := t) (by omega)) rfl 0 (by decide) (hts _ flX3_57) (fun _ h => h) rfl dX3_carryOut_6 ?_
    refine lx_eq (show va_re aw (j_lw J t) = .ref (aw 5) from by rw [hlw]; rfl) ?_
    refine lv_astore_n (lv' := [(3, .ref (aw 5)), (2, .ref (ad (46 + t))), (0, .ref (ad 3)), (1, .ref (ad (34 + t)))]) hx hb dX3_carryOut_9 rfl hl (by decide) rfl (fun ls hl => ?_)
    refine lv_aload_n hx hb dX3_carryOut_10 rfl (lv_at hl 0 rfl) ?_
    refine va_gets hx hb (hC.1 0 (by decide)).1 hS hown (hts _ flX3_61) (fun _ h => h) dX3_carryOut_11 ?_
    refine lk_acmp_ne (tgt := 30) hx hb dX3_carryOut_14 (by decide) (hC.ne (by decide) (by decide) (by decide)) ?_
    refine lv_aload_n hx hb dX3_carryOut_30 rfl (lv_at hl 0 rfl) ?_
    refine vk_getf (v := .int (-1)) hx hb (hC.1 5 (by decide)).2.2.2.1 hS hown (hts _ flX3_66) (fun _ h => h) dX3_carryOut_31 ?_
    refine lv_iconst (v := -1) hx hb dX3_carryOut_34 (by decide) ?_
    refine lv_icmp_eq (tgt := 50) hx hb dX3_carryOut_35 (by decide) (fun _ => ?_) (fun c => absurd rfl c)
    refine lv_aload_n hx hb dX3_carryOut_50 rfl (lv_at hl 0 rfl) ?_
    refine vk_getf (v := .int (-1)) hx hb (hC.1 5 (by decide)).2.2.2.2 hS hown (hts _ flX3_73) (fun _ h => h) dX3_carryOut_51 ?_
    refine lv_iconst (v := -1) hx hb dX3_carryOut_54 (by decide) ?_
    refine lv_icmp_eq (tgt := 70) hx hb dX3_carryOut_55 (by decide) (fun _ => ?_) (fun c => absurd rfl c)
    refine lv_aload_n hx hb dX3_carryOut_70 rfl (lv_at hl 2 rfl) ?_
    refine lv_aload_n hx hb dX3_carryOut_71 rfl (lv_at hl 1 rfl) ?_
    refine lv_iconst (v := nI 0) hx hb dX3_carryOut_72 (by decide) ?_
    refine ln_iald (v := ((j_nb J t) 0)) hx hb hK hP (46 + t) (cw_nums cy ad aw σ J (t := t) (by omega)) (by omega) (by decide) rfl dX3_carryOut_73 ?_
    refine ln_eq (show ((j_nb J t) 0) = (nI (a)) from h0) ?_
    refine cr_v (n := 1) (As := [.int (nI (a))]) (rest := []) ⟨hx, hb, hml, hown, hts⟩ (k_hasThingV l D cy ad aw σ J (nI (a)) hw8) gvX3_79 (by decide +kernel) ⟨Nat.le_of_ble_eq_true rfl, Nat.le_of_ble_eq_true rfl⟩ hK hN hP 3 (cw_c3 cy ad aw σ J) rfl rfl hl.1 rfl (Nat.le_of_ble_eq_true rfl) dX3_carryOut_74 ⟨Nat.zero_le _, Nat.zero_le _⟩ ?_
    refine lb_if_eq (tgt := 95) hx hb dX3_carryOut_77 (by decide) (fun c77 => ?_) (fun c77 => ?_)
    · exact absurd c77 (by rw [ix_nI (by omega) (by omega), decide_eq_true hlt]; decide)
    · refine lv_aload_n hx hb dX3_carryOut_80 rfl (lv_at hl 2 rfl) ?_
      refine va_get (D := D) (ci := 3) (v := .ref (ad 4)) (C := RX3) (T := TX3) (N := 9) hx hb hts ni3 hown hK hP 3 (cw_c3 cy ad aw σ J) rfl 0 (by decide) (hts _ flX3_11) (fun _ h => h) rfl dX3_carryOut_81 ?_
      refine lv_aload_n hx hb dX3_carryOut_84 rfl (lv_at hl 1 rfl) ?_
      refine lv_iconst (v := nI 0) hx hb dX3_carryOut_85 (by decide) ?_
      refine ln_iald (v := ((j_nb J t) 0)) hx hb hK hP (46 + t) (cw_nums cy ad aw σ J (t := t) (by omega)) (by omega) (by decide) rfl dX3_carryOut_86 ?_
      refine ln_eq (show ((j_nb J t) 0) = (nI (a)) from h0) ?_
      refine ln_aald (x := ad (21 + a)) hx hb hK hP 4 5 (cw_c4 cy ad aw σ J) rfl (by omega) (by decide) rfl dX3_carryOut_87 ?_
      refine lv_aload_n hx hb dX3_carryOut_88 rfl (lv_at hl 0 rfl) ?_
      refine lv_aload_n hx hb dX3_carryOut_89 rfl (lv_at hl 1 rfl) ?_
      refine lv_iconst (v := nI 1) hx hb dX3_carryOut_90 (by decide) ?_
      refine ln_iald (v := ((j_nb J t) 1)) hx hb hK hP (46 + t) (cw_nums cy ad aw σ J (t := t) (by omega)) (by omega) (by decide) rfl dX3_carryOut_91 ?_
      refine ln_eq (show ((j_nb J t) 1) = (nI (b)) from h1) ?_
      refine kw_sv (n := 3) (As := [.ref (ad (21 + a)), .ref (aw 5), .int (nI (b))]) (rest := []) ⟨hx, hb, hml, hown, hts⟩ (k_change5 l D cy ad aw aS aV aT σ J a b (by omega)) (hts _ mlX3_83) (hts _ smX3_change) (hts _ iniX3) (gc_of cdX3_change) (by decide +kernel) ⟨Nat.le_of_ble_eq_true rfl, Nat.le_of_ble_eq_true rfl⟩ hK hN hP hD hS hA hC rfl hl.1 rfl (Nat.le_of_ble_eq_true rfl) dX3_carryOut_92 ⟨Nat.zero_le _, Nat.zero_le _⟩ (fun _ => (cw_ad _ _ _ _ _).trans (cw_ad _ _ _ _ _).symm) (fun u8 H locs hpu8 hP hD hS => ?_)
      have hP : va_P D vwCl (cw cy ad aw (su_th σ (updN (s_th σ) (6 * a + 3) b)) J) H := hP
      have hD : va_D A (cw cy ad aw (su_th σ (updN (s_th σ) (6 * a + 3) b)) J) := hD
      exact rw_v hx hb hr hlocks hS () (trivial) (by show va_P D vwCl (cw cy ad aw (doL σ 8 [a, b]) J) _; rw [doL, if_neg (by decide), if_neg (by decide), if_neg (by decide), if_pos rfl]; exact hP) dX3_carryOut_95
  · obtain ⟨a, b, rfl, hlt, -⟩ := hok.2.2.2.2.2.1 rfl
    have h0 : j_nb J t 0 = nI a := hLJ.2 0 a rfl
    have h1 : j_nb J t 1 = nI b := hLJ.2 1 b rfl
    have hlw : j_lw J t = some 6 := hLJ.1
    refine lv_aload_n hx hb dX3_carryOut_0 rfl (lv_at hl 1 rfl) ?_
    refine va_get (D := D) (ci := 1) (v := .ref (ad (46 + t))) (C := RX1) (T := TX1) (N := 2) hx hb hts ni1 hown hK hP (34 + t) (cw_line cy ad aw σ J (t := t) (by omega)) rfl 1 (by decide) (hts _ flX3_52) (fun _ h => h) rfl dX3_carryOut_1 ?_
    refine lv_astore_n (lv' := [(2, .ref (ad (46 + t))), (0, .ref (ad 3)), (1, .ref (ad (34 + t)))]) hx hb dX3_carryOut_4 rfl hl (by decide) rfl (fun ls hl => ?_)
    refine lv_aload_n hx hb dX3_carryOut_5 rfl (lv_at hl 2 rfl) ?_
    refine va_get (D := D) (ci := 1) (v := va_re aw (j_lw J t)) (C := RX1) (T := TX1) (N := 2) hx hb hts ni1 hown hK hP (34 + t) (cw_line cy ad aw σ J (t := t) (by omega)) rfl 0 (by decide) (hts _ flX3_57) (fun _ h => h) rfl dX3_carryOut_6 ?_
    refine lx_eq (show va_re aw (j_lw J t) = .ref (aw 6) from by rw [hlw]; rfl) ?_
    refine lv_astore_n (lv' := [(3, .ref (aw 6)), (2, .ref (ad (46 + t))), (0, .ref (ad 3)), (1, .ref (ad (34 + t)))]) hx hb dX3_carryOut_9 rfl hl (by decide) rfl (fun ls hl => ?_)
    refine lv_aload_n hx hb dX3_carryOut_10 rfl (lv_at hl 0 rfl) ?_
    refine va_gets hx hb (hC.1 0 (by decide)).1 hS hown (hts _ flX3_61) (fun _ h => h) dX3_carryOut_11 ?_
    refine lk_acmp_ne (tgt := 30) hx hb dX3_carryOut_14 (by decide) (hC.ne (by decide) (by decide) (by decide)) ?_
    refine lv_aload_n hx hb dX3_carryOut_30 rfl (lv_at hl 0 rfl) ?_
    refine vk_getf (v := .int (-1)) hx hb (hC.1 6 (by decide)).2.2.2.1 hS hown (hts _ flX3_66) (fun _ h => h) dX3_carryOut_31 ?_
    refine lv_iconst (v := -1) hx hb dX3_carryOut_34 (by decide) ?_
    refine lv_icmp_eq (tgt := 50) hx hb dX3_carryOut_35 (by decide) (fun _ => ?_) (fun c => absurd rfl c)
    refine lv_aload_n hx hb dX3_carryOut_50 rfl (lv_at hl 0 rfl) ?_
    refine vk_getf (v := .int (-1)) hx hb (hC.1 6 (by decide)).2.2.2.2 hS hown (hts _ flX3_73) (fun _ h => h) dX3_carryOut_51 ?_
    refine lv_iconst (v := -1) hx hb dX3_carryOut_54 (by decide) ?_
    refine lv_icmp_eq (tgt := 70) hx hb dX3_carryOut_55 (by decide) (fun _ => ?_) (fun c => absurd rfl c)
    refine lv_aload_n hx hb dX3_carryOut_70 rfl (lv_at hl 2 rfl) ?_
    refine lv_aload_n hx hb dX3_carryOut_71 rfl (lv_at hl 1 rfl) ?_
    refine lv_iconst (v := nI 0) hx hb dX3_carryOut_72 (by decide) ?_
    refine ln_iald (v := ((j_nb J t) 0)) hx hb hK hP (46 + t) (cw_nums cy ad aw σ J (t := t) (by omega)) (by omega) (by decide) rfl dX3_carryOut_73 ?_
    refine ln_eq (show ((j_nb J t) 0) = (nI (a)) from h0) ?_
    refine cr_v (n := 1) (As := [.int (nI (a))]) (rest := []) ⟨hx, hb, hml, hown, hts⟩ (k_hasThingV l D cy ad aw σ J (nI (a)) hw8) gvX3_79 (by decide +kernel) ⟨Nat.le_of_ble_eq_true rfl, Nat.le_of_ble_eq_true rfl⟩ hK hN hP 3 (cw_c3 cy ad aw σ J) rfl rfl hl.1 rfl (Nat.le_of_ble_eq_true rfl) dX3_carryOut_74 ⟨Nat.zero_le _, Nat.zero_le _⟩ ?_
    refine lb_if_eq (tgt := 95) hx hb dX3_carryOut_77 (by decide) (fun c77 => ?_) (fun c77 => ?_)
    · exact absurd c77 (by rw [ix_nI (by omega) (by omega), decide_eq_true hlt]; decide)
    · refine lv_aload_n hx hb dX3_carryOut_80 rfl (lv_at hl 2 rfl) ?_
      refine va_get (D := D) (ci := 3) (v := .ref (ad 4)) (C := RX3) (T := TX3) (N := 9) hx hb hts ni3 hown hK hP 3 (cw_c3 cy ad aw σ J) rfl 0 (by decide) (hts _ flX3_11) (fun _ h => h) rfl dX3_carryOut_81 ?_
      refine lv_aload_n hx hb dX3_carryOut_84 rfl (lv_at hl 1 rfl) ?_
      refine lv_iconst (v := nI 0) hx hb dX3_carryOut_85 (by decide) ?_
      refine ln_iald (v := ((j_nb J t) 0)) hx hb hK hP (46 + t) (cw_nums cy ad aw σ J (t := t) (by omega)) (by omega) (by decide) rfl dX3_carryOut_86 ?_
      refine ln_eq (show ((j_nb J t) 0) = (nI (a)) from h0) ?_
      refine ln_aald (x := ad (21 + a)) hx hb hK hP 4 5 (cw_c4 cy ad aw σ J) rfl (by omega) (by decide) rfl dX3_carryOut_87 ?_
      refine lv_aload_n hx hb dX3_carryOut_88 rfl (lv_at hl 0 rfl) ?_
      refine lv_aload_n hx hb dX3_carryOut_89 rfl (lv_at hl 1 rfl) ?_
      refine lv_iconst (v := nI 1) hx hb dX3_carryOut_90 (by decide) ?_
      refine ln_iald (v := ((j_nb J t) 1)) hx hb hK hP (46 + t) (cw_nums cy ad aw σ J (t := t) (by omega)) (by omega) (by decide) rfl dX3_carryOut_91 ?_
      refine ln_eq (show ((j_nb J t) 1) = (nI (b)) from h1) ?_
      refine kw_sv (n := 3) (As := [.ref (ad (21 + a)), .ref (aw 6), .int (nI (b))]) (rest := []) ⟨hx, hb, hml, hown, hts⟩ (k_change6 l D cy ad aw aS aV aT σ J a b (by omega)) (hts _ mlX3_83) (hts _ smX3_change) (hts _ iniX3) (gc_of cdX3_change) (by decide +kernel) ⟨Nat.le_of_ble_eq_true rfl, Nat.le_of_ble_eq_true rfl⟩ hK hN hP hD hS hA hC rfl hl.1 rfl (Nat.le_of_ble_eq_true rfl) dX3_carryOut_92 ⟨Nat.zero_le _, Nat.zero_le _⟩ (fun _ => (cw_ad _ _ _ _ _).trans (cw_ad _ _ _ _ _).symm) (fun u9 H locs hpu9 hP hD hS => ?_)
      have hP : va_P D vwCl (cw cy ad aw (su_th σ (updN (s_th σ) (6 * a + 4) b)) J) H := hP
      have hD : va_D A (cw cy ad aw (su_th σ (updN (s_th σ) (6 * a + 4) b)) J) := hD
      exact rw_v hx hb hr hlocks hS () (trivial) (by show va_P D vwCl (cw cy ad aw (doL σ 9 [a, b]) J) _; rw [doL, if_neg (by decide), if_neg (by decide), if_neg (by decide), if_neg (by decide), if_pos rfl]; exact hP) dX3_carryOut_95
  · obtain ⟨a, rfl, hlt⟩ := hok.2.2.2.2.2.2 rfl
    have h0 : j_nb J t 0 = nI a := hLJ.2 0 a rfl
    have hlw : j_lw J t = some 7 := hLJ.1
    refine lv_aload_n hx hb dX3_carryOut_0 rfl (lv_at hl 1 rfl) ?_
    refine va_get (D := D) (ci := 1) (v := .ref (ad (46 + t))) (C := RX1) (T := TX1) (N := 2) hx hb hts ni1 hown hK hP (34 + t) (cw_line cy ad aw σ J (t := t) (by omega)) rfl 1 (by decide) (hts _ flX3_52) (fun _ h => h) rfl dX3_carryOut_1 ?_
    refine lv_astore_n (lv' := [(2, .ref (ad (46 + t))), (0, .ref (ad 3)), (1, .ref (ad (34 + t)))]) hx hb dX3_carryOut_4 rfl hl (by decide) rfl (fun ls hl => ?_)
    refine lv_aload_n hx hb dX3_carryOut_5 rfl (lv_at hl 2 rfl) ?_
    refine va_get (D := D) (ci := 1) (v := va_re aw (j_lw J t)) (C := RX1) (T := TX1) (N := 2) hx hb hts ni1 hown hK hP (34 + t) (cw_line cy ad aw σ J (t := t) (by omega)) rfl 0 (by decide) (hts _ flX3_57) (fun _ h => h) rfl dX3_carryOut_6 ?_
    refine lx_eq (show va_re aw (j_lw J t) = .ref (aw 7) from by rw [hlw]; rfl) ?_
    refine lv_astore_n (lv' := [(3, .ref (aw 7)), (2, .ref (ad (46 + t))), (0, .ref (ad 3)), (1, .ref (ad (34 + t)))]) hx hb dX3_carryOut_9 rfl hl (by decide) rfl (fun ls hl => ?_)
    refine lv_aload_n hx hb dX3_carryOut_10 rfl (lv_at hl 0 rfl) ?_
    refine va_gets hx hb (hC.1 0 (by decide)).1 hS hown (hts _ flX3_61) (fun _ h => h) dX3_carryOut_11 ?_
    refine lk_acmp_ne (tgt := 30) hx hb dX3_carryOut_14 (by decide) (hC.ne (by decide) (by decide) (by decide)) ?_
    refine lv_aload_n hx hb dX3_carryOut_30 rfl (lv_at hl 0 rfl) ?_
    refine vk_getf (v := .int (-1)) hx hb (hC.1 7 (by decide)).2.2.2.1 hS hown (hts _ flX3_66) (fun _ h => h) dX3_carryOut_31 ?_
    refine lv_iconst (v := -1) hx hb dX3_carryOut_34 (by decide) ?_
    refine lv_icmp_eq (tgt := 50) hx hb dX3_carryOut_35 (by decide) (fun _ => ?_) (fun c => absurd rfl c)
    refine lv_aload_n hx hb dX3_carryOut_50 rfl (lv_at hl 0 rfl) ?_
    refine vk_getf (v := .int (-1)) hx hb (hC.1 7 (by decide)).2.2.2.2 hS hown (hts _ flX3_73) (fun _ h => h) dX3_carryOut_51 ?_
    refine lv_iconst (v := -1) hx hb dX3_carryOut_54 (by decide) ?_
    refine lv_icmp_eq (tgt := 70) hx hb dX3_carryOut_55 (by decide) (fun _ => ?_) (fun c => absurd rfl c)
    refine lv_aload_n hx hb dX3_carryOut_70 rfl (lv_at hl 2 rfl) ?_
    refine lv_aload_n hx hb dX3_carryOut_71 rfl (lv_at hl 1 rfl) ?_
    refine lv_iconst (v := nI 0) hx hb dX3_carryOut_72 (by decide) ?_
    refine ln_iald (v := ((j_nb J t) 0)) hx hb hK hP (46 + t) (cw_nums cy ad aw σ J (t := t) (by omega)) (by omega) (by decide) rfl dX3_carryOut_73 ?_
    refine ln_eq (show ((j_nb J t) 0) = (nI (a)) from h0) ?_
    refine cr_v (n := 1) (As := [.int (nI (a))]) (rest := []) ⟨hx, hb, hml, hown, hts⟩ (k_hasThingV l D cy ad aw σ J (nI (a)) hw8) gvX3_79 (by decide +kernel) ⟨Nat.le_of_ble_eq_true rfl, Nat.le_of_ble_eq_true rfl⟩ hK hN hP 3 (cw_c3 cy ad aw σ J) rfl rfl hl.1 rfl (Nat.le_of_ble_eq_true rfl) dX3_carryOut_74 ⟨Nat.zero_le _, Nat.zero_le _⟩ ?_
    refine lb_if_eq (tgt := 95) hx hb dX3_carryOut_77 (by decide) (fun c77 => ?_) (fun c77 => ?_)
    · exact absurd c77 (by rw [ix_nI (by omega) (by omega), decide_eq_true hlt]; decide)
    · refine lv_aload_n hx hb dX3_carryOut_80 rfl (lv_at hl 2 rfl) ?_
      refine va_get (D := D) (ci := 3) (v := .ref (ad 4)) (C := RX3) (T := TX3) (N := 9) hx hb hts ni3 hown hK hP 3 (cw_c3 cy ad aw σ J) rfl 0 (by decide) (hts _ flX3_11) (fun _ h => h) rfl dX3_carryOut_81 ?_
      refine lv_aload_n hx hb dX3_carryOut_84 rfl (lv_at hl 1 rfl) ?_
      refine lv_iconst (v := nI 0) hx hb dX3_carryOut_85 (by decide) ?_
      refine ln_iald (v := ((j_nb J t) 0)) hx hb hK hP (46 + t) (cw_nums cy ad aw σ J (t := t) (by omega)) (by omega) (by decide) rfl dX3_carryOut_86 ?_
      refine ln_eq (show ((j_nb J t) 0) = (nI (a)) from h0) ?_
      refine ln_aald (x := ad (21 + a)) hx hb hK hP 4 5 (cw_c4 cy ad aw σ J) rfl (by omega) (by decide) rfl dX3_carryOut_87 ?_
      refine lv_aload_n hx hb dX3_carryOut_88 rfl (lv_at hl 0 rfl) ?_
      refine lv_aload_n hx hb dX3_carryOut_89 rfl (lv_at hl 1 rfl) ?_
      refine lv_iconst (v := nI 1) hx hb dX3_carryOut_90 (by decide) ?_
      refine ln_iald (v := ((j_nb J t) 1)) hx hb hK hP (46 + t) (cw_nums cy ad aw σ J (t := t) (by omega)) (by omega) (by decide) rfl dX3_carryOut_91 ?_
      refine kw_sv (n := 3) (As := [.ref (ad (21 + a)), .ref (aw 7), .int ((j_nb J t) 1)]) (rest := []) ⟨hx, hb, hml, hown, hts⟩ (k_change7 l D cy ad aw aS aV aT σ J a ((j_nb J t) 1) (by omega)) (hts _ mlX3_83) (hts _ smX3_change) (hts _ iniX3) (gc_of cdX3_change) (by decide +kernel) ⟨Nat.le_of_ble_eq_true rfl, Nat.le_of_ble_eq_true rfl⟩ hK hN hP hD hS hA hC rfl hl.1 rfl (Nat.le_of_ble_eq_true rfl) dX3_carryOut_92 ⟨Nat.zero_le _, Nat.zero_le _⟩ (fun _ => (cw_ad _ _ _ _ _).trans (cw_ad _ _ _ _ _).symm) (fun u10 H locs hpu10 hP hD hS => ?_)
      have hP : va_P D vwCl (cw cy ad aw (su_th σ (updN (s_th σ) (6 * a + 5) 1)) J) H := hP
      have hD : va_D A (cw cy ad aw (su_th σ (updN (s_th σ) (6 * a + 5) 1)) J) := hD
      exact rw_v hx hb hr hlocks hS () (trivial) (by show va_P D vwCl (cw cy ad aw (doL σ 10 [a]) J) _; rw [doL, if_neg (by decide), if_neg (by decide), if_neg (by decide), if_neg (by decide), if_neg (by decide)]; exact hP) dX3_carryOut_95
theorem mask_t {g : Nat → Bool} {i : Nat} (h : g i = true) : maskN g i ||| 1 * 2 ^ i = maskN g (i + 1) := by rw [maskN, h, if_pos rfl, Nat.one_mul]
theorem mask_f {g : Nat → Bool} {i : Nat} (h : g i = false) : maskN g i ||| 0 = maskN g (i + 1) := by rw [maskN, h, if_neg (by decide)]
theorem bk_c (x : Sg) (a b a' b' : Nat) : su_mo (su_ov (su_mo (su_ov x a) b) a') b' = su_mo (su_ov x a') b' := by dsimp only [su_mo, su_ov, s_n, s_th, s_m, s_fe, s_ln, s_tx, s_ov, s_mo, s_of, s_la, s_cr, s_im, s_kp, s_rn, s_ro]
theorem orM_lt {v : Nat → Nat} : ∀ {n : Nat}, (∀ t, t < n → v t ≤ 1) → orM v n < 2 ^ n
  | 0, _ => by show 0 < 1; decide
  | n + 1, h => by
    have h1 := orM_lt (n := n) (fun t ht => h t (by omega))
    have h2 : 2 ^ n < 2 ^ (n + 1) := Nat.pow_lt_pow_right (by decide) (by omega)
    rw [orM]
    refine Nat.or_lt_two_pow (by omega) ?_
    have h3 : v n * 2 ^ n ≤ 1 * 2 ^ n := Nat.mul_le_mul_right _ (h n (by omega))
    omega
theorem bk_or {X a b : Nat} (hX : X < 256) : (X + 256 * a) ||| (256 * b) = X + 256 * (a ||| b) := by
  have e : ∀ y, X + 256 * y = 2 ^ 8 * y ||| X := fun y => by rw [← Nat.two_pow_add_eq_or_of_lt (i := 8) hX y]; omega
  rw [e, e, show 256 * b = 2 ^ 8 * b from rfl]
  apply Nat.eq_of_testBit_eq
  intro j
  simp only [Nat.testBit_or, Nat.testBit_two_pow_mul]
  cases decide (j ≥ 8) <;> cases X.testBit j <;> cases a.testBit (j - 8) <;> cases b.testBit (j - 8) <;> rfl
theorem orM_s {v : Nat → Nat} {i : Nat} : (orM v i + 256 * 0) ||| (v i * 2 ^ i) = orM v (i + 1) + 256 * 0 := by rw [Nat.mul_zero, Nat.add_zero, Nat.add_zero, orM]
theorem orM_f {v : Nat → Nat} {X i : Nat} (hX : X < 256) : (X + 256 * orM v i) ||| (256 * v i * 2 ^ i) = X + 256 * orM v (i + 1) := by rw [orM, ← bk_or hX, Nat.mul_assoc]
/-- a day begins -/
def bdS (σ : Sg) : Sg := su_cr (su_la (su_of (su_mo (su_ov σ (orM (fun t => s_th σ (6 * t + 2)) (s_n σ))) (orM (fun f => s_fe σ (5 * f + 2)) (s_m σ))) 0) false) 0
theorem bk_le {v i : Nat} (h : v ≤ 1) : v * 2 ^ i ≤ 2 ^ i := by have := Nat.mul_le_mul_right (2 ^ i) h; omega
theorem bk_le2 {v i : Nat} (h : v ≤ 1) (hi : i < 3) : 256 * v * 2 ^ i < 2 ^ 32 := by
  have h1 : 2 ^ i ≤ 2 ^ 2 := Nat.pow_le_pow_right (by decide) (by omega)
  have h2 : 256 * v ≤ 256 := by omega
  have h3 := Nat.mul_le_mul h2 h1
  omega
set_option maxHeartbeats 4000000 in
set_option maxRecDepth 100000 in
theorem k_X3_beginDay (l : Launch) (D : va_G) (cy : Nat → ClassId) (ad aw : Nat → Nat) (σ : Sg) (J : Js)  (hw : wf1 σ) (hpb : j_pb J 0 = nI 0) : MV l yX3_beginDay qX3_beginDay 2 [.ref (ad 3)] D cy (cw cy ad aw σ J) (fun u : Js => wfJ (bdS σ) u ∧ j_lc u = j_lc J) (fun u : Js => cw cy ad aw (bdS σ) u) := by
  intro sz
  refine Met.ofW (cc := cX3_beginDay) (maxL := 3) (ret := none) (by decide) rfl ?_
  intro p e s m args below meth c s₁ B hml hv
  obtain ⟨rfl, rfl, hP, hK, hN, hD0⟩ := hv
  have hx := B.exec
  have hb := B.bytes
  have hr := B.returns
  have hlocks := B.notSynchronized
  have hts : ∀ cq ∈ tg, cq.before ([.ref (ad 3)] : List Value).toArray s = true := fun cq h => atoms_spec (ws := qX3_beginDay) B.pre cq (List.mem_cons_of_mem _ h)
  have hown : s.vm.findClass RX3 = some m.cls := findClass_of_methodNamed B.named
  have hD := hD0.self (sz := s.heap.size)
  generalize hAe : va_A (cw cy ad aw σ J) s.heap.size = A at hD ⊢
  have hA : ∀ q : Nat, s.heap.size ≤ q → A q := fun q h => by rw [← hAe]; exact Or.inr h
  have hS : va_S A s.heap s.heap [] := va_S.rf
  have hl := lv_entry ([.ref (ad 3)]) (n := 3) (Nat.le_of_ble_eq_true rfl)
  rw [lg_entry_eq]
  generalize (lg_sl ([.ref (ad 3)]) ++ List.replicate (3 - (lg_sl ([.ref (ad 3)])).length) Slot.unset).toArray = ls at hl ⊢
  have hl : lv_has ls 3 [(0, .ref (ad 3))] := hl
  have hw1 := hw.1
  have hw2 := hw.2.1
  have hwt := hw.2.2.1
  have hwf := hw.2.2.2.1
  have hovl : orM (fun t => s_th σ (6 * t + 2)) (s_n σ) < 256 := Nat.lt_of_lt_of_le (orM_lt (fun t ht => (hwt t (by omega)).2.2.1)) (pw_8 hw1)
  refine lv_aload_n hx hb dX3_beginDay_0 rfl (lv_at hl 0 rfl) ?_
  refine va_get (D := D) (ci := 3) (v := .ref (ad 6)) (C := RX3) (T := TX3) (N := 9) hx hb hts ni3 hown hK hP 3 (cw_c3 cy ad aw σ J) rfl 2 (by decide) (hts _ flX3_26) (fun _ h => h) rfl dX3_beginDay_1 ?_
  refine lv_iconst (v := nI 0) hx hb dX3_beginDay_4 (by decide) ?_
  refine ln_put (ci := 5) (C := RX5) (T := TX5) (N := 5) (ty := .int) (v := .int (nI (0))) hx hb hts ni5 tyX5 tyX5_ok nmX5 hown hK hP hD hS 6 (cw_c6 cy ad aw σ J) rfl 1 (by decide) (hts _ flX3_112) (fun _ h => h) rfl (by decide +kernel) rfl rfl (Nat.le_of_ble_eq_true rfl) (cp_6_1 cy ad aw σ J 0 0) dX3_beginDay_5 (fun H locs hP hD hS => ?_)
  refine lv_aload_n hx hb dX3_beginDay_8 rfl (lv_at hl 0 rfl) ?_
  refine lv_iconst (v := nI 0) hx hb dX3_beginDay_9 (by decide) ?_
  refine ln_put (ci := 3) (C := RX3) (T := TX3) (N := 9) (ty := .int) (v := .int (nI (0))) hx hb hts ni3 tyX3 tyX3_ok nmX3 hown hK hP hD hS 3 (cw_c3 cy ad aw (su_mo (su_ov σ 0) 0) J) rfl 5 (by decide) (hts _ flX3_37) (fun _ h => h) rfl (by decide +kernel) rfl rfl (Nat.le_of_ble_eq_true rfl) (cp_3_5 cy ad aw (su_mo (su_ov σ 0) 0) J 0) dX3_beginDay_10 (fun H locs hP hD hS => ?_)
  refine lv_aload_n hx hb dX3_beginDay_13 rfl (lv_at hl 0 rfl) ?_
  refine lv_iconst (v := nI 0) hx hb dX3_beginDay_14 (by decide) ?_
  refine ln_put (ci := 3) (C := RX3) (T := TX3) (N := 9) (ty := .int) (v := .int (nI (0))) hx hb hts ni3 tyX3 tyX3_ok nmX3 hown hK hP hD hS 3 (cw_c3 cy ad aw (su_mo (su_ov σ 0) 0) (ju_pe J 0)) rfl 6 (by decide) (hts _ flX3_40) (fun _ h => h) rfl (by decide +kernel) rfl rfl (Nat.le_of_ble_eq_true rfl) (cp_3_6 cy ad aw (su_mo (su_ov σ 0) 0) (ju_pe J 0) 0) dX3_beginDay_15 (fun H locs hP hD hS => ?_)
  refine lv_aload_n hx hb dX3_beginDay_18 rfl (lv_at hl 0 rfl) ?_
  refine lv_iconst (v := nI 0) hx hb dX3_beginDay_19 (by decide) ?_
  refine ln_put (ci := 3) (C := RX3) (T := TX3) (N := 9) (ty := .int) (v := .int (nI (0))) hx hb hts ni3 tyX3 tyX3_ok nmX3 hown hK hP hD hS 3 (cw_c3 cy ad aw (su_mo (su_ov σ 0) 0) (ju_wh (ju_pe J 0) 0)) rfl 7 (by decide) (hts _ flX3_43) (fun _ h => h) rfl (by decide +kernel) rfl rfl (Nat.le_of_ble_eq_true rfl) (cp_3_7 cy ad aw (su_mo (su_ov σ 0) 0) (ju_wh (ju_pe J 0) 0) 0) dX3_beginDay_20 (fun H locs hP hD hS => ?_)
  refine lv_iconst (v := nI 0) hx hb dX3_beginDay_23 (by decide) ?_
  refine lv_istore_n (lv' := [(1, .int (nI (0))), (0, .ref (ad 3))]) hx hb dX3_beginDay_24 rfl hl (by decide) rfl (fun ls hl => ?_)
  have lp : ∀ (k_lp i : Nat) (ls : Array Slot) (H : Heap) (locs : List Loc) , i + k_lp = s_n σ → va_P D vwCl (cw cy ad aw (su_mo (su_ov σ (orM (fun t => s_th σ (6 * t + 2)) i)) 0) (ju_us (ju_wh (ju_pe J (maskN (fun t => decide (s_th σ (6 * t) = 0)) i)) (maskN (fun t => decide (s_th σ (6 * t) < 2)) i)) (maskN (fun t => decide (s_th σ (6 * t + 5) = 1)) i))) H → va_D A (cw cy ad aw (su_mo (su_ov σ (orM (fun t => s_th σ (6 * t + 2)) i)) 0) (ju_us (ju_wh (ju_pe J (maskN (fun t => decide (s_th σ (6 * t) = 0)) i)) (maskN (fun t => decide (s_th σ (6 * t) < 2)) i)) (maskN (fun t => decide (s_th σ (6 * t + 5) = 1)) i))) → va_S A s.heap H locs → lv_has ls 3 [(1, .int (nI (i))), (0, .ref (ad 3))] → W p l e (headSpec qX3_beginDay (rq 2)).room s m ([.ref (ad 3)] : List Value).toArray below meth c H locs 0 0 (MQ below (va_Qv (fun u : Js => wfJ (bdS σ) u ∧ j_lc u = j_lc J) (fun u t => va_P D vwCl ((fun u : Js => cw cy ad aw (bdS σ) u) u) t.heap) A) ([.ref (ad 3)] : List Value).toArray s 0 0 A) (F0 m 25 ls []) := by
    intro k_lp
    induction k_lp with
    | zero =>
      intro i ls H locs hi_lp hP hD hS hl
      have hti := fun q : i < 8 => hwt i q
      have hti1 : s_th σ (6 * i) ≤ 3 ∨ 8 ≤ i := by rcases Nat.lt_or_ge i 8 with q | q; exact Or.inl (hti q).1; exact Or.inr q
      have hpi := fun q : i < 8 => pw_lt8 q
      refine lv_iload_n hx hb dX3_beginDay_25 rfl (lv_at hl 0 rfl) ?_
      refine lv_aload_n hx hb dX3_beginDay_26 rfl (lv_at hl 1 rfl) ?_
      refine va_get (D := D) (ci := 3) (v := .int (nI (s_n σ))) (C := RX3) (T := TX3) (N := 9) hx hb hts ni3 hown hK hP 3 (cw_c3 cy ad aw (su_mo (su_ov σ (orM (fun t => s_th σ (6 * t + 2)) i)) 0) (ju_us (ju_wh (ju_pe J (maskN (fun t => decide (s_th σ (6 * t) = 0)) i)) (maskN (fun t => decide (s_th σ (6 * t) < 2)) i)) (maskN (fun t => decide (s_th σ (6 * t + 5) = 1)) i))) rfl 3 (by decide) (hts _ flX3_30) (fun _ h => h) rfl dX3_beginDay_27 ?_
      refine ln_icmp_ge (tgt := 133) hx hb dX3_beginDay_30 (by decide) (by omega) (by omega) (fun c30 => ?_) (fun c30 => ?_)
      · have hie : i = s_n σ := by omega
        subst hie
        refine lv_iconst (v := nI 0) hx hb dX3_beginDay_133 (by decide) ?_
        refine lv_istore_n (lv' := [(1, .int (nI (0))), (0, .ref (ad 3))]) hx hb dX3_beginDay_134 rfl hl (by decide) rfl (fun ls hl => ?_)
        have lq : ∀ (k_lq i : Nat) (ls : Array Slot) (H : Heap) (locs : List Loc) , i + k_lq = s_m σ → va_P D vwCl (cw cy ad aw (su_mo (su_ov σ (orM (fun t => s_th σ (6 * t + 2)) (s_n σ))) (orM (fun f => s_fe σ (5 * f + 2)) i)) (ju_us (ju_wh (ju_pe J (maskN (fun t => decide (s_th σ (6 * t) = 0)) (s_n σ))) (maskN (fun t => decide (s_th σ (6 * t) < 2)) (s_n σ))) (maskN (fun t => decide (s_th σ (6 * t + 5) = 1)) (s_n σ)))) H → va_D A (cw cy ad aw (su_mo (su_ov σ (orM (fun t => s_th σ (6 * t + 2)) (s_n σ))) (orM (fun f => s_fe σ (5 * f + 2)) i)) (ju_us (ju_wh (ju_pe J (maskN (fun t => decide (s_th σ (6 * t) = 0)) (s_n σ))) (maskN (fun t => decide (s_th σ (6 * t) < 2)) (s_n σ))) (maskN (fun t => decide (s_th σ (6 * t + 5) = 1)) (s_n σ)))) → va_S A s.heap H locs → lv_has ls 3 [(1, .int (nI (i))), (0, .ref (ad 3))] → W p l e (headSpec qX3_beginDay (rq 2)).room s m ([.ref (ad 3)] : List Value).toArray below meth c H locs 0 0 (MQ below (va_Qv (fun u : Js => wfJ (bdS σ) u ∧ j_lc u = j_lc J) (fun u t => va_P D vwCl ((fun u : Js => cw cy ad aw (bdS σ) u) u) t.heap) A) ([.ref (ad 3)] : List Value).toArray s 0 0 A) (F0 m 135 ls []) := by
          intro k_lq
          induction k_lq with
          | zero =>
            intro i ls H locs hi_lq hP hD hS hl
            have hfi := fun q : i < 3 => hwf i q
            refine lv_iload_n hx hb dX3_beginDay_135 rfl (lv_at hl 0 rfl) ?_
            refine lv_aload_n hx hb dX3_beginDay_136 rfl (lv_at hl 1 rfl) ?_
            refine va_get (D := D) (ci := 3) (v := .int (nI (s_m σ))) (C := RX3) (T := TX3) (N := 9) hx hb hts ni3 hown hK hP 3 (cw_c3 cy ad aw (su_mo (su_ov σ (orM (fun t => s_th σ (6 * t + 2)) (s_n σ))) (orM (fun f => s_fe σ (5 * f + 2)) i)) (ju_us (ju_wh (ju_pe J (maskN (fun t => decide (s_th σ (6 * t) = 0)) (s_n σ))) (maskN (fun t => decide (s_th σ (6 * t) < 2)) (s_n σ))) (maskN (fun t => decide (s_th σ (6 * t + 5) = 1)) (s_n σ)))) rfl 4 (by decide) (hts _ flX3_34) (fun _ h => h) rfl dX3_beginDay_137 ?_
            refine ln_icmp_ge (tgt := 176) hx hb dX3_beginDay_140 (by decide) (by omega) (by omega) (fun c140 => ?_) (fun c140 => ?_)
            · have hie : i = s_m σ := by omega
              subst hie
              refine lv_aload_n hx hb dX3_beginDay_176 rfl (lv_at hl 1 rfl) ?_
              refine va_get (D := D) (ci := 3) (v := .ref (ad 6)) (C := RX3) (T := TX3) (N := 9) hx hb hts ni3 hown hK hP 3 (cw_c3 cy ad aw (su_mo (su_ov σ (orM (fun t => s_th σ (6 * t + 2)) (s_n σ))) (orM (fun f => s_fe σ (5 * f + 2)) (s_m σ))) (ju_us (ju_wh (ju_pe J (maskN (fun t => decide (s_th σ (6 * t) = 0)) (s_n σ))) (maskN (fun t => decide (s_th σ (6 * t) < 2)) (s_n σ))) (maskN (fun t => decide (s_th σ (6 * t + 5) = 1)) (s_n σ)))) rfl 2 (by decide) (hts _ flX3_26) (fun _ h => h) rfl dX3_beginDay_177 ?_
              refine lv_iconst (v := nI 0) hx hb dX3_beginDay_180 (by decide) ?_
              refine ln_put (ci := 5) (C := RX5) (T := TX5) (N := 5) (ty := .int) (v := .int (nI (0))) hx hb hts ni5 tyX5 tyX5_ok nmX5 hown hK hP hD hS 6 (cw_c6 cy ad aw (su_mo (su_ov σ (orM (fun t => s_th σ (6 * t + 2)) (s_n σ))) (orM (fun f => s_fe σ (5 * f + 2)) (s_m σ))) (ju_us (ju_wh (ju_pe J (maskN (fun t => decide (s_th σ (6 * t) = 0)) (s_n σ))) (maskN (fun t => decide (s_th σ (6 * t) < 2)) (s_n σ))) (maskN (fun t => decide (s_th σ (6 * t + 5) = 1)) (s_n σ)))) rfl 2 (by decide) (hts _ flX3_126) (fun _ h => h) rfl (by decide +kernel) rfl rfl (Nat.le_of_ble_eq_true rfl) (cp_6_2 cy ad aw (su_mo (su_ov σ (orM (fun t => s_th σ (6 * t + 2)) (s_n σ))) (orM (fun f => s_fe σ (5 * f + 2)) (s_m σ))) (ju_us (ju_wh (ju_pe J (maskN (fun t => decide (s_th σ (6 * t) = 0)) (s_n σ))) (maskN (fun t => decide (s_th σ (6 * t) < 2)) (s_n σ))) (maskN (fun t => decide (s_th σ (6 * t + 5) = 1)) (s_n σ))) 0) dX3_beginDay_181 (fun H locs hP hD hS => ?_)
              refine lv_aload_n hx hb dX3_beginDay_184 rfl (lv_at hl 1 rfl) ?_
              refine va_get (D := D) (ci := 3) (v := .ref (ad 6)) (C := RX3) (T := TX3) (N := 9) hx hb hts ni3 hown hK hP 3 (cw_c3 cy ad aw (su_of (su_mo (su_ov σ (orM (fun t => s_th σ (6 * t + 2)) (s_n σ))) (orM (fun f => s_fe σ (5 * f + 2)) (s_m σ))) 0) (ju_us (ju_wh (ju_pe J (maskN (fun t => decide (s_th σ (6 * t) = 0)) (s_n σ))) (maskN (fun t => decide (s_th σ (6 * t) < 2)) (s_n σ))) (maskN (fun t => decide (s_th σ (6 * t + 5) = 1)) (s_n σ)))) rfl 2 (by decide) (hts _ flX3_26) (fun _ h => h) rfl dX3_beginDay_185 ?_
              refine lv_iconst (v := nI 0) hx hb dX3_beginDay_188 (by decide) ?_
              refine ln_eq (show (nI (0)) = (bI (false)) from rfl) ?_
              refine ln_put (ci := 5) (C := RX5) (T := TX5) (N := 5) (ty := .boolean) (v := .int (bI (false))) hx hb hts ni5 tyX5 tyX5_ok nmX5 hown hK hP hD hS 6 (cw_c6 cy ad aw (su_of (su_mo (su_ov σ (orM (fun t => s_th σ (6 * t + 2)) (s_n σ))) (orM (fun f => s_fe σ (5 * f + 2)) (s_m σ))) 0) (ju_us (ju_wh (ju_pe J (maskN (fun t => decide (s_th σ (6 * t) = 0)) (s_n σ))) (maskN (fun t => decide (s_th σ (6 * t) < 2)) (s_n σ))) (maskN (fun t => decide (s_th σ (6 * t + 5) = 1)) (s_n σ)))) rfl 3 (by decide) (hts _ flX3_129) (fun _ h => h) rfl (by decide +kernel) (bI_n _) rfl (Nat.le_of_ble_eq_true rfl) (cp_6_3 cy ad aw (su_of (su_mo (su_ov σ (orM (fun t => s_th σ (6 * t + 2)) (s_n σ))) (orM (fun f => s_fe σ (5 * f + 2)) (s_m σ))) 0) (ju_us (ju_wh (ju_pe J (maskN (fun t => decide (s_th σ (6 * t) = 0)) (s_n σ))) (maskN (fun t => decide (s_th σ (6 * t) < 2)) (s_n σ))) (maskN (fun t => decide (s_th σ (6 * t + 5) = 1)) (s_n σ))) false) dX3_beginDay_189 (fun H locs hP hD hS => ?_)
              refine lv_aload_n hx hb dX3_beginDay_192 rfl (lv_at hl 1 rfl) ?_
              refine va_get (D := D) (ci := 3) (v := .ref (ad 6)) (C := RX3) (T := TX3) (N := 9) hx hb hts ni3 hown hK hP 3 (cw_c3 cy ad aw (su_la (su_of (su_mo (su_ov σ (orM (fun t => s_th σ (6 * t + 2)) (s_n σ))) (orM (fun f => s_fe σ (5 * f + 2)) (s_m σ))) 0) false) (ju_us (ju_wh (ju_pe J (maskN (fun t => decide (s_th σ (6 * t) = 0)) (s_n σ))) (maskN (fun t => decide (s_th σ (6 * t) < 2)) (s_n σ))) (maskN (fun t => decide (s_th σ (6 * t + 5) = 1)) (s_n σ)))) rfl 2 (by decide) (hts _ flX3_26) (fun _ h => h) rfl dX3_beginDay_193 ?_
              refine lv_iconst (v := nI 0) hx hb dX3_beginDay_196 (by decide) ?_
              refine ln_put (ci := 5) (C := RX5) (T := TX5) (N := 5) (ty := .int) (v := .int (nI (0))) hx hb hts ni5 tyX5 tyX5_ok nmX5 hown hK hP hD hS 6 (cw_c6 cy ad aw (su_la (su_of (su_mo (su_ov σ (orM (fun t => s_th σ (6 * t + 2)) (s_n σ))) (orM (fun f => s_fe σ (5 * f + 2)) (s_m σ))) 0) false) (ju_us (ju_wh (ju_pe J (maskN (fun t => decide (s_th σ (6 * t) = 0)) (s_n σ))) (maskN (fun t => decide (s_th σ (6 * t) < 2)) (s_n σ))) (maskN (fun t => decide (s_th σ (6 * t + 5) = 1)) (s_n σ)))) rfl 4 (by decide) (hts _ flX3_132) (fun _ h => h) rfl (by decide +kernel) rfl rfl (Nat.le_of_ble_eq_true rfl) (cp_6_4 cy ad aw (su_la (su_of (su_mo (su_ov σ (orM (fun t => s_th σ (6 * t + 2)) (s_n σ))) (orM (fun f => s_fe σ (5 * f + 2)) (s_m σ))) 0) false) (ju_us (ju_wh (ju_pe J (maskN (fun t => decide (s_th σ (6 * t) = 0)) (s_n σ))) (maskN (fun t => decide (s_th σ (6 * t) < 2)) (s_n σ))) (maskN (fun t => decide (s_th σ (6 * t + 5) = 1)) (s_n σ))) 0) dX3_beginDay_197 (fun H locs hP hD hS => ?_)
              refine lv_aload_n hx hb dX3_beginDay_200 rfl (lv_at hl 1 rfl) ?_
              refine cr_vv (n := 0) (As := []) (rest := []) ⟨hx, hb, hml, hown, hts⟩ (k_weighAllV l D cy ad aw (su_cr (su_la (su_of (su_mo (su_ov σ (orM (fun t => s_th σ (6 * t + 2)) (s_n σ))) (orM (fun f => s_fe σ (5 * f + 2)) (s_m σ))) 0) false) 0) (ju_us (ju_wh (ju_pe J (maskN (fun t => decide (s_th σ (6 * t) = 0)) (s_n σ))) (maskN (fun t => decide (s_th σ (6 * t) < 2)) (s_n σ))) (maskN (fun t => decide (s_th σ (6 * t + 5) = 1)) (s_n σ))) ⟨hw1, hwt, by show (0 : Nat) < 256; decide⟩ rfl hpb) gvX3_135 (by decide +kernel) ⟨Nat.le_of_ble_eq_true rfl, Nat.le_of_ble_eq_true rfl⟩ hK hN hP hD hS hA 3 (cw_c3 cy ad aw (su_cr (su_la (su_of (su_mo (su_ov σ (orM (fun t => s_th σ (6 * t + 2)) (s_n σ))) (orM (fun f => s_fe σ (5 * f + 2)) (s_m σ))) 0) false) 0) (ju_us (ju_wh (ju_pe J (maskN (fun t => decide (s_th σ (6 * t) = 0)) (s_n σ))) (maskN (fun t => decide (s_th σ (6 * t) < 2)) (s_n σ))) (maskN (fun t => decide (s_th σ (6 * t + 5) = 1)) (s_n σ)))) rfl rfl hl.1 rfl (Nat.le_of_ble_eq_true rfl) dX3_beginDay_201 ⟨Nat.zero_le _, Nat.zero_le _⟩ (fun _ => (cw_ad _ _ _ _ _).trans (cw_ad _ _ _ _ _).symm) (fun u1 H locs hpu1 hP hD hS => ?_)
              have hP : va_P D vwCl (cw cy ad aw (su_cr (su_la (su_of (su_mo (su_ov σ (orM (fun t => s_th σ (6 * t + 2)) (s_n σ))) (orM (fun f => s_fe σ (5 * f + 2)) (s_m σ))) 0) false) 0) (ju_pb (ju_us (ju_wh (ju_pe J (maskN (fun t => decide (s_th σ (6 * t) = 0)) (s_n σ))) (maskN (fun t => decide (s_th σ (6 * t) < 2)) (s_n σ))) (maskN (fun t => decide (s_th σ (6 * t + 5) = 1)) (s_n σ))) u1)) H := hP
              have hD : va_D A (cw cy ad aw (su_cr (su_la (su_of (su_mo (su_ov σ (orM (fun t => s_th σ (6 * t + 2)) (s_n σ))) (orM (fun f => s_fe σ (5 * f + 2)) (s_m σ))) 0) false) 0) (ju_pb (ju_us (ju_wh (ju_pe J (maskN (fun t => decide (s_th σ (6 * t) = 0)) (s_n σ))) (maskN (fun t => decide (s_th σ (6 * t) < 2)) (s_n σ))) (maskN (fun t => decide (s_th σ (6 * t + 5) = 1)) (s_n σ))) u1)) := hD
              exact rw_v hx hb hr hlocks hS (ju_pb (ju_us (ju_wh (ju_pe J (maskN (fun t => decide (s_th σ (6 * t) = 0)) (s_n σ))) (maskN (fun t => decide (s_th σ (6 * t) < 2)) (s_n σ))) (maskN (fun t => decide (s_th σ (6 * t + 5) = 1)) (s_n σ))) u1) (⟨⟨rfl, rfl, rfl, hpu1⟩, by dsimp only [jr_lc_pb, jr_lc_us, jr_lc_wh, jr_lc_pe]⟩) hP dX3_beginDay_204
            · exact absurd c140 (by omega)
          | succ k_lq ih_lq =>
            intro i ls H locs hi_lq hP hD hS hl
            have hfi := fun q : i < 3 => hwf i q
            refine lv_iload_n hx hb dX3_beginDay_135 rfl (lv_at hl 0 rfl) ?_
            refine lv_aload_n hx hb dX3_beginDay_136 rfl (lv_at hl 1 rfl) ?_
            refine va_get (D := D) (ci := 3) (v := .int (nI (s_m σ))) (C := RX3) (T := TX3) (N := 9) hx hb hts ni3 hown hK hP 3 (cw_c3 cy ad aw (su_mo (su_ov σ (orM (fun t => s_th σ (6 * t + 2)) (s_n σ))) (orM (fun f => s_fe σ (5 * f + 2)) i)) (ju_us (ju_wh (ju_pe J (maskN (fun t => decide (s_th σ (6 * t) = 0)) (s_n σ))) (maskN (fun t => decide (s_th σ (6 * t) < 2)) (s_n σ))) (maskN (fun t => decide (s_th σ (6 * t + 5) = 1)) (s_n σ)))) rfl 4 (by decide) (hts _ flX3_34) (fun _ h => h) rfl dX3_beginDay_137 ?_
            refine ln_icmp_ge (tgt := 176) hx hb dX3_beginDay_140 (by decide) (by omega) (by omega) (fun c140 => ?_) (fun c140 => ?_)
            · exact absurd c140 (by omega)
            · have hi3 : i < 3 := by omega
              have hfi := hfi hi3
              refine lv_aload_n hx hb dX3_beginDay_143 rfl (lv_at hl 1 rfl) ?_
              refine va_get (D := D) (ci := 3) (v := .ref (ad 6)) (C := RX3) (T := TX3) (N := 9) hx hb hts ni3 hown hK hP 3 (cw_c3 cy ad aw (su_mo (su_ov σ (orM (fun t => s_th σ (6 * t + 2)) (s_n σ))) (orM (fun f => s_fe σ (5 * f + 2)) i)) (ju_us (ju_wh (ju_pe J (maskN (fun t => decide (s_th σ (6 * t) = 0)) (s_n σ))) (maskN (fun t => decide (s_th σ (6 * t) < 2)) (s_n σ))) (maskN (fun t => decide (s_th σ (6 * t + 5) = 1)) (s_n σ)))) rfl 2 (by decide) (hts _ flX3_26) (fun _ h => h) rfl dX3_beginDay_144 ?_
              refine lv_dup hx hb dX3_beginDay_147 rfl ?_
              refine va_get (D := D) (ci := 5) (v := .int (nI ((orM (fun t => s_th σ (6 * t + 2)) (s_n σ)) + 256 * (orM (fun f => s_fe σ (5 * f + 2)) i)))) (C := RX5) (T := TX5) (N := 5) hx hb hts ni5 hown hK hP 6 (cw_c6 cy ad aw (su_mo (su_ov σ (orM (fun t => s_th σ (6 * t + 2)) (s_n σ))) (orM (fun f => s_fe σ (5 * f + 2)) i)) (ju_us (ju_wh (ju_pe J (maskN (fun t => decide (s_th σ (6 * t) = 0)) (s_n σ))) (maskN (fun t => decide (s_th σ (6 * t) < 2)) (s_n σ))) (maskN (fun t => decide (s_th σ (6 * t + 5) = 1)) (s_n σ)))) rfl 1 (by decide) (hts _ flX3_112) (fun _ h => h) rfl dX3_beginDay_148 ?_
              refine lv_sipush (v := nI 256) hx hb dX3_beginDay_151 (by decide) ?_
              refine lv_aload_n hx hb dX3_beginDay_154 rfl (lv_at hl 1 rfl) ?_
              refine va_get (D := D) (ci := 3) (v := .ref (ad 5)) (C := RX3) (T := TX3) (N := 9) hx hb hts ni3 hown hK hP 3 (cw_c3 cy ad aw (su_mo (su_ov σ (orM (fun t => s_th σ (6 * t + 2)) (s_n σ))) (orM (fun f => s_fe σ (5 * f + 2)) i)) (ju_us (ju_wh (ju_pe J (maskN (fun t => decide (s_th σ (6 * t) = 0)) (s_n σ))) (maskN (fun t => decide (s_th σ (6 * t) < 2)) (s_n σ))) (maskN (fun t => decide (s_th σ (6 * t + 5) = 1)) (s_n σ)))) rfl 1 (by decide) (hts _ flX3_19) (fun _ h => h) rfl dX3_beginDay_155 ?_
              refine lv_iload_n hx hb dX3_beginDay_158 rfl (lv_at hl 0 rfl) ?_
              refine ln_aald (x := ad (29 + i)) hx hb hK hP 5 2 (cw_c5 cy ad aw (su_mo (su_ov σ (orM (fun t => s_th σ (6 * t + 2)) (s_n σ))) (orM (fun f => s_fe σ (5 * f + 2)) i)) (ju_us (ju_wh (ju_pe J (maskN (fun t => decide (s_th σ (6 * t) = 0)) (s_n σ))) (maskN (fun t => decide (s_th σ (6 * t) < 2)) (s_n σ))) (maskN (fun t => decide (s_th σ (6 * t + 5) = 1)) (s_n σ)))) rfl (by omega) (by decide) rfl dX3_beginDay_159 ?_
              refine va_get (D := D) (ci := 0) (v := .int (nI (s_fe σ (5 * i + 2)))) (C := RX0) (T := TX0) (N := 5) hx hb hts ni0 hown hK hP (29 + i) (cw_ferry cy ad aw (su_mo (su_ov σ (orM (fun t => s_th σ (6 * t + 2)) (s_n σ))) (orM (fun f => s_fe σ (5 * f + 2)) i)) (ju_us (ju_wh (ju_pe J (maskN (fun t => decide (s_th σ (6 * t) = 0)) (s_n σ))) (maskN (fun t => decide (s_th σ (6 * t) < 2)) (s_n σ))) (maskN (fun t => decide (s_th σ (6 * t + 5) = 1)) (s_n σ))) (t := i) (by omega)) rfl 2 (by decide) (hts _ flX3_125) (fun _ h => h) rfl dX3_beginDay_160 ?_
              refine ln_imul hx hb dX3_beginDay_163 ?_
              refine lv_iload_n hx hb dX3_beginDay_164 rfl (lv_at hl 0 rfl) ?_
              refine ln_ishl hx hb dX3_beginDay_165 (by omega) (bk_le2 hfi.2.2.1 hi3) ?_
              refine ln_ior hx hb dX3_beginDay_166 ?_
              refine ln_nat (show ((orM (fun t => s_th σ (6 * t + 2)) (s_n σ)) + 256 * (orM (fun f => s_fe σ (5 * f + 2)) i)) ||| ((256 * (s_fe σ (5 * i + 2))) * 2 ^ i) = orM (fun t => s_th σ (6 * t + 2)) (s_n σ) + 256 * orM (fun f => s_fe σ (5 * f + 2)) (i + 1) from orM_f (v := fun f => s_fe σ (5 * f + 2)) hovl) ?_
              refine ln_put (ci := 5) (C := RX5) (T := TX5) (N := 5) (ty := .int) (v := .int (nI (orM (fun t => s_th σ (6 * t + 2)) (s_n σ) + 256 * orM (fun f => s_fe σ (5 * f + 2)) (i + 1)))) hx hb hts ni5 tyX5 tyX5_ok nmX5 hown hK hP hD hS 6 (cw_c6 cy ad aw (su_mo (su_ov σ (orM (fun t => s_th σ (6 * t + 2)) (s_n σ))) (orM (fun f => s_fe σ (5 * f + 2)) i)) (ju_us (ju_wh (ju_pe J (maskN (fun t => decide (s_th σ (6 * t) = 0)) (s_n σ))) (maskN (fun t => decide (s_th σ (6 * t) < 2)) (s_n σ))) (maskN (fun t => decide (s_th σ (6 * t + 5) = 1)) (s_n σ)))) rfl 1 (by decide) (hts _ flX3_112) (fun _ h => h) rfl (by decide +kernel) rfl rfl (Nat.le_of_ble_eq_true rfl) ((cp_6_1 cy ad aw (su_mo (su_ov σ (orM (fun t => s_th σ (6 * t + 2)) (s_n σ))) (orM (fun f => s_fe σ (5 * f + 2)) i)) (ju_us (ju_wh (ju_pe J (maskN (fun t => decide (s_th σ (6 * t) = 0)) (s_n σ))) (maskN (fun t => decide (s_th σ (6 * t) < 2)) (s_n σ))) (maskN (fun t => decide (s_th σ (6 * t + 5) = 1)) (s_n σ))) (orM (fun t => s_th σ (6 * t + 2)) (s_n σ)) (orM (fun f => s_fe σ (5 * f + 2)) (i + 1))).trans (congrArg (fun z => cw cy ad aw z (ju_us (ju_wh (ju_pe J (maskN (fun t => decide (s_th σ (6 * t) = 0)) (s_n σ))) (maskN (fun t => decide (s_th σ (6 * t) < 2)) (s_n σ))) (maskN (fun t => decide (s_th σ (6 * t + 5) = 1)) (s_n σ)))) (bk_c _ _ _ _ _))) dX3_beginDay_167 (fun H locs hP hD hS => ?_)
              refine ln_iinc (lv' := [(1, .int (nI (i + 1))), (0, .ref (ad 3))]) hx hb dX3_beginDay_170 hl (k := 0) (n := 1) rfl (by decide) rfl (fun ls hl => ?_)
              refine lv_goto (tgt := 135) hx hb dX3_beginDay_173 (by decide) ?_
              have hl : lv_has ls 3 [(1, .int (nI (i + 1))), (0, .ref (ad 3))] := lv_sub hl [0, 1] rfl
              exact ih_lq (i + 1) ls _ _ (by omega) hP hD hS hl
        have hl : lv_has ls 3 [(1, .int (nI (0))), (0, .ref (ad 3))] := lv_sub hl [0, 1] rfl
        have hP : va_P D vwCl (cw cy ad aw (su_mo (su_ov σ (orM (fun t => s_th σ (6 * t + 2)) (s_n σ))) (orM (fun f => s_fe σ (5 * f + 2)) 0)) (ju_us (ju_wh (ju_pe J (maskN (fun t => decide (s_th σ (6 * t) = 0)) (s_n σ))) (maskN (fun t => decide (s_th σ (6 * t) < 2)) (s_n σ))) (maskN (fun t => decide (s_th σ (6 * t + 5) = 1)) (s_n σ)))) _ := hP
        have hD : va_D A (cw cy ad aw (su_mo (su_ov σ (orM (fun t => s_th σ (6 * t + 2)) (s_n σ))) (orM (fun f => s_fe σ (5 * f + 2)) 0)) (ju_us (ju_wh (ju_pe J (maskN (fun t => decide (s_th σ (6 * t) = 0)) (s_n σ))) (maskN (fun t => decide (s_th σ (6 * t) < 2)) (s_n σ))) (maskN (fun t => decide (s_th σ (6 * t + 5) = 1)) (s_n σ)))) := hD
        exact lq (s_m σ - 0) 0 ls _ _ (by omega) hP hD hS hl
      · exact absurd c30 (by omega)
    | succ k_lp ih_lp =>
      intro i ls H locs hi_lp hP hD hS hl
      have hti := fun q : i < 8 => hwt i q
      have hti1 : s_th σ (6 * i) ≤ 3 ∨ 8 ≤ i := by rcases Nat.lt_or_ge i 8 with q | q; exact Or.inl (hti q).1; exact Or.inr q
      have hpi := fun q : i < 8 => pw_lt8 q
      refine lv_iload_n hx hb dX3_beginDay_25 rfl (lv_at hl 0 rfl) ?_
      refine lv_aload_n hx hb dX3_beginDay_26 rfl (lv_at hl 1 rfl) ?_
      refine va_get (D := D) (ci := 3) (v := .int (nI (s_n σ))) (C := RX3) (T := TX3) (N := 9) hx hb hts ni3 hown hK hP 3 (cw_c3 cy ad aw (su_mo (su_ov σ (orM (fun t => s_th σ (6 * t + 2)) i)) 0) (ju_us (ju_wh (ju_pe J (maskN (fun t => decide (s_th σ (6 * t) = 0)) i)) (maskN (fun t => decide (s_th σ (6 * t) < 2)) i)) (maskN (fun t => decide (s_th σ (6 * t + 5) = 1)) i))) rfl 3 (by decide) (hts _ flX3_30) (fun _ h => h) rfl dX3_beginDay_27 ?_
      refine ln_icmp_ge (tgt := 133) hx hb dX3_beginDay_30 (by decide) (by omega) (by omega) (fun c30 => ?_) (fun c30 => ?_)
      · exact absurd c30 (by omega)
      · have hi8 : i < 8 := by omega
        have hti := hti hi8
        have hti1 := hti.1
        have hpi := hpi hi8
        have hbk := bk_le (i := i) hti.2.2.1
        refine lv_aload_n hx hb dX3_beginDay_33 rfl (lv_at hl 1 rfl) ?_
        refine va_get (D := D) (ci := 3) (v := .ref (ad 4)) (C := RX3) (T := TX3) (N := 9) hx hb hts ni3 hown hK hP 3 (cw_c3 cy ad aw (su_mo (su_ov σ (orM (fun t => s_th σ (6 * t + 2)) i)) 0) (ju_us (ju_wh (ju_pe J (maskN (fun t => decide (s_th σ (6 * t) = 0)) i)) (maskN (fun t => decide (s_th σ (6 * t) < 2)) i)) (maskN (fun t => decide (s_th σ (6 * t + 5) = 1)) i))) rfl 0 (by decide) (hts _ flX3_11) (fun _ h => h) rfl dX3_beginDay_34 ?_
        refine lv_iload_n hx hb dX3_beginDay_37 rfl (lv_at hl 0 rfl) ?_
        refine ln_aald (x := ad (21 + i)) hx hb hK hP 4 5 (cw_c4 cy ad aw (su_mo (su_ov σ (orM (fun t => s_th σ (6 * t + 2)) i)) 0) (ju_us (ju_wh (ju_pe J (maskN (fun t => decide (s_th σ (6 * t) = 0)) i)) (maskN (fun t => decide (s_th σ (6 * t) < 2)) i)) (maskN (fun t => decide (s_th σ (6 * t + 5) = 1)) i))) rfl (by omega) (by decide) rfl dX3_beginDay_38 ?_
        refine lv_astore_n (lv' := [(2, .ref (ad (21 + i))), (1, .int (nI (i))), (0, .ref (ad 3))]) hx hb dX3_beginDay_39 rfl hl (by decide) rfl (fun ls hl => ?_)
        refine lv_aload_n hx hb dX3_beginDay_40 rfl (lv_at hl 2 rfl) ?_
        refine va_get (D := D) (ci := 3) (v := .ref (ad 6)) (C := RX3) (T := TX3) (N := 9) hx hb hts ni3 hown hK hP 3 (cw_c3 cy ad aw (su_mo (su_ov σ (orM (fun t => s_th σ (6 * t + 2)) i)) 0) (ju_us (ju_wh (ju_pe J (maskN (fun t => decide (s_th σ (6 * t) = 0)) i)) (maskN (fun t => decide (s_th σ (6 * t) < 2)) i)) (maskN (fun t => decide (s_th σ (6 * t + 5) = 1)) i))) rfl 2 (by decide) (hts _ flX3_26) (fun _ h => h) rfl dX3_beginDay_41 ?_
        refine lv_dup hx hb dX3_beginDay_44 rfl ?_
        refine va_get (D := D) (ci := 5) (v := .int (nI ((orM (fun t => s_th σ (6 * t + 2)) i) + 256 * 0))) (C := RX5) (T := TX5) (N := 5) hx hb hts ni5 hown hK hP 6 (cw_c6 cy ad aw (su_mo (su_ov σ (orM (fun t => s_th σ (6 * t + 2)) i)) 0) (ju_us (ju_wh (ju_pe J (maskN (fun t => decide (s_th σ (6 * t) = 0)) i)) (maskN (fun t => decide (s_th σ (6 * t) < 2)) i)) (maskN (fun t => decide (s_th σ (6 * t + 5) = 1)) i))) rfl 1 (by decide) (hts _ flX3_112) (fun _ h => h) rfl dX3_beginDay_45 ?_
        refine lv_aload_n hx hb dX3_beginDay_48 rfl (lv_at hl 0 rfl) ?_
        refine va_get (D := D) (ci := 8) (v := .int (nI (s_th σ (6 * i + 2)))) (C := RX8) (T := TX8) (N := 6) hx hb hts ni8 hown hK hP (21 + i) (cw_thing cy ad aw (su_mo (su_ov σ (orM (fun t => s_th σ (6 * t + 2)) i)) 0) (ju_us (ju_wh (ju_pe J (maskN (fun t => decide (s_th σ (6 * t) = 0)) i)) (maskN (fun t => decide (s_th σ (6 * t) < 2)) i)) (maskN (fun t => decide (s_th σ (6 * t + 5) = 1)) i)) (t := i) (by omega)) rfl 2 (by decide) (hts _ flX3_115) (fun _ h => h) rfl dX3_beginDay_49 ?_
        refine lv_iload_n hx hb dX3_beginDay_52 rfl (lv_at hl 1 rfl) ?_
        refine ln_ishl hx hb dX3_beginDay_53 (by omega) (by omega) ?_
        refine ln_ior hx hb dX3_beginDay_54 ?_
        refine ln_nat (show ((orM (fun t => s_th σ (6 * t + 2)) i) + 256 * 0) ||| ((s_th σ (6 * i + 2)) * 2 ^ i) = orM (fun t => s_th σ (6 * t + 2)) (i + 1) + 256 * 0 from orM_s (v := fun t => s_th σ (6 * t + 2))) ?_
        refine ln_put (ci := 5) (C := RX5) (T := TX5) (N := 5) (ty := .int) (v := .int (nI (orM (fun t => s_th σ (6 * t + 2)) (i + 1) + 256 * 0))) hx hb hts ni5 tyX5 tyX5_ok nmX5 hown hK hP hD hS 6 (cw_c6 cy ad aw (su_mo (su_ov σ (orM (fun t => s_th σ (6 * t + 2)) i)) 0) (ju_us (ju_wh (ju_pe J (maskN (fun t => decide (s_th σ (6 * t) = 0)) i)) (maskN (fun t => decide (s_th σ (6 * t) < 2)) i)) (maskN (fun t => decide (s_th σ (6 * t + 5) = 1)) i))) rfl 1 (by decide) (hts _ flX3_112) (fun _ h => h) rfl (by decide +kernel) rfl rfl (Nat.le_of_ble_eq_true rfl) ((cp_6_1 cy ad aw (su_mo (su_ov σ (orM (fun t => s_th σ (6 * t + 2)) i)) 0) (ju_us (ju_wh (ju_pe J (maskN (fun t => decide (s_th σ (6 * t) = 0)) i)) (maskN (fun t => decide (s_th σ (6 * t) < 2)) i)) (maskN (fun t => decide (s_th σ (6 * t + 5) = 1)) i)) (orM (fun t => s_th σ (6 * t + 2)) (i + 1)) 0).trans (congrArg (fun z => cw cy ad aw z (ju_us (ju_wh (ju_pe J (maskN (fun t => decide (s_th σ (6 * t) = 0)) i)) (maskN (fun t => decide (s_th σ (6 * t) < 2)) i)) (maskN (fun t => decide (s_th σ (6 * t + 5) = 1)) i))) (bk_c _ _ _ _ _))) dX3_beginDay_55 (fun H locs hP hD hS => ?_)
        refine lv_aload_n hx hb dX3_beginDay_58 rfl (lv_at hl 2 rfl) ?_
        refine lv_dup hx hb dX3_beginDay_59 rfl ?_
        refine va_get (D := D) (ci := 3) (v := .int (nI ((maskN (fun t => decide (s_th σ (6 * t) = 0)) i)))) (C := RX3) (T := TX3) (N := 9) hx hb hts ni3 hown hK hP 3 (cw_c3 cy ad aw (su_mo (su_ov σ (orM (fun t => s_th σ (6 * t + 2)) (i + 1))) 0) (ju_us (ju_wh (ju_pe J (maskN (fun t => decide (s_th σ (6 * t) = 0)) i)) (maskN (fun t => decide (s_th σ (6 * t) < 2)) i)) (maskN (fun t => decide (s_th σ (6 * t + 5) = 1)) i))) rfl 5 (by decide) (hts _ flX3_37) (fun _ h => h) rfl dX3_beginDay_60 ?_
        refine lv_aload_n hx hb dX3_beginDay_63 rfl (lv_at hl 0 rfl) ?_
        refine va_get (D := D) (ci := 8) (v := .int (nI (s_th σ (6 * i)))) (C := RX8) (T := TX8) (N := 6) hx hb hts ni8 hown hK hP (21 + i) (cw_thing cy ad aw (su_mo (su_ov σ (orM (fun t => s_th σ (6 * t + 2)) (i + 1))) 0) (ju_us (ju_wh (ju_pe J (maskN (fun t => decide (s_th σ (6 * t) = 0)) i)) (maskN (fun t => decide (s_th σ (6 * t) < 2)) i)) (maskN (fun t => decide (s_th σ (6 * t + 5) = 1)) i)) (t := i) (by omega)) rfl 0 (by decide) (hts _ flX3_118) (fun _ h => h) rfl dX3_beginDay_64 ?_
        refine ln_if_ne (tgt := 76) hx hb dX3_beginDay_67 (by decide) (by omega) (fun c67 => ?_) (fun c67 => ?_)
        · refine lv_iconst (v := nI 0) hx hb dX3_beginDay_76 (by decide) ?_
          refine ln_ior hx hb dX3_beginDay_77 ?_
          refine ln_nat (show (maskN (fun t => decide (s_th σ (6 * t) = 0)) i) ||| 0 = maskN (fun t => decide (s_th σ (6 * t) = 0)) (i + 1) from by first | exact mask_t (g := fun t => decide (s_th σ (6 * t) = 0)) (decide_eq_true (by omega)) | exact mask_f (g := fun t => decide (s_th σ (6 * t) = 0)) (decide_eq_false (by omega))) ?_
          refine ln_put (ci := 3) (C := RX3) (T := TX3) (N := 9) (ty := .int) (v := .int (nI (maskN (fun t => decide (s_th σ (6 * t) = 0)) (i + 1)))) hx hb hts ni3 tyX3 tyX3_ok nmX3 hown hK hP hD hS 3 (cw_c3 cy ad aw (su_mo (su_ov σ (orM (fun t => s_th σ (6 * t + 2)) (i + 1))) 0) (ju_us (ju_wh (ju_pe J (maskN (fun t => decide (s_th σ (6 * t) = 0)) i)) (maskN (fun t => decide (s_th σ (6 * t) < 2)) i)) (maskN (fun t => decide (s_th σ (6 * t + 5) = 1)) i))) rfl 5 (by decide) (hts _ flX3_37) (fun _ h => h) rfl (by decide +kernel) rfl rfl (Nat.le_of_ble_eq_true rfl) ((cp_3_5 cy ad aw (su_mo (su_ov σ (orM (fun t => s_th σ (6 * t + 2)) (i + 1))) 0) (ju_us (ju_wh (ju_pe J (maskN (fun t => decide (s_th σ (6 * t) = 0)) i)) (maskN (fun t => decide (s_th σ (6 * t) < 2)) i)) (maskN (fun t => decide (s_th σ (6 * t + 5) = 1)) i)) (maskN (fun t => decide (s_th σ (6 * t) = 0)) (i + 1))).trans (congrArg (fun z => cw cy ad aw (su_mo (su_ov σ (orM (fun t => s_th σ (6 * t + 2)) (i + 1))) 0) z) (by rw [jx_pe_us, jx_pe_wh, jc_pe]))) dX3_beginDay_78 (fun H locs hP hD hS => ?_)
          refine lv_aload_n hx hb dX3_beginDay_81 rfl (lv_at hl 2 rfl) ?_
          refine lv_dup hx hb dX3_beginDay_82 rfl ?_
          refine va_get (D := D) (ci := 3) (v := .int (nI ((maskN (fun t => decide (s_th σ (6 * t) < 2)) i)))) (C := RX3) (T := TX3) (N := 9) hx hb hts ni3 hown hK hP 3 (cw_c3 cy ad aw (su_mo (su_ov σ (orM (fun t => s_th σ (6 * t + 2)) (i + 1))) 0) (ju_us (ju_wh (ju_pe J (maskN (fun t => decide (s_th σ (6 * t) = 0)) (i + 1))) (maskN (fun t => decide (s_th σ (6 * t) < 2)) i)) (maskN (fun t => decide (s_th σ (6 * t + 5) = 1)) i))) rfl 6 (by decide) (hts _ flX3_40) (fun _ h => h) rfl dX3_beginDay_83 ?_
          refine lv_aload_n hx hb dX3_beginDay_86 rfl (lv_at hl 0 rfl) ?_
          refine cr_v (n := 0) (As := []) (rest := [.int (nI ((maskN (fun t => decide (s_th σ (6 * t) < 2)) i))), .ref (ad 3)]) ⟨hx, hb, hml, hown, hts⟩ (k_hasHatV l D cy ad aw (su_mo (su_ov σ (orM (fun t => s_th σ (6 * t + 2)) (i + 1))) 0) (ju_us (ju_wh (ju_pe J (maskN (fun t => decide (s_th σ (6 * t) = 0)) (i + 1))) (maskN (fun t => decide (s_th σ (6 * t) < 2)) i)) (maskN (fun t => decide (s_th σ (6 * t + 5) = 1)) i)) i hti1 (by omega)) gvX3_121 (by decide +kernel) ⟨Nat.le_of_ble_eq_true rfl, Nat.le_of_ble_eq_true rfl⟩ hK hN hP (21 + i) (cw_thing cy ad aw (su_mo (su_ov σ (orM (fun t => s_th σ (6 * t + 2)) (i + 1))) 0) (ju_us (ju_wh (ju_pe J (maskN (fun t => decide (s_th σ (6 * t) = 0)) (i + 1))) (maskN (fun t => decide (s_th σ (6 * t) < 2)) i)) (maskN (fun t => decide (s_th σ (6 * t + 5) = 1)) i)) (t := i) (by omega)) rfl rfl hl.1 rfl (Nat.le_of_ble_eq_true rfl) dX3_beginDay_87 ⟨Nat.zero_le _, Nat.zero_le _⟩ ?_
          refine lb_if_eq (tgt := 99) hx hb dX3_beginDay_90 (by decide) (fun c90 => ?_) (fun c90 => ?_)
          · refine lv_iconst (v := nI 0) hx hb dX3_beginDay_99 (by decide) ?_
            refine ln_ior hx hb dX3_beginDay_100 ?_
            refine ln_nat (show (maskN (fun t => decide (s_th σ (6 * t) < 2)) i) ||| 0 = maskN (fun t => decide (s_th σ (6 * t) < 2)) (i + 1) from by first | exact mask_t (g := fun t => decide (s_th σ (6 * t) < 2)) (c90) | exact mask_f (g := fun t => decide (s_th σ (6 * t) < 2)) (c90)) ?_
            refine ln_put (ci := 3) (C := RX3) (T := TX3) (N := 9) (ty := .int) (v := .int (nI (maskN (fun t => decide (s_th σ (6 * t) < 2)) (i + 1)))) hx hb hts ni3 tyX3 tyX3_ok nmX3 hown hK hP hD hS 3 (cw_c3 cy ad aw (su_mo (su_ov σ (orM (fun t => s_th σ (6 * t + 2)) (i + 1))) 0) (ju_us (ju_wh (ju_pe J (maskN (fun t => decide (s_th σ (6 * t) = 0)) (i + 1))) (maskN (fun t => decide (s_th σ (6 * t) < 2)) i)) (maskN (fun t => decide (s_th σ (6 * t + 5) = 1)) i))) rfl 6 (by decide) (hts _ flX3_40) (fun _ h => h) rfl (by decide +kernel) rfl rfl (Nat.le_of_ble_eq_true rfl) ((cp_3_6 cy ad aw (su_mo (su_ov σ (orM (fun t => s_th σ (6 * t + 2)) (i + 1))) 0) (ju_us (ju_wh (ju_pe J (maskN (fun t => decide (s_th σ (6 * t) = 0)) (i + 1))) (maskN (fun t => decide (s_th σ (6 * t) < 2)) i)) (maskN (fun t => decide (s_th σ (6 * t + 5) = 1)) i)) (maskN (fun t => decide (s_th σ (6 * t) < 2)) (i + 1))).trans (congrArg (fun z => cw cy ad aw (su_mo (su_ov σ (orM (fun t => s_th σ (6 * t + 2)) (i + 1))) 0) z) (by rw [jx_wh_us, jc_wh]))) dX3_beginDay_101 (fun H locs hP hD hS => ?_)
            refine lv_aload_n hx hb dX3_beginDay_104 rfl (lv_at hl 2 rfl) ?_
            refine lv_dup hx hb dX3_beginDay_105 rfl ?_
            refine va_get (D := D) (ci := 3) (v := .int (nI ((maskN (fun t => decide (s_th σ (6 * t + 5) = 1)) i)))) (C := RX3) (T := TX3) (N := 9) hx hb hts ni3 hown hK hP 3 (cw_c3 cy ad aw (su_mo (su_ov σ (orM (fun t => s_th σ (6 * t + 2)) (i + 1))) 0) (ju_us (ju_wh (ju_pe J (maskN (fun t => decide (s_th σ (6 * t) = 0)) (i + 1))) (maskN (fun t => decide (s_th σ (6 * t) < 2)) (i + 1))) (maskN (fun t => decide (s_th σ (6 * t + 5) = 1)) i))) rfl 7 (by decide) (hts _ flX3_43) (fun _ h => h) rfl dX3_beginDay_106 ?_
            refine lv_aload_n hx hb dX3_beginDay_109 rfl (lv_at hl 0 rfl) ?_
            refine va_get (D := D) (ci := 8) (v := .int (nI (s_th σ (6 * i + 5)))) (C := RX8) (T := TX8) (N := 6) hx hb hts ni8 hown hK hP (21 + i) (cw_thing cy ad aw (su_mo (su_ov σ (orM (fun t => s_th σ (6 * t + 2)) (i + 1))) 0) (ju_us (ju_wh (ju_pe J (maskN (fun t => decide (s_th σ (6 * t) = 0)) (i + 1))) (maskN (fun t => decide (s_th σ (6 * t) < 2)) (i + 1))) (maskN (fun t => decide (s_th σ (6 * t + 5) = 1)) i)) (t := i) (by omega)) rfl 5 (by decide) (hts _ flX3_109) (fun _ h => h) rfl dX3_beginDay_110 ?_
            refine ln_if_eq (tgt := 122) hx hb dX3_beginDay_113 (by decide) (by omega) (fun c113 => ?_) (fun c113 => ?_)
            · refine lv_iconst (v := nI 0) hx hb dX3_beginDay_122 (by decide) ?_
              refine ln_ior hx hb dX3_beginDay_123 ?_
              refine ln_nat (show (maskN (fun t => decide (s_th σ (6 * t + 5) = 1)) i) ||| 0 = maskN (fun t => decide (s_th σ (6 * t + 5) = 1)) (i + 1) from by first | exact mask_t (g := fun t => decide (s_th σ (6 * t + 5) = 1)) (decide_eq_true (by omega)) | exact mask_f (g := fun t => decide (s_th σ (6 * t + 5) = 1)) (decide_eq_false (by omega))) ?_
              refine ln_put (ci := 3) (C := RX3) (T := TX3) (N := 9) (ty := .int) (v := .int (nI (maskN (fun t => decide (s_th σ (6 * t + 5) = 1)) (i + 1)))) hx hb hts ni3 tyX3 tyX3_ok nmX3 hown hK hP hD hS 3 (cw_c3 cy ad aw (su_mo (su_ov σ (orM (fun t => s_th σ (6 * t + 2)) (i + 1))) 0) (ju_us (ju_wh (ju_pe J (maskN (fun t => decide (s_th σ (6 * t) = 0)) (i + 1))) (maskN (fun t => decide (s_th σ (6 * t) < 2)) (i + 1))) (maskN (fun t => decide (s_th σ (6 * t + 5) = 1)) i))) rfl 7 (by decide) (hts _ flX3_43) (fun _ h => h) rfl (by decide +kernel) rfl rfl (Nat.le_of_ble_eq_true rfl) ((cp_3_7 cy ad aw (su_mo (su_ov σ (orM (fun t => s_th σ (6 * t + 2)) (i + 1))) 0) (ju_us (ju_wh (ju_pe J (maskN (fun t => decide (s_th σ (6 * t) = 0)) (i + 1))) (maskN (fun t => decide (s_th σ (6 * t) < 2)) (i + 1))) (maskN (fun t => decide (s_th σ (6 * t + 5) = 1)) i)) (maskN (fun t => decide (s_th σ (6 * t + 5) = 1)) (i + 1))).trans (congrArg (fun z => cw cy ad aw (su_mo (su_ov σ (orM (fun t => s_th σ (6 * t + 2)) (i + 1))) 0) z) (by rw [jc_us]))) dX3_beginDay_124 (fun H locs hP hD hS => ?_)
              refine ln_iinc (lv' := [(1, .int (nI (i + 1))), (2, .ref (ad (21 + i))), (0, .ref (ad 3))]) hx hb dX3_beginDay_127 hl (k := 1) (n := 1) rfl (by decide) rfl (fun ls hl => ?_)
              refine lv_goto (tgt := 25) hx hb dX3_beginDay_130 (by decide) ?_
              have hl : lv_has ls 3 [(1, .int (nI (i + 1))), (0, .ref (ad 3))] := lv_sub hl [0, 2] rfl
              exact ih_lp (i + 1) ls _ _ (by omega) hP hD hS hl
            · refine lv_iconst (v := nI 1) hx hb dX3_beginDay_116 (by decide) ?_
              refine lv_iload_n hx hb dX3_beginDay_117 rfl (lv_at hl 1 rfl) ?_
              refine ln_ishl hx hb dX3_beginDay_118 (by omega) (by omega) ?_
              refine lv_goto (tgt := 123) hx hb dX3_beginDay_119 (by decide) ?_
              refine ln_ior hx hb dX3_beginDay_123 ?_
              refine ln_nat (show (maskN (fun t => decide (s_th σ (6 * t + 5) = 1)) i) ||| (1 * 2 ^ i) = maskN (fun t => decide (s_th σ (6 * t + 5) = 1)) (i + 1) from by first | exact mask_t (g := fun t => decide (s_th σ (6 * t + 5) = 1)) (decide_eq_true (by omega)) | exact mask_f (g := fun t => decide (s_th σ (6 * t + 5) = 1)) (decide_eq_false (by omega))) ?_
              refine ln_put (ci := 3) (C := RX3) (T := TX3) (N := 9) (ty := .int) (v := .int (nI (maskN (fun t => decide (s_th σ (6 * t + 5) = 1)) (i + 1)))) hx hb hts ni3 tyX3 tyX3_ok nmX3 hown hK hP hD hS 3 (cw_c3 cy ad aw (su_mo (su_ov σ (orM (fun t => s_th σ (6 * t + 2)) (i + 1))) 0) (ju_us (ju_wh (ju_pe J (maskN (fun t => decide (s_th σ (6 * t) = 0)) (i + 1))) (maskN (fun t => decide (s_th σ (6 * t) < 2)) (i + 1))) (maskN (fun t => decide (s_th σ (6 * t + 5) = 1)) i))) rfl 7 (by decide) (hts _ flX3_43) (fun _ h => h) rfl (by decide +kernel) rfl rfl (Nat.le_of_ble_eq_true rfl) ((cp_3_7 cy ad aw (su_mo (su_ov σ (orM (fun t => s_th σ (6 * t + 2)) (i + 1))) 0) (ju_us (ju_wh (ju_pe J (maskN (fun t => decide (s_th σ (6 * t) = 0)) (i + 1))) (maskN (fun t => decide (s_th σ (6 * t) < 2)) (i + 1))) (maskN (fun t => decide (s_th σ (6 * t + 5) = 1)) i)) (maskN (fun t => decide (s_th σ (6 * t + 5) = 1)) (i + 1))).trans (congrArg (fun z => cw cy ad aw (su_mo (su_ov σ (orM (fun t => s_th σ (6 * t + 2)) (i + 1))) 0) z) (by rw [jc_us]))) dX3_beginDay_124 (fun H locs hP hD hS => ?_)
              refine ln_iinc (lv' := [(1, .int (nI (i + 1))), (2, .ref (ad (21 + i))), (0, .ref (ad 3))]) hx hb dX3_beginDay_127 hl (k := 1) (n := 1) rfl (by decide) rfl (fun ls hl => ?_)
              refine lv_goto (tgt := 25) hx hb dX3_beginDay_130 (by decide) ?_
              have hl : lv_has ls 3 [(1, .int (nI (i + 1))), (0, .ref (ad 3))] := lv_sub hl [0, 2] rfl
              exact ih_lp (i + 1) ls _ _ (by omega) hP hD hS hl
          · refine lv_iconst (v := nI 1) hx hb dX3_beginDay_93 (by decide) ?_
            refine lv_iload_n hx hb dX3_beginDay_94 rfl (lv_at hl 1 rfl) ?_
            refine ln_ishl hx hb dX3_beginDay_95 (by omega) (by omega) ?_
            refine lv_goto (tgt := 100) hx hb dX3_beginDay_96 (by decide) ?_
            refine ln_ior hx hb dX3_beginDay_100 ?_
            refine ln_nat (show (maskN (fun t => decide (s_th σ (6 * t) < 2)) i) ||| (1 * 2 ^ i) = maskN (fun t => decide (s_th σ (6 * t) < 2)) (i + 1) from by first | exact mask_t (g := fun t => decide (s_th σ (6 * t) < 2)) (c90) | exact mask_f (g := fun t => decide (s_th σ (6 * t) < 2)) (c90)) ?_
            refine ln_put (ci := 3) (C := RX3) (T := TX3) (N := 9) (ty := .int) (v := .int (nI (maskN (fun t => decide (s_th σ (6 * t) < 2)) (i + 1)))) hx hb hts ni3 tyX3 tyX3_ok nmX3 hown hK hP hD hS 3 (cw_c3 cy ad aw (su_mo (su_ov σ (orM (fun t => s_th σ (6 * t + 2)) (i + 1))) 0) (ju_us (ju_wh (ju_pe J (maskN (fun t => decide (s_th σ (6 * t) = 0)) (i + 1))) (maskN (fun t => decide (s_th σ (6 * t) < 2)) i)) (maskN (fun t => decide (s_th σ (6 * t + 5) = 1)) i))) rfl 6 (by decide) (hts _ flX3_40) (fun _ h => h) rfl (by decide +kernel) rfl rfl (Nat.le_of_ble_eq_true rfl) ((cp_3_6 cy ad aw (su_mo (su_ov σ (orM (fun t => s_th σ (6 * t + 2)) (i + 1))) 0) (ju_us (ju_wh (ju_pe J (maskN (fun t => decide (s_th σ (6 * t) = 0)) (i + 1))) (maskN (fun t => decide (s_th σ (6 * t) < 2)) i)) (maskN (fun t => decide (s_th σ (6 * t + 5) = 1)) i)) (maskN (fun t => decide (s_th σ (6 * t) < 2)) (i + 1))).trans (congrArg (fun z => cw cy ad aw (su_mo (su_ov σ (orM (fun t => s_th σ (6 * t + 2)) (i + 1))) 0) z) (by rw [jx_wh_us, jc_wh]))) dX3_beginDay_101 (fun H locs hP hD hS => ?_)
            refine lv_aload_n hx hb dX3_beginDay_104 rfl (lv_at hl 2 rfl) ?_
            refine lv_dup hx hb dX3_beginDay_105 rfl ?_
            refine va_get (D := D) (ci := 3) (v := .int (nI ((maskN (fun t => decide (s_th σ (6 * t + 5) = 1)) i)))) (C := RX3) (T := TX3) (N := 9) hx hb hts ni3 hown hK hP 3 (cw_c3 cy ad aw (su_mo (su_ov σ (orM (fun t => s_th σ (6 * t + 2)) (i + 1))) 0) (ju_us (ju_wh (ju_pe J (maskN (fun t => decide (s_th σ (6 * t) = 0)) (i + 1))) (maskN (fun t => decide (s_th σ (6 * t) < 2)) (i + 1))) (maskN (fun t => decide (s_th σ (6 * t + 5) = 1)) i))) rfl 7 (by decide) (hts _ flX3_43) (fun _ h => h) rfl dX3_beginDay_106 ?_
            refine lv_aload_n hx hb dX3_beginDay_109 rfl (lv_at hl 0 rfl) ?_
            refine va_get (D := D) (ci := 8) (v := .int (nI (s_th σ (6 * i + 5)))) (C := RX8) (T := TX8) (N := 6) hx hb hts ni8 hown hK hP (21 + i) (cw_thing cy ad aw (su_mo (su_ov σ (orM (fun t => s_th σ (6 * t + 2)) (i + 1))) 0) (ju_us (ju_wh (ju_pe J (maskN (fun t => decide (s_th σ (6 * t) = 0)) (i + 1))) (maskN (fun t => decide (s_th σ (6 * t) < 2)) (i + 1))) (maskN (fun t => decide (s_th σ (6 * t + 5) = 1)) i)) (t := i) (by omega)) rfl 5 (by decide) (hts _ flX3_109) (fun _ h => h) rfl dX3_beginDay_110 ?_
            refine ln_if_eq (tgt := 122) hx hb dX3_beginDay_113 (by decide) (by omega) (fun c113 => ?_) (fun c113 => ?_)
            · refine lv_iconst (v := nI 0) hx hb dX3_beginDay_122 (by decide) ?_
              refine ln_ior hx hb dX3_beginDay_123 ?_
              refine ln_nat (show (maskN (fun t => decide (s_th σ (6 * t + 5) = 1)) i) ||| 0 = maskN (fun t => decide (s_th σ (6 * t + 5) = 1)) (i + 1) from by first | exact mask_t (g := fun t => decide (s_th σ (6 * t + 5) = 1)) (decide_eq_true (by omega)) | exact mask_f (g := fun t => decide (s_th σ (6 * t + 5) = 1)) (decide_eq_false (by omega))) ?_
              refine ln_put (ci := 3) (C := RX3) (T := TX3) (N := 9) (ty := .int) (v := .int (nI (maskN (fun t => decide (s_th σ (6 * t + 5) = 1)) (i + 1)))) hx hb hts ni3 tyX3 tyX3_ok nmX3 hown hK hP hD hS 3 (cw_c3 cy ad aw (su_mo (su_ov σ (orM (fun t => s_th σ (6 * t + 2)) (i + 1))) 0) (ju_us (ju_wh (ju_pe J (maskN (fun t => decide (s_th σ (6 * t) = 0)) (i + 1))) (maskN (fun t => decide (s_th σ (6 * t) < 2)) (i + 1))) (maskN (fun t => decide (s_th σ (6 * t + 5) = 1)) i))) rfl 7 (by decide) (hts _ flX3_43) (fun _ h => h) rfl (by decide +kernel) rfl rfl (Nat.le_of_ble_eq_true rfl) ((cp_3_7 cy ad aw (su_mo (su_ov σ (orM (fun t => s_th σ (6 * t + 2)) (i + 1))) 0) (ju_us (ju_wh (ju_pe J (maskN (fun t => decide (s_th σ (6 * t) = 0)) (i + 1))) (maskN (fun t => decide (s_th σ (6 * t) < 2)) (i + 1))) (maskN (fun t => decide (s_th σ (6 * t + 5) = 1)) i)) (maskN (fun t => decide (s_th σ (6 * t + 5) = 1)) (i + 1))).trans (congrArg (fun z => cw cy ad aw (su_mo (su_ov σ (orM (fun t => s_th σ (6 * t + 2)) (i + 1))) 0) z) (by rw [jc_us]))) dX3_beginDay_124 (fun H locs hP hD hS => ?_)
              refine ln_iinc (lv' := [(1, .int (nI (i + 1))), (2, .ref (ad (21 + i))), (0, .ref (ad 3))]) hx hb dX3_beginDay_127 hl (k := 1) (n := 1) rfl (by decide) rfl (fun ls hl => ?_)
              refine lv_goto (tgt := 25) hx hb dX3_beginDay_130 (by decide) ?_
              have hl : lv_has ls 3 [(1, .int (nI (i + 1))), (0, .ref (ad 3))] := lv_sub hl [0, 2] rfl
              exact ih_lp (i + 1) ls _ _ (by omega) hP hD hS hl
            · refine lv_iconst (v := nI 1) hx hb dX3_beginDay_116 (by decide) ?_
              refine lv_iload_n hx hb dX3_beginDay_117 rfl (lv_at hl 1 rfl) ?_
              refine ln_ishl hx hb dX3_beginDay_118 (by omega) (by omega) ?_
              refine lv_goto (tgt := 123) hx hb dX3_beginDay_119 (by decide) ?_
              refine ln_ior hx hb dX3_beginDay_123 ?_
              refine ln_nat (show (maskN (fun t => decide (s_th σ (6 * t + 5) = 1)) i) ||| (1 * 2 ^ i) = maskN (fun t => decide (s_th σ (6 * t + 5) = 1)) (i + 1) from by first | exact mask_t (g := fun t => decide (s_th σ (6 * t + 5) = 1)) (decide_eq_true (by omega)) | exact mask_f (g := fun t => decide (s_th σ (6 * t + 5) = 1)) (decide_eq_false (by omega))) ?_
              refine ln_put (ci := 3) (C := RX3) (T := TX3) (N := 9) (ty := .int) (v := .int (nI (maskN (fun t => decide (s_th σ (6 * t + 5) = 1)) (i + 1)))) hx hb hts ni3 tyX3 tyX3_ok nmX3 hown hK hP hD hS 3 (cw_c3 cy ad aw (su_mo (su_ov σ (orM (fun t => s_th σ (6 * t + 2)) (i + 1))) 0) (ju_us (ju_wh (ju_pe J (maskN (fun t => decide (s_th σ (6 * t) = 0)) (i + 1))) (maskN (fun t => decide (s_th σ (6 * t) < 2)) (i + 1))) (maskN (fun t => decide (s_th σ (6 * t + 5) = 1)) i))) rfl 7 (by decide) (hts _ flX3_43) (fun _ h => h) rfl (by decide +kernel) rfl rfl (Nat.le_of_ble_eq_true rfl) ((cp_3_7 cy ad aw (su_mo (su_ov σ (orM (fun t => s_th σ (6 * t + 2)) (i + 1))) 0) (ju_us (ju_wh (ju_pe J (maskN (fun t => decide (s_th σ (6 * t) = 0)) (i + 1))) (maskN (fun t => decide (s_th σ (6 * t) < 2)) (i + 1))) (maskN (fun t => decide (s_th σ (6 * t + 5) = 1)) i)) (maskN (fun t => decide (s_th σ (6 * t + 5) = 1)) (i + 1))).trans (congrArg (fun z => cw cy ad aw (su_mo (su_ov σ (orM (fun t => s_th σ (6 * t + 2)) (i + 1))) 0) z) (by rw [jc_us]))) dX3_beginDay_124 (fun H locs hP hD hS => ?_)
              refine ln_iinc (lv' := [(1, .int (nI (i + 1))), (2, .ref (ad (21 + i))), (0, .ref (ad 3))]) hx hb dX3_beginDay_127 hl (k := 1) (n := 1) rfl (by decide) rfl (fun ls hl => ?_)
              refine lv_goto (tgt := 25) hx hb dX3_beginDay_130 (by decide) ?_
              have hl : lv_has ls 3 [(1, .int (nI (i + 1))), (0, .ref (ad 3))] := lv_sub hl [0, 2] rfl
              exact ih_lp (i + 1) ls _ _ (by omega) hP hD hS hl
        · refine lv_iconst (v := nI 1) hx hb dX3_beginDay_70 (by decide) ?_
          refine lv_iload_n hx hb dX3_beginDay_71 rfl (lv_at hl 1 rfl) ?_
          refine ln_ishl hx hb dX3_beginDay_72 (by omega) (by omega) ?_
          refine lv_goto (tgt := 77) hx hb dX3_beginDay_73 (by decide) ?_
          refine ln_ior hx hb dX3_beginDay_77 ?_
          refine ln_nat (show (maskN (fun t => decide (s_th σ (6 * t) = 0)) i) ||| (1 * 2 ^ i) = maskN (fun t => decide (s_th σ (6 * t) = 0)) (i + 1) from by first | exact mask_t (g := fun t => decide (s_th σ (6 * t) = 0)) (decide_eq_true (by omega)) | exact mask_f (g := fun t => decide (s_th σ (6 * t) = 0)) (decide_eq_false (by omega))) ?_
          refine ln_put (ci := 3) (C := RX3) (T := TX3) (N := 9) (ty := .int) (v := .int (nI (maskN (fun t => decide (s_th σ (6 * t) = 0)) (i + 1)))) hx hb hts ni3 tyX3 tyX3_ok nmX3 hown hK hP hD hS 3 (cw_c3 cy ad aw (su_mo (su_ov σ (orM (fun t => s_th σ (6 * t + 2)) (i + 1))) 0) (ju_us (ju_wh (ju_pe J (maskN (fun t => decide (s_th σ (6 * t) = 0)) i)) (maskN (fun t => decide (s_th σ (6 * t) < 2)) i)) (maskN (fun t => decide (s_th σ (6 * t + 5) = 1)) i))) rfl 5 (by decide) (hts _ flX3_37) (fun _ h => h) rfl (by decide +kernel) rfl rfl (Nat.le_of_ble_eq_true rfl) ((cp_3_5 cy ad aw (su_mo (su_ov σ (orM (fun t => s_th σ (6 * t + 2)) (i + 1))) 0) (ju_us (ju_wh (ju_pe J (maskN (fun t => decide (s_th σ (6 * t) = 0)) i)) (maskN (fun t => decide (s_th σ (6 * t) < 2)) i)) (maskN (fun t => decide (s_th σ (6 * t + 5) = 1)) i)) (maskN (fun t => decide (s_th σ (6 * t) = 0)) (i + 1))).trans (congrArg (fun z => cw cy ad aw (su_mo (su_ov σ (orM (fun t => s_th σ (6 * t + 2)) (i + 1))) 0) z) (by rw [jx_pe_us, jx_pe_wh, jc_pe]))) dX3_beginDay_78 (fun H locs hP hD hS => ?_)
          refine lv_aload_n hx hb dX3_beginDay_81 rfl (lv_at hl 2 rfl) ?_
          refine lv_dup hx hb dX3_beginDay_82 rfl ?_
          refine va_get (D := D) (ci := 3) (v := .int (nI ((maskN (fun t => decide (s_th σ (6 * t) < 2)) i)))) (C := RX3) (T := TX3) (N := 9) hx hb hts ni3 hown hK hP 3 (cw_c3 cy ad aw (su_mo (su_ov σ (orM (fun t => s_th σ (6 * t + 2)) (i + 1))) 0) (ju_us (ju_wh (ju_pe J (maskN (fun t => decide (s_th σ (6 * t) = 0)) (i + 1))) (maskN (fun t => decide (s_th σ (6 * t) < 2)) i)) (maskN (fun t => decide (s_th σ (6 * t + 5) = 1)) i))) rfl 6 (by decide) (hts _ flX3_40) (fun _ h => h) rfl dX3_beginDay_83 ?_
          refine lv_aload_n hx hb dX3_beginDay_86 rfl (lv_at hl 0 rfl) ?_
          refine cr_v (n := 0) (As := []) (rest := [.int (nI ((maskN (fun t => decide (s_th σ (6 * t) < 2)) i))), .ref (ad 3)]) ⟨hx, hb, hml, hown, hts⟩ (k_hasHatV l D cy ad aw (su_mo (su_ov σ (orM (fun t => s_th σ (6 * t + 2)) (i + 1))) 0) (ju_us (ju_wh (ju_pe J (maskN (fun t => decide (s_th σ (6 * t) = 0)) (i + 1))) (maskN (fun t => decide (s_th σ (6 * t) < 2)) i)) (maskN (fun t => decide (s_th σ (6 * t + 5) = 1)) i)) i hti1 (by omega)) gvX3_121 (by decide +kernel) ⟨Nat.le_of_ble_eq_true rfl, Nat.le_of_ble_eq_true rfl⟩ hK hN hP (21 + i) (cw_thing cy ad aw (su_mo (su_ov σ (orM (fun t => s_th σ (6 * t + 2)) (i + 1))) 0) (ju_us (ju_wh (ju_pe J (maskN (fun t => decide (s_th σ (6 * t) = 0)) (i + 1))) (maskN (fun t => decide (s_th σ (6 * t) < 2)) i)) (maskN (fun t => decide (s_th σ (6 * t + 5) = 1)) i)) (t := i) (by omega)) rfl rfl hl.1 rfl (Nat.le_of_ble_eq_true rfl) dX3_beginDay_87 ⟨Nat.zero_le _, Nat.zero_le _⟩ ?_
          refine lb_if_eq (tgt := 99) hx hb dX3_beginDay_90 (by decide) (fun c90 => ?_) (fun c90 => ?_)
          · refine lv_iconst (v := nI 0) hx hb dX3_beginDay_99 (by decide) ?_
            refine ln_ior hx hb dX3_beginDay_100 ?_
            refine ln_nat (show (maskN (fun t => decide (s_th σ (6 * t) < 2)) i) ||| 0 = maskN (fun t => decide (s_th σ (6 * t) < 2)) (i + 1) from by first | exact mask_t (g := fun t => decide (s_th σ (6 * t) < 2)) (c90) | exact mask_f (g := fun t => decide (s_th σ (6 * t) < 2)) (c90)) ?_
            refine ln_put (ci := 3) (C := RX3) (T := TX3) (N := 9) (ty := .int) (v := .int (nI (maskN (fun t => decide (s_th σ (6 * t) < 2)) (i + 1)))) hx hb hts ni3 tyX3 tyX3_ok nmX3 hown hK hP hD hS 3 (cw_c3 cy ad aw (su_mo (su_ov σ (orM (fun t => s_th σ (6 * t + 2)) (i + 1))) 0) (ju_us (ju_wh (ju_pe J (maskN (fun t => decide (s_th σ (6 * t) = 0)) (i + 1))) (maskN (fun t => decide (s_th σ (6 * t) < 2)) i)) (maskN (fun t => decide (s_th σ (6 * t + 5) = 1)) i))) rfl 6 (by decide) (hts _ flX3_40) (fun _ h => h) rfl (by decide +kernel) rfl rfl (Nat.le_of_ble_eq_true rfl) ((cp_3_6 cy ad aw (su_mo (su_ov σ (orM (fun t => s_th σ (6 * t + 2)) (i + 1))) 0) (ju_us (ju_wh (ju_pe J (maskN (fun t => decide (s_th σ (6 * t) = 0)) (i + 1))) (maskN (fun t => decide (s_th σ (6 * t) < 2)) i)) (maskN (fun t => decide (s_th σ (6 * t + 5) = 1)) i)) (maskN (fun t => decide (s_th σ (6 * t) < 2)) (i + 1))).trans (congrArg (fun z => cw cy ad aw (su_mo (su_ov σ (orM (fun t => s_th σ (6 * t + 2)) (i + 1))) 0) z) (by rw [jx_wh_us, jc_wh]))) dX3_beginDay_101 (fun H locs hP hD hS => ?_)
            refine lv_aload_n hx hb dX3_beginDay_104 rfl (lv_at hl 2 rfl) ?_
            refine lv_dup hx hb dX3_beginDay_105 rfl ?_
            refine va_get (D := D) (ci := 3) (v := .int (nI ((maskN (fun t => decide (s_th σ (6 * t + 5) = 1)) i)))) (C := RX3) (T := TX3) (N := 9) hx hb hts ni3 hown hK hP 3 (cw_c3 cy ad aw (su_mo (su_ov σ (orM (fun t => s_th σ (6 * t + 2)) (i + 1))) 0) (ju_us (ju_wh (ju_pe J (maskN (fun t => decide (s_th σ (6 * t) = 0)) (i + 1))) (maskN (fun t => decide (s_th σ (6 * t) < 2)) (i + 1))) (maskN (fun t => decide (s_th σ (6 * t + 5) = 1)) i))) rfl 7 (by decide) (hts _ flX3_43) (fun _ h => h) rfl dX3_beginDay_106 ?_
            refine lv_aload_n hx hb dX3_beginDay_109 rfl (lv_at hl 0 rfl) ?_
            refine va_get (D := D) (ci := 8) (v := .int (nI (s_th σ (6 * i + 5)))) (C := RX8) (T := TX8) (N := 6) hx hb hts ni8 hown hK hP (21 + i) (cw_thing cy ad aw (su_mo (su_ov σ (orM (fun t => s_th σ (6 * t + 2)) (i + 1))) 0) (ju_us (ju_wh (ju_pe J (maskN (fun t => decide (s_th σ (6 * t) = 0)) (i + 1))) (maskN (fun t => decide (s_th σ (6 * t) < 2)) (i + 1))) (maskN (fun t => decide (s_th σ (6 * t + 5) = 1)) i)) (t := i) (by omega)) rfl 5 (by decide) (hts _ flX3_109) (fun _ h => h) rfl dX3_beginDay_110 ?_
            refine ln_if_eq (tgt := 122) hx hb dX3_beginDay_113 (by decide) (by omega) (fun c113 => ?_) (fun c113 => ?_)
            · refine lv_iconst (v := nI 0) hx hb dX3_beginDay_122 (by decide) ?_
              refine ln_ior hx hb dX3_beginDay_123 ?_
              refine ln_nat (show (maskN (fun t => decide (s_th σ (6 * t + 5) = 1)) i) ||| 0 = maskN (fun t => decide (s_th σ (6 * t + 5) = 1)) (i + 1) from by first | exact mask_t (g := fun t => decide (s_th σ (6 * t + 5) = 1)) (decide_eq_true (by omega)) | exact mask_f (g := fun t => decide (s_th σ (6 * t + 5) = 1)) (decide_eq_false (by omega))) ?_
              refine ln_put (ci := 3) (C := RX3) (T := TX3) (N := 9) (ty := .int) (v := .int (nI (maskN (fun t => decide (s_th σ (6 * t + 5) = 1)) (i + 1)))) hx hb hts ni3 tyX3 tyX3_ok nmX3 hown hK hP hD hS 3 (cw_c3 cy ad aw (su_mo (su_ov σ (orM (fun t => s_th σ (6 * t + 2)) (i + 1))) 0) (ju_us (ju_wh (ju_pe J (maskN (fun t => decide (s_th σ (6 * t) = 0)) (i + 1))) (maskN (fun t => decide (s_th σ (6 * t) < 2)) (i + 1))) (maskN (fun t => decide (s_th σ (6 * t + 5) = 1)) i))) rfl 7 (by decide) (hts _ flX3_43) (fun _ h => h) rfl (by decide +kernel) rfl rfl (Nat.le_of_ble_eq_true rfl) ((cp_3_7 cy ad aw (su_mo (su_ov σ (orM (fun t => s_th σ (6 * t + 2)) (i + 1))) 0) (ju_us (ju_wh (ju_pe J (maskN (fun t => decide (s_th σ (6 * t) = 0)) (i + 1))) (maskN (fun t => decide (s_th σ (6 * t) < 2)) (i + 1))) (maskN (fun t => decide (s_th σ (6 * t + 5) = 1)) i)) (maskN (fun t => decide (s_th σ (6 * t + 5) = 1)) (i + 1))).trans (congrArg (fun z => cw cy ad aw (su_mo (su_ov σ (orM (fun t => s_th σ (6 * t + 2)) (i + 1))) 0) z) (by rw [jc_us]))) dX3_beginDay_124 (fun H locs hP hD hS => ?_)
              refine ln_iinc (lv' := [(1, .int (nI (i + 1))), (2, .ref (ad (21 + i))), (0, .ref (ad 3))]) hx hb dX3_beginDay_127 hl (k := 1) (n := 1) rfl (by decide) rfl (fun ls hl => ?_)
              refine lv_goto (tgt := 25) hx hb dX3_beginDay_130 (by decide) ?_
              have hl : lv_has ls 3 [(1, .int (nI (i + 1))), (0, .ref (ad 3))] := lv_sub hl [0, 2] rfl
              exact ih_lp (i + 1) ls _ _ (by omega) hP hD hS hl
            · refine lv_iconst (v := nI 1) hx hb dX3_beginDay_116 (by decide) ?_
              refine lv_iload_n hx hb dX3_beginDay_117 rfl (lv_at hl 1 rfl) ?_
              refine ln_ishl hx hb dX3_beginDay_118 (by omega) (by omega) ?_
              refine lv_goto (tgt := 123) hx hb dX3_beginDay_119 (by decide) ?_
              refine ln_ior hx hb dX3_beginDay_123 ?_
              refine ln_nat (show (maskN (fun t => decide (s_th σ (6 * t + 5) = 1)) i) ||| (1 * 2 ^ i) = maskN (fun t => decide (s_th σ (6 * t + 5) = 1)) (i + 1) from by first | exact mask_t (g := fun t => decide (s_th σ (6 * t + 5) = 1)) (decide_eq_true (by omega)) | exact mask_f (g := fun t => decide (s_th σ (6 * t + 5) = 1)) (decide_eq_false (by omega))) ?_
              refine ln_put (ci := 3) (C := RX3) (T := TX3) (N := 9) (ty := .int) (v := .int (nI (maskN (fun t => decide (s_th σ (6 * t + 5) = 1)) (i + 1)))) hx hb hts ni3 tyX3 tyX3_ok nmX3 hown hK hP hD hS 3 (cw_c3 cy ad aw (su_mo (su_ov σ (orM (fun t => s_th σ (6 * t + 2)) (i + 1))) 0) (ju_us (ju_wh (ju_pe J (maskN (fun t => decide (s_th σ (6 * t) = 0)) (i + 1))) (maskN (fun t => decide (s_th σ (6 * t) < 2)) (i + 1))) (maskN (fun t => decide (s_th σ (6 * t + 5) = 1)) i))) rfl 7 (by decide) (hts _ flX3_43) (fun _ h => h) rfl (by decide +kernel) rfl rfl (Nat.le_of_ble_eq_true rfl) ((cp_3_7 cy ad aw (su_mo (su_ov σ (orM (fun t => s_th σ (6 * t + 2)) (i + 1))) 0) (ju_us (ju_wh (ju_pe J (maskN (fun t => decide (s_th σ (6 * t) = 0)) (i + 1))) (maskN (fun t => decide (s_th σ (6 * t) < 2)) (i + 1))) (maskN (fun t => decide (s_th σ (6 * t + 5) = 1)) i)) (maskN (fun t => decide (s_th σ (6 * t + 5) = 1)) (i + 1))).trans (congrArg (fun z => cw cy ad aw (su_mo (su_ov σ (orM (fun t => s_th σ (6 * t + 2)) (i + 1))) 0) z) (by rw [jc_us]))) dX3_beginDay_124 (fun H locs hP hD hS => ?_)
              refine ln_iinc (lv' := [(1, .int (nI (i + 1))), (2, .ref (ad (21 + i))), (0, .ref (ad 3))]) hx hb dX3_beginDay_127 hl (k := 1) (n := 1) rfl (by decide) rfl (fun ls hl => ?_)
              refine lv_goto (tgt := 25) hx hb dX3_beginDay_130 (by decide) ?_
              have hl : lv_has ls 3 [(1, .int (nI (i + 1))), (0, .ref (ad 3))] := lv_sub hl [0, 2] rfl
              exact ih_lp (i + 1) ls _ _ (by omega) hP hD hS hl
          · refine lv_iconst (v := nI 1) hx hb dX3_beginDay_93 (by decide) ?_
            refine lv_iload_n hx hb dX3_beginDay_94 rfl (lv_at hl 1 rfl) ?_
            refine ln_ishl hx hb dX3_beginDay_95 (by omega) (by omega) ?_
            refine lv_goto (tgt := 100) hx hb dX3_beginDay_96 (by decide) ?_
            refine ln_ior hx hb dX3_beginDay_100 ?_
            refine ln_nat (show (maskN (fun t => decide (s_th σ (6 * t) < 2)) i) ||| (1 * 2 ^ i) = maskN (fun t => decide (s_th σ (6 * t) < 2)) (i + 1) from by first | exact mask_t (g := fun t => decide (s_th σ (6 * t) < 2)) (c90) | exact mask_f (g := fun t => decide (s_th σ (6 * t) < 2)) (c90)) ?_
            refine ln_put (ci := 3) (C := RX3) (T := TX3) (N := 9) (ty := .int) (v := .int (nI (maskN (fun t => decide (s_th σ (6 * t) < 2)) (i + 1)))) hx hb hts ni3 tyX3 tyX3_ok nmX3 hown hK hP hD hS 3 (cw_c3 cy ad aw (su_mo (su_ov σ (orM (fun t => s_th σ (6 * t + 2)) (i + 1))) 0) (ju_us (ju_wh (ju_pe J (maskN (fun t => decide (s_th σ (6 * t) = 0)) (i + 1))) (maskN (fun t => decide (s_th σ (6 * t) < 2)) i)) (maskN (fun t => decide (s_th σ (6 * t + 5) = 1)) i))) rfl 6 (by decide) (hts _ flX3_40) (fun _ h => h) rfl (by decide +kernel) rfl rfl (Nat.le_of_ble_eq_true rfl) ((cp_3_6 cy ad aw (su_mo (su_ov σ (orM (fun t => s_th σ (6 * t + 2)) (i + 1))) 0) (ju_us (ju_wh (ju_pe J (maskN (fun t => decide (s_th σ (6 * t) = 0)) (i + 1))) (maskN (fun t => decide (s_th σ (6 * t) < 2)) i)) (maskN (fun t => decide (s_th σ (6 * t + 5) = 1)) i)) (maskN (fun t => decide (s_th σ (6 * t) < 2)) (i + 1))).trans (congrArg (fun z => cw cy ad aw (su_mo (su_ov σ (orM (fun t => s_th σ (6 * t + 2)) (i + 1))) 0) z) (by rw [jx_wh_us, jc_wh]))) dX3_beginDay_101 (fun H locs hP hD hS => ?_)
            refine lv_aload_n hx hb dX3_beginDay_104 rfl (lv_at hl 2 rfl) ?_
            refine lv_dup hx hb dX3_beginDay_105 rfl ?_
            refine va_get (D := D) (ci := 3) (v := .int (nI ((maskN (fun t => decide (s_th σ (6 * t + 5) = 1)) i)))) (C := RX3) (T := TX3) (N := 9) hx hb hts ni3 hown hK hP 3 (cw_c3 cy ad aw (su_mo (su_ov σ (orM (fun t => s_th σ (6 * t + 2)) (i + 1))) 0) (ju_us (ju_wh (ju_pe J (maskN (fun t => decide (s_th σ (6 * t) = 0)) (i + 1))) (maskN (fun t => decide (s_th σ (6 * t) < 2)) (i + 1))) (maskN (fun t => decide (s_th σ (6 * t + 5) = 1)) i))) rfl 7 (by decide) (hts _ flX3_43) (fun _ h => h) rfl dX3_beginDay_106 ?_
            refine lv_aload_n hx hb dX3_beginDay_109 rfl (lv_at hl 0 rfl) ?_
            refine va_get (D := D) (ci := 8) (v := .int (nI (s_th σ (6 * i + 5)))) (C := RX8) (T := TX8) (N := 6) hx hb hts ni8 hown hK hP (21 + i) (cw_thing cy ad aw (su_mo (su_ov σ (orM (fun t => s_th σ (6 * t + 2)) (i + 1))) 0) (ju_us (ju_wh (ju_pe J (maskN (fun t => decide (s_th σ (6 * t) = 0)) (i + 1))) (maskN (fun t => decide (s_th σ (6 * t) < 2)) (i + 1))) (maskN (fun t => decide (s_th σ (6 * t + 5) = 1)) i)) (t := i) (by omega)) rfl 5 (by decide) (hts _ flX3_109) (fun _ h => h) rfl dX3_beginDay_110 ?_
            refine ln_if_eq (tgt := 122) hx hb dX3_beginDay_113 (by decide) (by omega) (fun c113 => ?_) (fun c113 => ?_)
            · refine lv_iconst (v := nI 0) hx hb dX3_beginDay_122 (by decide) ?_
              refine ln_ior hx hb dX3_beginDay_123 ?_
              refine ln_nat (show (maskN (fun t => decide (s_th σ (6 * t + 5) = 1)) i) ||| 0 = maskN (fun t => decide (s_th σ (6 * t + 5) = 1)) (i + 1) from by first | exact mask_t (g := fun t => decide (s_th σ (6 * t + 5) = 1)) (decide_eq_true (by omega)) | exact mask_f (g := fun t => decide (s_th σ (6 * t + 5) = 1)) (decide_eq_false (by omega))) ?_
              refine ln_put (ci := 3) (C := RX3) (T := TX3) (N := 9) (ty := .int) (v := .int (nI (maskN (fun t => decide (s_th σ (6 * t + 5) = 1)) (i + 1)))) hx hb hts ni3 tyX3 tyX3_ok nmX3 hown hK hP hD hS 3 (cw_c3 cy ad aw (su_mo (su_ov σ (orM (fun t => s_th σ (6 * t + 2)) (i + 1))) 0) (ju_us (ju_wh (ju_pe J (maskN (fun t => decide (s_th σ (6 * t) = 0)) (i + 1))) (maskN (fun t => decide (s_th σ (6 * t) < 2)) (i + 1))) (maskN (fun t => decide (s_th σ (6 * t + 5) = 1)) i))) rfl 7 (by decide) (hts _ flX3_43) (fun _ h => h) rfl (by decide +kernel) rfl rfl (Nat.le_of_ble_eq_true rfl) ((cp_3_7 cy ad aw (su_mo (su_ov σ (orM (fun t => s_th σ (6 * t + 2)) (i + 1))) 0) (ju_us (ju_wh (ju_pe J (maskN (fun t => decide (s_th σ (6 * t) = 0)) (i + 1))) (maskN (fun t => decide (s_th σ (6 * t) < 2)) (i + 1))) (maskN (fun t => decide (s_th σ (6 * t + 5) = 1)) i)) (maskN (fun t => decide (s_th σ (6 * t + 5) = 1)) (i + 1))).trans (congrArg (fun z => cw cy ad aw (su_mo (su_ov σ (orM (fun t => s_th σ (6 * t + 2)) (i + 1))) 0) z) (by rw [jc_us]))) dX3_beginDay_124 (fun H locs hP hD hS => ?_)
              refine ln_iinc (lv' := [(1, .int (nI (i + 1))), (2, .ref (ad (21 + i))), (0, .ref (ad 3))]) hx hb dX3_beginDay_127 hl (k := 1) (n := 1) rfl (by decide) rfl (fun ls hl => ?_)
              refine lv_goto (tgt := 25) hx hb dX3_beginDay_130 (by decide) ?_
              have hl : lv_has ls 3 [(1, .int (nI (i + 1))), (0, .ref (ad 3))] := lv_sub hl [0, 2] rfl
              exact ih_lp (i + 1) ls _ _ (by omega) hP hD hS hl
            · refine lv_iconst (v := nI 1) hx hb dX3_beginDay_116 (by decide) ?_
              refine lv_iload_n hx hb dX3_beginDay_117 rfl (lv_at hl 1 rfl) ?_
              refine ln_ishl hx hb dX3_beginDay_118 (by omega) (by omega) ?_
              refine lv_goto (tgt := 123) hx hb dX3_beginDay_119 (by decide) ?_
              refine ln_ior hx hb dX3_beginDay_123 ?_
              refine ln_nat (show (maskN (fun t => decide (s_th σ (6 * t + 5) = 1)) i) ||| (1 * 2 ^ i) = maskN (fun t => decide (s_th σ (6 * t + 5) = 1)) (i + 1) from by first | exact mask_t (g := fun t => decide (s_th σ (6 * t + 5) = 1)) (decide_eq_true (by omega)) | exact mask_f (g := fun t => decide (s_th σ (6 * t + 5) = 1)) (decide_eq_false (by omega))) ?_
              refine ln_put (ci := 3) (C := RX3) (T := TX3) (N := 9) (ty := .int) (v := .int (nI (maskN (fun t => decide (s_th σ (6 * t + 5) = 1)) (i + 1)))) hx hb hts ni3 tyX3 tyX3_ok nmX3 hown hK hP hD hS 3 (cw_c3 cy ad aw (su_mo (su_ov σ (orM (fun t => s_th σ (6 * t + 2)) (i + 1))) 0) (ju_us (ju_wh (ju_pe J (maskN (fun t => decide (s_th σ (6 * t) = 0)) (i + 1))) (maskN (fun t => decide (s_th σ (6 * t) < 2)) (i + 1))) (maskN (fun t => decide (s_th σ (6 * t + 5) = 1)) i))) rfl 7 (by decide) (hts _ flX3_43) (fun _ h => h) rfl (by decide +kernel) rfl rfl (Nat.le_of_ble_eq_true rfl) ((cp_3_7 cy ad aw (su_mo (su_ov σ (orM (fun t => s_th σ (6 * t + 2)) (i + 1))) 0) (ju_us (ju_wh (ju_pe J (maskN (fun t => decide (s_th σ (6 * t) = 0)) (i + 1))) (maskN (fun t => decide (s_th σ (6 * t) < 2)) (i + 1))) (maskN (fun t => decide (s_th σ (6 * t + 5) = 1)) i)) (maskN (fun t => decide (s_th σ (6 * t + 5) = 1)) (i + 1))).trans (congrArg (fun z => cw cy ad aw (su_mo (su_ov σ (orM (fun t => s_th σ (6 * t + 2)) (i + 1))) 0) z) (by rw [jc_us]))) dX3_beginDay_124 (fun H locs hP hD hS => ?_)
              refine ln_iinc (lv' := [(1, .int (nI (i + 1))), (2, .ref (ad (21 + i))), (0, .ref (ad 3))]) hx hb dX3_beginDay_127 hl (k := 1) (n := 1) rfl (by decide) rfl (fun ls hl => ?_)
              refine lv_goto (tgt := 25) hx hb dX3_beginDay_130 (by decide) ?_
              have hl : lv_has ls 3 [(1, .int (nI (i + 1))), (0, .ref (ad 3))] := lv_sub hl [0, 2] rfl
              exact ih_lp (i + 1) ls _ _ (by omega) hP hD hS hl
  have hl : lv_has ls 3 [(1, .int (nI (0))), (0, .ref (ad 3))] := lv_sub hl [0, 1] rfl
  have hP : va_P D vwCl (cw cy ad aw (su_mo (su_ov σ (orM (fun t => s_th σ (6 * t + 2)) 0)) 0) (ju_us (ju_wh (ju_pe J (maskN (fun t => decide (s_th σ (6 * t) = 0)) 0)) (maskN (fun t => decide (s_th σ (6 * t) < 2)) 0)) (maskN (fun t => decide (s_th σ (6 * t + 5) = 1)) 0))) _ := hP
  have hD : va_D A (cw cy ad aw (su_mo (su_ov σ (orM (fun t => s_th σ (6 * t + 2)) 0)) 0) (ju_us (ju_wh (ju_pe J (maskN (fun t => decide (s_th σ (6 * t) = 0)) 0)) (maskN (fun t => decide (s_th σ (6 * t) < 2)) 0)) (maskN (fun t => decide (s_th σ (6 * t + 5) = 1)) 0))) := hD
  exact lp (s_n σ - 0) 0 ls _ _ (by omega) hP hD hS hl
