set_option maxHeartbeats 4000000 in
set_option maxRecDepth 100000 in
theorem k_become1 (l : Launch) (D : va_G) (cy : Nat → ClassId) (ad aw : Nat → Nat) (σ : Sg) (J : Js) (k : Nat) (hw : wfS σ) (hk : k < 2) : MV l yX5_become qX5_become 0 [.ref (ad 6), .ref (ad (32 + k))] D cy (cw cy ad aw σ J) (fun _ : Unit => True) (fun _ : Unit => cw cy ad aw (su_cr (su_la (su_of (su_mo (su_ov σ (s_im σ (5 * k))) (s_im σ (5 * k + 1))) (s_im σ (5 * k + 2))) (decide (s_im σ (5 * k + 3) = 1))) (s_im σ (5 * k + 4))) J) := by
  intro sz
  refine Met.ofW (cc := cX5_become) (maxL := 2) (ret := none) (by decide) rfl ?_
  intro p e s m args below meth c s₁ B hml hv
  obtain ⟨rfl, rfl, hP, hK, hN, hD0⟩ := hv
  have hx := B.exec
  have hb := B.bytes
  have hr := B.returns
  have hlocks := B.notSynchronized
  have hts : ∀ cq ∈ tg, cq.before ([.ref (ad 6), .ref (ad (32 + k))] : List Value).toArray s = true := fun cq h => atoms_spec (ws := qX5_become) B.pre cq (List.mem_cons_of_mem _ h)
  have hown : s.vm.findClass RX5 = some m.cls := findClass_of_methodNamed B.named
  have hD := hD0.self (sz := s.heap.size)
  generalize hAe : va_A (cw cy ad aw σ J) s.heap.size = A at hD ⊢
  have hA : ∀ q : Nat, s.heap.size ≤ q → A q := fun q h => by rw [← hAe]; exact Or.inr h
  have hS : va_S A s.heap s.heap [] := va_S.rf
  have hl := lv_entry ([.ref (ad 6), .ref (ad (32 + k))]) (n := 2) (Nat.le_of_ble_eq_true rfl)
  rw [lg_entry_eq]
  generalize (lg_sl ([.ref (ad 6), .ref (ad (32 + k))]) ++ List.replicate (2 - (lg_sl ([.ref (ad 6), .ref (ad (32 + k))])).length) Slot.unset).toArray = ls at hl ⊢
  have hl : lv_has ls 2 [(0, .ref (ad 6)), (1, .ref (ad (32 + k)))] := hl
  refine lv_aload_n hx hb dX5_become_0 rfl (lv_at hl 0 rfl) ?_
  refine lv_aload_n hx hb dX5_become_1 rfl (lv_at hl 1 rfl) ?_
  refine va_get (D := D) (ci := 5) (v := .int (nI (s_im σ (5 * k) + 256 * s_im σ (5 * k + 1)))) (C := RX5) (T := TX5) (N := 5) hx hb hts ni5 hown hK hP (32 + k) (cw_kept cy ad aw σ J (t := k) (by omega)) rfl 1 (by decide) (hts _ flX5_13) (fun _ h => h) rfl dX5_become_2 ?_
  refine ln_put (ci := 5) (C := RX5) (T := TX5) (N := 5) (ty := .int) (v := .int (nI (s_im σ (5 * k) + 256 * s_im σ (5 * k + 1)))) hx hb hts ni5 tyX5 tyX5_ok nmX5 hown hK hP hD hS 6 (cw_c6 cy ad aw σ J) rfl 1 (by decide) (hts _ flX5_13) (fun _ h => h) rfl (by decide +kernel) rfl rfl (Nat.le_of_ble_eq_true rfl) (cp_6_1 cy ad aw σ J (s_im σ (5 * k)) (s_im σ (5 * k + 1))) dX5_become_5 (fun H locs hP hD hS => ?_)
  refine lv_aload_n hx hb dX5_become_8 rfl (lv_at hl 0 rfl) ?_
  refine lv_aload_n hx hb dX5_become_9 rfl (lv_at hl 1 rfl) ?_
  refine va_get (D := D) (ci := 5) (v := .int (nI (s_im σ (5 * k + 2)))) (C := RX5) (T := TX5) (N := 5) hx hb hts ni5 hown hK hP (32 + k) (cw_kept cy ad aw (su_mo (su_ov σ (s_im σ (5 * k))) (s_im σ (5 * k + 1))) J (t := k) (by omega)) rfl 2 (by decide) (hts _ flX5_17) (fun _ h => h) rfl dX5_become_10 ?_
  refine ln_put (ci := 5) (C := RX5) (T := TX5) (N := 5) (ty := .int) (v := .int (nI (s_im σ (5 * k + 2)))) hx hb hts ni5 tyX5 tyX5_ok nmX5 hown hK hP hD hS 6 (cw_c6 cy ad aw (su_mo (su_ov σ (s_im σ (5 * k))) (s_im σ (5 * k + 1))) J) rfl 2 (by decide) (hts _ flX5_17) (fun _ h => h) rfl (by decide +kernel) rfl rfl (Nat.le_of_ble_eq_true rfl) (cp_6_2 cy ad aw (su_mo (su_ov σ (s_im σ (5 * k))) (s_im σ (5 * k + 1))) J (s_im σ (5 * k + 2))) dX5_become_13 (fun H locs hP hD hS => ?_)
  refine lv_aload_n hx hb dX5_become_16 rfl (lv_at hl 0 rfl) ?_
  refine lv_aload_n hx hb dX5_become_17 rfl (lv_at hl 1 rfl) ?_
  refine va_get (D := D) (ci := 5) (v := .int (nI (s_im σ (5 * k + 3)))) (C := RX5) (T := TX5) (N := 5) hx hb hts ni5 hown hK hP (32 + k) (cw_kept cy ad aw (su_of (su_mo (su_ov σ (s_im σ (5 * k))) (s_im σ (5 * k + 1))) (s_im σ (5 * k + 2))) J (t := k) (by omega)) rfl 3 (by decide) (hts _ flX5_20) (fun _ h => h) rfl dX5_become_18 ?_
  refine ln_eq (show (nI (s_im σ (5 * k + 3))) = (bI (decide (s_im σ (5 * k + 3) = 1))) from bI_1 (hw.2.2.2.2.2.2.2.2.2.2.2.2.2 k hk)) ?_
  refine ln_put (ci := 5) (C := RX5) (T := TX5) (N := 5) (ty := .boolean) (v := .int (bI (decide (s_im σ (5 * k + 3) = 1)))) hx hb hts ni5 tyX5 tyX5_ok nmX5 hown hK hP hD hS 6 (cw_c6 cy ad aw (su_of (su_mo (su_ov σ (s_im σ (5 * k))) (s_im σ (5 * k + 1))) (s_im σ (5 * k + 2))) J) rfl 3 (by decide) (hts _ flX5_20) (fun _ h => h) rfl (by decide +kernel) (bI_n _) (by cases (decide (s_im σ (5 * k + 3) = 1)) <;> rfl) (Nat.le_of_ble_eq_true rfl) (cp_6_3 cy ad aw (su_of (su_mo (su_ov σ (s_im σ (5 * k))) (s_im σ (5 * k + 1))) (s_im σ (5 * k + 2))) J (decide (s_im σ (5 * k + 3) = 1))) dX5_become_21 (fun H locs hP hD hS => ?_)
  refine lv_aload_n hx hb dX5_become_24 rfl (lv_at hl 0 rfl) ?_
  refine lv_aload_n hx hb dX5_become_25 rfl (lv_at hl 1 rfl) ?_
  refine va_get (D := D) (ci := 5) (v := .int (nI (s_im σ (5 * k + 4)))) (C := RX5) (T := TX5) (N := 5) hx hb hts ni5 hown hK hP (32 + k) (cw_kept cy ad aw (su_la (su_of (su_mo (su_ov σ (s_im σ (5 * k))) (s_im σ (5 * k + 1))) (s_im σ (5 * k + 2))) (decide (s_im σ (5 * k + 3) = 1))) J (t := k) (by omega)) rfl 4 (by decide) (hts _ flX5_23) (fun _ h => h) rfl dX5_become_26 ?_
  refine ln_put (ci := 5) (C := RX5) (T := TX5) (N := 5) (ty := .int) (v := .int (nI (s_im σ (5 * k + 4)))) hx hb hts ni5 tyX5 tyX5_ok nmX5 hown hK hP hD hS 6 (cw_c6 cy ad aw (su_la (su_of (su_mo (su_ov σ (s_im σ (5 * k))) (s_im σ (5 * k + 1))) (s_im σ (5 * k + 2))) (decide (s_im σ (5 * k + 3) = 1))) J) rfl 4 (by decide) (hts _ flX5_23) (fun _ h => h) rfl (by decide +kernel) rfl rfl (Nat.le_of_ble_eq_true rfl) (cp_6_4 cy ad aw (su_la (su_of (su_mo (su_ov σ (s_im σ (5 * k))) (s_im σ (5 * k + 1))) (s_im σ (5 * k + 2))) (decide (s_im σ (5 * k + 3) = 1))) J (s_im σ (5 * k + 4))) dX5_become_29 (fun H locs hP hD hS => ?_)
  exact rw_v hx hb hr hlocks hS () (trivial) hP dX5_become_32
theorem la_le1 (b : Bool) : b.toNat ≤ 1 := by cases b <;> decide
theorem bn_fit {x : Nat} (h : x ≤ 1) : fits .boolean (.int (nI x)) = true := by
  rcases (show x = 0 ∨ x = 1 by omega) with rfl | rfl <;> rfl
set_option maxHeartbeats 4000000 in
set_option maxRecDepth 100000 in
theorem k_become2 (l : Launch) (D : va_G) (cy : Nat → ClassId) (ad aw : Nat → Nat) (σ : Sg) (J : Js) (k : Nat) (hk : k < 2) : MV l yX5_become qX5_become 0 [.ref (ad (32 + k)), .ref (ad 6)] D cy (cw cy ad aw σ J) (fun _ : Unit => True) (fun _ : Unit => cw cy ad aw (su_im σ (imK σ k)) J) := by
  intro sz
  refine Met.ofW (cc := cX5_become) (maxL := 2) (ret := none) (by decide) rfl ?_
  intro p e s m args below meth c s₁ B hml hv
  obtain ⟨rfl, rfl, hP, hK, hN, hD0⟩ := hv
  have hx := B.exec
  have hb := B.bytes
  have hr := B.returns
  have hlocks := B.notSynchronized
  have hts : ∀ cq ∈ tg, cq.before ([.ref (ad (32 + k)), .ref (ad 6)] : List Value).toArray s = true := fun cq h => atoms_spec (ws := qX5_become) B.pre cq (List.mem_cons_of_mem _ h)
  have hown : s.vm.findClass RX5 = some m.cls := findClass_of_methodNamed B.named
  have hD := hD0.self (sz := s.heap.size)
  generalize hAe : va_A (cw cy ad aw σ J) s.heap.size = A at hD ⊢
  have hA : ∀ q : Nat, s.heap.size ≤ q → A q := fun q h => by rw [← hAe]; exact Or.inr h
  have hS : va_S A s.heap s.heap [] := va_S.rf
  have hl := lv_entry ([.ref (ad (32 + k)), .ref (ad 6)]) (n := 2) (Nat.le_of_ble_eq_true rfl)
  rw [lg_entry_eq]
  generalize (lg_sl ([.ref (ad (32 + k)), .ref (ad 6)]) ++ List.replicate (2 - (lg_sl ([.ref (ad (32 + k)), .ref (ad 6)])).length) Slot.unset).toArray = ls at hl ⊢
  have hl : lv_has ls 2 [(0, .ref (ad (32 + k))), (1, .ref (ad 6))] := hl
  refine lv_aload_n hx hb dX5_become_0 rfl (lv_at hl 0 rfl) ?_
  refine lv_aload_n hx hb dX5_become_1 rfl (lv_at hl 1 rfl) ?_
  refine va_get (D := D) (ci := 5) (v := .int (nI (s_ov σ + 256 * s_mo σ))) (C := RX5) (T := TX5) (N := 5) hx hb hts ni5 hown hK hP 6 (cw_c6 cy ad aw σ J) rfl 1 (by decide) (hts _ flX5_13) (fun _ h => h) rfl dX5_become_2 ?_
  refine ln_put (ci := 5) (C := RX5) (T := TX5) (N := 5) (ty := .int) (v := .int (nI (s_ov σ + 256 * s_mo σ))) hx hb hts ni5 tyX5 tyX5_ok nmX5 hown hK hP hD hS (32 + k) (cw_kept cy ad aw σ J (t := k) (by omega)) rfl 1 (by decide) (hts _ flX5_13) (fun _ h => h) rfl (by decide +kernel) rfl rfl (Nat.le_of_ble_eq_true rfl) (cp_kept_1 cy ad aw σ J (s_ov σ) (s_mo σ) (t := k) (by omega)) dX5_become_5 (fun H locs hP hD hS => ?_)
  refine lv_aload_n hx hb dX5_become_8 rfl (lv_at hl 0 rfl) ?_
  refine lv_aload_n hx hb dX5_become_9 rfl (lv_at hl 1 rfl) ?_
  refine va_get (D := D) (ci := 5) (v := .int (nI (s_of σ))) (C := RX5) (T := TX5) (N := 5) hx hb hts ni5 hown hK hP 6 (cw_c6 cy ad aw (su_im σ (updN (updN (s_im σ) (5 * k) (s_ov σ)) (5 * k + 1) (s_mo σ))) J) rfl 2 (by decide) (hts _ flX5_17) (fun _ h => h) rfl dX5_become_10 ?_
  refine ln_put (ci := 5) (C := RX5) (T := TX5) (N := 5) (ty := .int) (v := .int (nI (s_of σ))) hx hb hts ni5 tyX5 tyX5_ok nmX5 hown hK hP hD hS (32 + k) (cw_kept cy ad aw (su_im σ (updN (updN (s_im σ) (5 * k) (s_ov σ)) (5 * k + 1) (s_mo σ))) J (t := k) (by omega)) rfl 2 (by decide) (hts _ flX5_17) (fun _ h => h) rfl (by decide +kernel) rfl rfl (Nat.le_of_ble_eq_true rfl) (cp_kept_2 cy ad aw (su_im σ (updN (updN (s_im σ) (5 * k) (s_ov σ)) (5 * k + 1) (s_mo σ))) J (s_of σ) (t := k) (by omega)) dX5_become_13 (fun H locs hP hD hS => ?_)
  refine lv_aload_n hx hb dX5_become_16 rfl (lv_at hl 0 rfl) ?_
  refine lv_aload_n hx hb dX5_become_17 rfl (lv_at hl 1 rfl) ?_
  refine va_get (D := D) (ci := 5) (v := .int (bI (s_la σ))) (C := RX5) (T := TX5) (N := 5) hx hb hts ni5 hown hK hP 6 (cw_c6 cy ad aw (su_im (su_im σ (updN (updN (s_im σ) (5 * k) (s_ov σ)) (5 * k + 1) (s_mo σ))) (updN (s_im (su_im σ (updN (updN (s_im σ) (5 * k) (s_ov σ)) (5 * k + 1) (s_mo σ)))) (5 * k + 2) (s_of σ))) J) rfl 3 (by decide) (hts _ flX5_20) (fun _ h => h) rfl dX5_become_18 ?_
  refine ln_eq (show (bI (s_la σ)) = (nI ((s_la σ).toNat)) from bI_toNat _) ?_
  refine ln_put (ci := 5) (C := RX5) (T := TX5) (N := 5) (ty := .boolean) (v := .int (nI ((s_la σ).toNat))) hx hb hts ni5 tyX5 tyX5_ok nmX5 hown hK hP hD hS (32 + k) (cw_kept cy ad aw (su_im (su_im σ (updN (updN (s_im σ) (5 * k) (s_ov σ)) (5 * k + 1) (s_mo σ))) (updN (s_im (su_im σ (updN (updN (s_im σ) (5 * k) (s_ov σ)) (5 * k + 1) (s_mo σ)))) (5 * k + 2) (s_of σ))) J (t := k) (by omega)) rfl 3 (by decide) (hts _ flX5_20) (fun _ h => h) rfl (by decide +kernel) (bn_le1 (la_le1 _)) (bn_fit (la_le1 _)) (Nat.le_of_ble_eq_true rfl) (cp_kept_3 cy ad aw (su_im (su_im σ (updN (updN (s_im σ) (5 * k) (s_ov σ)) (5 * k + 1) (s_mo σ))) (updN (s_im (su_im σ (updN (updN (s_im σ) (5 * k) (s_ov σ)) (5 * k + 1) (s_mo σ)))) (5 * k + 2) (s_of σ))) J ((s_la σ).toNat) (t := k) (by omega)) dX5_become_21 (fun H locs hP hD hS => ?_)
  refine lv_aload_n hx hb dX5_become_24 rfl (lv_at hl 0 rfl) ?_
  refine lv_aload_n hx hb dX5_become_25 rfl (lv_at hl 1 rfl) ?_
  refine va_get (D := D) (ci := 5) (v := .int (nI (s_cr σ))) (C := RX5) (T := TX5) (N := 5) hx hb hts ni5 hown hK hP 6 (cw_c6 cy ad aw (su_im (su_im (su_im σ (updN (updN (s_im σ) (5 * k) (s_ov σ)) (5 * k + 1) (s_mo σ))) (updN (s_im (su_im σ (updN (updN (s_im σ) (5 * k) (s_ov σ)) (5 * k + 1) (s_mo σ)))) (5 * k + 2) (s_of σ))) (updN (s_im (su_im (su_im σ (updN (updN (s_im σ) (5 * k) (s_ov σ)) (5 * k + 1) (s_mo σ))) (updN (s_im (su_im σ (updN (updN (s_im σ) (5 * k) (s_ov σ)) (5 * k + 1) (s_mo σ)))) (5 * k + 2) (s_of σ)))) (5 * k + 3) ((s_la σ).toNat))) J) rfl 4 (by decide) (hts _ flX5_23) (fun _ h => h) rfl dX5_become_26 ?_
  refine ln_put (ci := 5) (C := RX5) (T := TX5) (N := 5) (ty := .int) (v := .int (nI (s_cr σ))) hx hb hts ni5 tyX5 tyX5_ok nmX5 hown hK hP hD hS (32 + k) (cw_kept cy ad aw (su_im (su_im (su_im σ (updN (updN (s_im σ) (5 * k) (s_ov σ)) (5 * k + 1) (s_mo σ))) (updN (s_im (su_im σ (updN (updN (s_im σ) (5 * k) (s_ov σ)) (5 * k + 1) (s_mo σ)))) (5 * k + 2) (s_of σ))) (updN (s_im (su_im (su_im σ (updN (updN (s_im σ) (5 * k) (s_ov σ)) (5 * k + 1) (s_mo σ))) (updN (s_im (su_im σ (updN (updN (s_im σ) (5 * k) (s_ov σ)) (5 * k + 1) (s_mo σ)))) (5 * k + 2) (s_of σ)))) (5 * k + 3) ((s_la σ).toNat))) J (t := k) (by omega)) rfl 4 (by decide) (hts _ flX5_23) (fun _ h => h) rfl (by decide +kernel) rfl rfl (Nat.le_of_ble_eq_true rfl) (cp_kept_4 cy ad aw (su_im (su_im (su_im σ (updN (updN (s_im σ) (5 * k) (s_ov σ)) (5 * k + 1) (s_mo σ))) (updN (s_im (su_im σ (updN (updN (s_im σ) (5 * k) (s_ov σ)) (5 * k + 1) (s_mo σ)))) (5 * k + 2) (s_of σ))) (updN (s_im (su_im (su_im σ (updN (updN (s_im σ) (5 * k) (s_ov σ)) (5 * k + 1) (s_mo σ))) (updN (s_im (su_im σ (updN (updN (s_im σ) (5 * k) (s_ov σ)) (5 * k + 1) (s_mo σ)))) (5 * k + 2) (s_of σ)))) (5 * k + 3) ((s_la σ).toNat))) J (s_cr σ) (t := k) (by omega)) dX5_become_29 (fun H locs hP hD hS => ?_)
  exact rw_v hx hb hr hlocks hS () (trivial) (by show va_P D vwCl (cw cy ad aw (su_im σ (imK σ k)) J) _; rw [← keep_im]; exact hP) dX5_become_32
set_option maxHeartbeats 4000000 in
set_option maxRecDepth 100000 in
theorem k_X10_keep (l : Launch) (D : va_G) (cy : Nat → ClassId) (ad aw : Nat → Nat) (σ : Sg) (J : Js) (k : Int32) (hj : wfJ σ J) : MW l yX10_keep qX10_keep 1 [.ref (ad 0), .int (k)] D cy (cw cy ad aw σ J) (fun (r : Int32) (u : Js) => r = a_keep σ k ∧ wfJ (n_keep σ k) u) (fun u : Js => cw cy ad aw (n_keep σ k) u) := by
  intro sz
  refine Met.ofW (cc := cX10_keep) (maxL := 2) (ret := (some .int)) (by decide) rfl ?_
  intro p e s m args below meth c s₁ B hml hv
  obtain ⟨rfl, rfl, hP, hK, hN, hD0⟩ := hv
  have hx := B.exec
  have hb := B.bytes
  have hr := B.returns
  have hlocks := B.notSynchronized
  have hts : ∀ cq ∈ tg, cq.before ([.ref (ad 0), .int (k)] : List Value).toArray s = true := fun cq h => atoms_spec (ws := qX10_keep) B.pre cq (List.mem_cons_of_mem _ h)
  have hown : s.vm.findClass RX10 = some m.cls := findClass_of_methodNamed B.named
  have hD := hD0.self (sz := s.heap.size)
  generalize hAe : va_A (cw cy ad aw σ J) s.heap.size = A at hD ⊢
  have hA : ∀ q : Nat, s.heap.size ≤ q → A q := fun q h => by rw [← hAe]; exact Or.inr h
  have hS : va_S A s.heap s.heap [] := va_S.rf
  have hl := lv_entry ([.ref (ad 0), .int (k)]) (n := 2) (Nat.le_of_ble_eq_true rfl)
  rw [lg_entry_eq]
  generalize (lg_sl ([.ref (ad 0), .int (k)]) ++ List.replicate (2 - (lg_sl ([.ref (ad 0), .int (k)])).length) Slot.unset).toArray = ls at hl ⊢
  have hl : lv_has ls 2 [(0, .ref (ad 0)), (1, .int (k))] := hl
  refine lv_iload_n hx hb dX10_keep_0 rfl (lv_at hl 1 rfl) ?_
  refine lv_if_lt (tgt := 9) hx hb dX10_keep_1 (by decide) (fun c1 => ?_) (fun c1 => ?_)
  · refine lv_bipush (v := -2) hx hb dX10_keep_9 (by decide) ?_
    exact rw_i hx hb hr hlocks hS J (⟨by first | (rw [a_keep, ixf1 (by decide) c1]; rfl; done) | (rw [a_keep, ixf3 c6]; rfl), by rw [n_keep, if_neg (by first | (rw [ixf1 (by decide) c1]; decide; done) | (rw [ixf3 c6]; decide))]; exact hj⟩) (by show va_P D vwCl (cw cy ad aw (n_keep σ k) J) _; rw [n_keep, if_neg (by first | (rw [ixf1 (by decide) c1]; decide; done) | (rw [ixf3 c6]; decide))]; exact hP) dX10_keep_11
  · refine lv_iload_n hx hb dX10_keep_4 rfl (lv_at hl 1 rfl) ?_
    refine lv_iconst (v := nI 2) hx hb dX10_keep_5 (by decide) ?_
    refine lv_icmp_lt (tgt := 12) hx hb dX10_keep_6 (by decide) (fun c6 => ?_) (fun c6 => ?_)
    · obtain ⟨k0, hk, rfl⟩ := ix_of (ixt2 c1 c6) (by decide)
      have hl : lv_has ls 2 [(0, .ref (ad 0)), (1, .int (nI (k0)))] := hl
      refine lv_aload_n hx hb dX10_keep_12 rfl (lv_at hl 0 rfl) ?_
      refine va_get (D := D) (ci := 9) (v := .ref (ad 19)) (C := RX10) (T := TX10) (N := 8) hx hb hts ni10 hown hK hP 0 (cw_c0 cy ad aw σ J) rfl 5 (by decide) (hts _ flX10_50) (fun _ h => h) rfl dX10_keep_13 ?_
      refine lv_iload_n hx hb dX10_keep_16 rfl (lv_at hl 1 rfl) ?_
      refine ln_aald (x := ad (32 + k0)) hx hb hK hP 19 4 (cw_c19 cy ad aw σ J) rfl (by omega) (by decide) rfl dX10_keep_17 ?_
      refine lv_aload_n hx hb dX10_keep_18 rfl (lv_at hl 0 rfl) ?_
      refine va_get (D := D) (ci := 9) (v := .ref (ad 3)) (C := RX10) (T := TX10) (N := 8) hx hb hts ni10 hown hK hP 0 (cw_c0 cy ad aw σ J) rfl 1 (by decide) (hts _ flX10_19) (fun _ h => h) rfl dX10_keep_19 ?_
      refine va_get (D := D) (ci := 3) (v := .ref (ad 6)) (C := RX3) (T := TX3) (N := 9) hx hb hts ni3 hown hK hP 3 (cw_c3 cy ad aw σ J) rfl 2 (by decide) (hts _ flX10_116) (fun _ h => h) rfl dX10_keep_22 ?_
      refine cr_vv (n := 1) (As := [.ref (ad 6)]) (rest := []) ⟨hx, hb, hml, hown, hts⟩ (k_become2 l D cy ad aw σ J k0 (by omega)) gvX10_195 (by decide +kernel) ⟨Nat.le_of_ble_eq_true rfl, Nat.le_of_ble_eq_true rfl⟩ hK hN hP hD hS hA (32 + k0) (cw_kept cy ad aw σ J (t := k0) (by omega)) rfl rfl hl.1 rfl (Nat.le_of_ble_eq_true rfl) dX10_keep_25 ⟨Nat.zero_le _, Nat.zero_le _⟩ (fun _ => (cw_ad _ _ _ _ _).trans (cw_ad _ _ _ _ _).symm) (fun u1 H locs hpu1 hP hD hS => ?_)
      have hP : va_P D vwCl (cw cy ad aw (su_im σ (imK σ k0)) J) H := hP
      have hD : va_D A (cw cy ad aw (su_im σ (imK σ k0)) J) := hD
      refine lv_aload_n hx hb dX10_keep_28 rfl (lv_at hl 0 rfl) ?_
      refine va_get (D := D) (ci := 9) (v := .ref (ad 19)) (C := RX10) (T := TX10) (N := 8) hx hb hts ni10 hown hK hP 0 (cw_c0 cy ad aw (su_im σ (imK σ k0)) J) rfl 5 (by decide) (hts _ flX10_50) (fun _ h => h) rfl dX10_keep_29 ?_
      refine lv_iload_n hx hb dX10_keep_32 rfl (lv_at hl 1 rfl) ?_
      refine ln_aald (x := ad (32 + k0)) hx hb hK hP 19 4 (cw_c19 cy ad aw (su_im σ (imK σ k0)) J) rfl (by omega) (by decide) rfl dX10_keep_33 ?_
      refine lv_iconst (v := nI 1) hx hb dX10_keep_34 (by decide) ?_
      refine ln_eq (show (nI (1)) = (bI (true)) from rfl) ?_
      refine ln_put (ci := 5) (C := RX5) (T := TX5) (N := 5) (ty := .boolean) (v := .int (bI (true))) hx hb hts ni5 tyX5 tyX5_ok nmX5 hown hK hP hD hS (32 + k0) (cw_kept cy ad aw (su_im σ (imK σ k0)) J (t := k0) (by omega)) rfl 0 (by decide) (hts _ flX10_96) (fun _ h => h) rfl (by decide +kernel) (bI_n _) rfl (Nat.le_of_ble_eq_true rfl) (cp_kept_0 cy ad aw (su_im σ (imK σ k0)) J true (t := k0) (by omega)) dX10_keep_35 (fun H locs hP hD hS => ?_)
      refine lv_aload_n hx hb dX10_keep_38 rfl (lv_at hl 0 rfl) ?_
      refine va_get (D := D) (ci := 9) (v := .ref (ad 3)) (C := RX10) (T := TX10) (N := 8) hx hb hts ni10 hown hK hP 0 (cw_c0 cy ad aw (su_kp (su_im σ (imK σ k0)) (updB (s_kp (su_im σ (imK σ k0))) k0 true)) J) rfl 1 (by decide) (hts _ flX10_19) (fun _ h => h) rfl dX10_keep_39 ?_
      refine va_get (D := D) (ci := 3) (v := .ref (ad 6)) (C := RX3) (T := TX3) (N := 9) hx hb hts ni3 hown hK hP 3 (cw_c3 cy ad aw (su_kp (su_im σ (imK σ k0)) (updB (s_kp (su_im σ (imK σ k0))) k0 true)) J) rfl 2 (by decide) (hts _ flX10_116) (fun _ h => h) rfl dX10_keep_42 ?_
      refine va_get (D := D) (ci := 5) (v := .int (nI (s_cr σ))) (C := RX5) (T := TX5) (N := 5) hx hb hts ni5 hown hK hP 6 (cw_c6 cy ad aw (su_kp (su_im σ (imK σ k0)) (updB (s_kp (su_im σ (imK σ k0))) k0 true)) J) rfl 4 (by decide) (hts _ flX10_185) (fun _ h => h) rfl dX10_keep_45 ?_
      exact rw_i hx hb hr hlocks hS J (⟨by rw [a_keep, ixt2 c1 c6]; rfl, by rw [n_keep, if_pos (ixt2 c1 c6)]; exact wfJ_keep hj rfl rfl rfl⟩) (by show va_P D vwCl (cw cy ad aw (n_keep σ (nI k0)) J) _; rw [n_keep, if_pos (ixt2 c1 c6), tk_nI (k := k0) (by omega)]; exact hP) dX10_keep_48
    · refine lv_bipush (v := -2) hx hb dX10_keep_9 (by decide) ?_
      exact rw_i hx hb hr hlocks hS J (⟨by first | (rw [a_keep, ixf1 (by decide) c1]; rfl; done) | (rw [a_keep, ixf3 c6]; rfl), by rw [n_keep, if_neg (by first | (rw [ixf1 (by decide) c1]; decide; done) | (rw [ixf3 c6]; decide))]; exact hj⟩) (by show va_P D vwCl (cw cy ad aw (n_keep σ k) J) _; rw [n_keep, if_neg (by first | (rw [ixf1 (by decide) c1]; decide; done) | (rw [ixf3 c6]; decide))]; exact hP) dX10_keep_11
theorem wfS_back {σ : Sg} (hw : wfS σ) {k : Nat} (hk : k < 2) (hm : s_kp σ k = true) : wfS (su_cr (su_la (su_of (su_mo (su_ov σ (s_im σ (5 * k))) (s_im σ (5 * k + 1))) (s_im σ (5 * k + 2))) (decide (s_im σ (5 * k + 3) = 1))) (s_im σ (5 * k + 4))) := by
  obtain ⟨h1, h2, h3, h4, h5, h6, h7, h8, h9, h10, h11, h12, h13, h14⟩ := hw
  have hkk := h13 k hk hm
  exact ⟨h1, h2, h3, h4, h5, h6, hkk.1, hkk.2.1, hkk.2.2, h10, h11, h12, h13, h14⟩
theorem wfS_of {σ : Sg} (hw : wfS σ) {o : Nat} (ho : o < 2 ^ s_n σ) : wfS (su_of σ o) := by
  obtain ⟨h1, h2, h3, h4, h5, h6, h7, h8, h9, h10, h11, h12, h13, h14⟩ := hw
  exact ⟨h1, h2, h3, h4, h5, h6, h7, h8, ho, h10, h11, h12, h13, h14⟩
theorem wfJ_pb0 {σ : Sg} {J : Js} (hj : wfJ σ J) : j_pb J 0 = nI 0 := by rw [hj.2.2.2 0 (pw_pos _), pdA_0]
theorem wfJ_new {σ σ' : Sg} {J : Js} {pb : Nat → Int32} (hj : wfJ σ J) (h1 : s_th σ' = s_th σ) (h2 : s_n σ' = s_n σ) (hp : pbOk σ' pb (2 ^ s_n σ')) : wfJ σ' (ju_pb J pb) := by
  refine ⟨?_, ?_, ?_, hp⟩
  · show j_pe J = _; rw [peN, h1, h2]; exact hj.1
  · show j_wh J = _; rw [whN, h1, h2]; exact hj.2.1
  · show j_us J = _; rw [usN, h1, h2]; exact hj.2.2.1
set_option maxHeartbeats 4000000 in
set_option maxRecDepth 100000 in
theorem k_X3_bringBack (l : Launch) (D : va_G) (cy : Nat → ClassId) (ad aw : Nat → Nat) (σ : Sg) (J : Js) (k : Nat) (hw : wfS σ) (hj : wfJ σ J) (hk : k < 2) (hm : s_kp σ k = true) : MV l yX3_bringBack qX3_bringBack 2 [.ref (ad 3), .ref (ad (32 + k))] D cy (cw cy ad aw σ J) (fun u : Js => wfJ (su_cr (su_la (su_of (su_mo (su_ov σ (s_im σ (5 * k))) (s_im σ (5 * k + 1))) (s_im σ (5 * k + 2))) (decide (s_im σ (5 * k + 3) = 1))) (s_im σ (5 * k + 4))) u) (fun u : Js => cw cy ad aw (su_cr (su_la (su_of (su_mo (su_ov σ (s_im σ (5 * k))) (s_im σ (5 * k + 1))) (s_im σ (5 * k + 2))) (decide (s_im σ (5 * k + 3) = 1))) (s_im σ (5 * k + 4))) u) := by
  intro sz
  refine Met.ofW (cc := cX3_bringBack) (maxL := 2) (ret := none) (by decide) rfl ?_
  intro p e s m args below meth c s₁ B hml hv
  obtain ⟨rfl, rfl, hP, hK, hN, hD0⟩ := hv
  have hx := B.exec
  have hb := B.bytes
  have hr := B.returns
  have hlocks := B.notSynchronized
  have hts : ∀ cq ∈ tg, cq.before ([.ref (ad 3), .ref (ad (32 + k))] : List Value).toArray s = true := fun cq h => atoms_spec (ws := qX3_bringBack) B.pre cq (List.mem_cons_of_mem _ h)
  have hown : s.vm.findClass RX3 = some m.cls := findClass_of_methodNamed B.named
  have hD := hD0.self (sz := s.heap.size)
  generalize hAe : va_A (cw cy ad aw σ J) s.heap.size = A at hD ⊢
  have hA : ∀ q : Nat, s.heap.size ≤ q → A q := fun q h => by rw [← hAe]; exact Or.inr h
  have hS : va_S A s.heap s.heap [] := va_S.rf
  have hl := lv_entry ([.ref (ad 3), .ref (ad (32 + k))]) (n := 2) (Nat.le_of_ble_eq_true rfl)
  rw [lg_entry_eq]
  generalize (lg_sl ([.ref (ad 3), .ref (ad (32 + k))]) ++ List.replicate (2 - (lg_sl ([.ref (ad 3), .ref (ad (32 + k))])).length) Slot.unset).toArray = ls at hl ⊢
  have hl : lv_has ls 2 [(0, .ref (ad 3)), (1, .ref (ad (32 + k)))] := hl
  refine lv_aload_n hx hb dX3_bringBack_0 rfl (lv_at hl 0 rfl) ?_
  refine va_get (D := D) (ci := 3) (v := .ref (ad 6)) (C := RX3) (T := TX3) (N := 9) hx hb hts ni3 hown hK hP 3 (cw_c3 cy ad aw σ J) rfl 2 (by decide) (hts _ flX3_26) (fun _ h => h) rfl dX3_bringBack_1 ?_
  refine lv_aload_n hx hb dX3_bringBack_4 rfl (lv_at hl 1 rfl) ?_
  refine cr_vv (n := 1) (As := [.ref (ad (32 + k))]) (rest := []) ⟨hx, hb, hml, hown, hts⟩ (k_become1 l D cy ad aw σ J k hw (by omega)) gvX3_138 (by decide +kernel) ⟨Nat.le_of_ble_eq_true rfl, Nat.le_of_ble_eq_true rfl⟩ hK hN hP hD hS hA 6 (cw_c6 cy ad aw σ J) rfl rfl hl.1 rfl (Nat.le_of_ble_eq_true rfl) dX3_bringBack_5 ⟨Nat.zero_le _, Nat.zero_le _⟩ (fun _ => (cw_ad _ _ _ _ _).trans (cw_ad _ _ _ _ _).symm) (fun u1 H locs hpu1 hP hD hS => ?_)
  have hP : va_P D vwCl (cw cy ad aw (su_cr (su_la (su_of (su_mo (su_ov σ (s_im σ (5 * k))) (s_im σ (5 * k + 1))) (s_im σ (5 * k + 2))) (decide (s_im σ (5 * k + 3) = 1))) (s_im σ (5 * k + 4))) J) H := hP
  have hD : va_D A (cw cy ad aw (su_cr (su_la (su_of (su_mo (su_ov σ (s_im σ (5 * k))) (s_im σ (5 * k + 1))) (s_im σ (5 * k + 2))) (decide (s_im σ (5 * k + 3) = 1))) (s_im σ (5 * k + 4))) J) := hD
  refine lv_aload_n hx hb dX3_bringBack_8 rfl (lv_at hl 0 rfl) ?_
  refine cr_vv (n := 0) (As := []) (rest := []) ⟨hx, hb, hml, hown, hts⟩ (k_X3_weighAll l D cy ad aw (su_cr (su_la (su_of (su_mo (su_ov σ (s_im σ (5 * k))) (s_im σ (5 * k + 1))) (s_im σ (5 * k + 2))) (decide (s_im σ (5 * k + 3) = 1))) (s_im σ (5 * k + 4))) J (wfS_back hw hk hm) hj.2.1 (wfJ_pb0 hj)) gvX3_135 (by decide +kernel) ⟨Nat.le_of_ble_eq_true rfl, Nat.le_of_ble_eq_true rfl⟩ hK hN hP hD hS hA 3 (cw_c3 cy ad aw (su_cr (su_la (su_of (su_mo (su_ov σ (s_im σ (5 * k))) (s_im σ (5 * k + 1))) (s_im σ (5 * k + 2))) (decide (s_im σ (5 * k + 3) = 1))) (s_im σ (5 * k + 4))) J) rfl rfl hl.1 rfl (Nat.le_of_ble_eq_true rfl) dX3_bringBack_9 ⟨Nat.zero_le _, Nat.zero_le _⟩ (fun _ => (cw_ad _ _ _ _ _).trans (cw_ad _ _ _ _ _).symm) (fun u2 H locs hpu2 hP hD hS => ?_)
  have hP : va_P D vwCl (cw cy ad aw (su_cr (su_la (su_of (su_mo (su_ov σ (s_im σ (5 * k))) (s_im σ (5 * k + 1))) (s_im σ (5 * k + 2))) (decide (s_im σ (5 * k + 3) = 1))) (s_im σ (5 * k + 4))) (ju_pb J u2)) H := hP
  have hD : va_D A (cw cy ad aw (su_cr (su_la (su_of (su_mo (su_ov σ (s_im σ (5 * k))) (s_im σ (5 * k + 1))) (s_im σ (5 * k + 2))) (decide (s_im σ (5 * k + 3) = 1))) (s_im σ (5 * k + 4))) (ju_pb J u2)) := hD
  exact rw_v hx hb hr hlocks hS (ju_pb J u2) (wfJ_new hj rfl rfl hpu2) hP dX3_bringBack_12
set_option maxHeartbeats 4000000 in
set_option maxRecDepth 100000 in
theorem k_X10_back (l : Launch) (D : va_G) (cy : Nat → ClassId) (ad aw : Nat → Nat) (σ : Sg) (J : Js) (k : Int32) (hw : wfS σ) (hj : wfJ σ J) : MW l yX10_back qX10_back 3 [.ref (ad 0), .int (k)] D cy (cw cy ad aw σ J) (fun (r : Int32) (u : Js) => r = a_back σ k ∧ wfJ (n_back σ k) u) (fun u : Js => cw cy ad aw (n_back σ k) u) := by
  intro sz
  refine Met.ofW (cc := cX10_back) (maxL := 2) (ret := (some .int)) (by decide) rfl ?_
  intro p e s m args below meth c s₁ B hml hv
  obtain ⟨rfl, rfl, hP, hK, hN, hD0⟩ := hv
  have hx := B.exec
  have hb := B.bytes
  have hr := B.returns
  have hlocks := B.notSynchronized
  have hts : ∀ cq ∈ tg, cq.before ([.ref (ad 0), .int (k)] : List Value).toArray s = true := fun cq h => atoms_spec (ws := qX10_back) B.pre cq (List.mem_cons_of_mem _ h)
  have hown : s.vm.findClass RX10 = some m.cls := findClass_of_methodNamed B.named
  have hD := hD0.self (sz := s.heap.size)
  generalize hAe : va_A (cw cy ad aw σ J) s.heap.size = A at hD ⊢
  have hA : ∀ q : Nat, s.heap.size ≤ q → A q := fun q h => by rw [← hAe]; exact Or.inr h
  have hS : va_S A s.heap s.heap [] := va_S.rf
  have hl := lv_entry ([.ref (ad 0), .int (k)]) (n := 2) (Nat.le_of_ble_eq_true rfl)
  rw [lg_entry_eq]
  generalize (lg_sl ([.ref (ad 0), .int (k)]) ++ List.replicate (2 - (lg_sl ([.ref (ad 0), .int (k)])).length) Slot.unset).toArray = ls at hl ⊢
  have hl : lv_has ls 2 [(0, .ref (ad 0)), (1, .int (k))] := hl
  refine lv_iload_n hx hb dX10_back_0 rfl (lv_at hl 1 rfl) ?_
  refine lv_if_lt (tgt := 9) hx hb dX10_back_1 (by decide) (fun c1 => ?_) (fun c1 => ?_)
  · refine lv_bipush (v := -2) hx hb dX10_back_9 (by decide) ?_
    exact rw_i hx hb hr hlocks hS J (⟨by first | (rw [a_back, ixf1 (by decide) c1]; rfl; done) | (rw [a_back, ixf3 c6]; rfl), by rw [n_back, if_neg (by rintro ⟨q, -⟩; first | (rw [ixf1 (by decide) c1] at q; cases q; done) | (rw [ixf3 c6] at q; cases q))]; exact hj⟩) (by show va_P D vwCl (cw cy ad aw (n_back σ k) J) _; rw [n_back, if_neg (by rintro ⟨q, -⟩; first | (rw [ixf1 (by decide) c1] at q; cases q; done) | (rw [ixf3 c6] at q; cases q))]; exact hP) dX10_back_11
  · refine lv_iload_n hx hb dX10_back_4 rfl (lv_at hl 1 rfl) ?_
    refine lv_iconst (v := nI 2) hx hb dX10_back_5 (by decide) ?_
    refine lv_icmp_lt (tgt := 12) hx hb dX10_back_6 (by decide) (fun c6 => ?_) (fun c6 => ?_)
    · obtain ⟨k0, hk, rfl⟩ := ix_of (ixt2 c1 c6) (by decide)
      have hl : lv_has ls 2 [(0, .ref (ad 0)), (1, .int (nI (k0)))] := hl
      refine lv_aload_n hx hb dX10_back_12 rfl (lv_at hl 0 rfl) ?_
      refine va_get (D := D) (ci := 9) (v := .ref (ad 19)) (C := RX10) (T := TX10) (N := 8) hx hb hts ni10 hown hK hP 0 (cw_c0 cy ad aw σ J) rfl 5 (by decide) (hts _ flX10_50) (fun _ h => h) rfl dX10_back_13 ?_
      refine lv_iload_n hx hb dX10_back_16 rfl (lv_at hl 1 rfl) ?_
      refine ln_aald (x := ad (32 + k0)) hx hb hK hP 19 4 (cw_c19 cy ad aw σ J) rfl (by omega) (by decide) rfl dX10_back_17 ?_
      refine va_get (D := D) (ci := 5) (v := .int (bI (s_kp σ k0))) (C := RX5) (T := TX5) (N := 5) hx hb hts ni5 hown hK hP (32 + k0) (cw_kept cy ad aw σ J (t := k0) (by omega)) rfl 0 (by decide) (hts _ flX10_96) (fun _ h => h) rfl dX10_back_18 ?_
      refine lb_if_ne (tgt := 27) hx hb dX10_back_21 (by decide) (fun c21 => ?_) (fun c21 => ?_)
      · refine lv_aload_n hx hb dX10_back_27 rfl (lv_at hl 0 rfl) ?_
        refine va_get (D := D) (ci := 9) (v := .ref (ad 3)) (C := RX10) (T := TX10) (N := 8) hx hb hts ni10 hown hK hP 0 (cw_c0 cy ad aw σ J) rfl 1 (by decide) (hts _ flX10_19) (fun _ h => h) rfl dX10_back_28 ?_
        refine lv_aload_n hx hb dX10_back_31 rfl (lv_at hl 0 rfl) ?_
        refine va_get (D := D) (ci := 9) (v := .ref (ad 19)) (C := RX10) (T := TX10) (N := 8) hx hb hts ni10 hown hK hP 0 (cw_c0 cy ad aw σ J) rfl 5 (by decide) (hts _ flX10_50) (fun _ h => h) rfl dX10_back_32 ?_
        refine lv_iload_n hx hb dX10_back_35 rfl (lv_at hl 1 rfl) ?_
        refine ln_aald (x := ad (32 + k0)) hx hb hK hP 19 4 (cw_c19 cy ad aw σ J) rfl (by omega) (by decide) rfl dX10_back_36 ?_
        refine cr_vv (n := 1) (As := [.ref (ad (32 + k0))]) (rest := []) ⟨hx, hb, hml, hown, hts⟩ (k_X3_bringBack l D cy ad aw σ J k0 hw hj (by omega) c21) gvX10_199 (by decide +kernel) ⟨Nat.le_of_ble_eq_true rfl, Nat.le_of_ble_eq_true rfl⟩ hK hN hP hD hS hA 3 (cw_c3 cy ad aw σ J) rfl rfl hl.1 rfl (Nat.le_of_ble_eq_true rfl) dX10_back_37 ⟨Nat.zero_le _, Nat.zero_le _⟩ (fun _ => (cw_ad _ _ _ _ _).trans (cw_ad _ _ _ _ _).symm) (fun u1 H locs hpu1 hP hD hS => ?_)
        have hP : va_P D vwCl (cw cy ad aw (su_cr (su_la (su_of (su_mo (su_ov σ (s_im σ (5 * k0))) (s_im σ (5 * k0 + 1))) (s_im σ (5 * k0 + 2))) (decide (s_im σ (5 * k0 + 3) = 1))) (s_im σ (5 * k0 + 4))) u1) H := hP
        have hD : va_D A (cw cy ad aw (su_cr (su_la (su_of (su_mo (su_ov σ (s_im σ (5 * k0))) (s_im σ (5 * k0 + 1))) (s_im σ (5 * k0 + 2))) (decide (s_im σ (5 * k0 + 3) = 1))) (s_im σ (5 * k0 + 4))) u1) := hD
        refine lv_aload_n hx hb dX10_back_40 rfl (lv_at hl 0 rfl) ?_
        refine va_get (D := D) (ci := 9) (v := .ref (ad 3)) (C := RX10) (T := TX10) (N := 8) hx hb hts ni10 hown hK hP 0 (cw_c0 cy ad aw (su_cr (su_la (su_of (su_mo (su_ov σ (s_im σ (5 * k0))) (s_im σ (5 * k0 + 1))) (s_im σ (5 * k0 + 2))) (decide (s_im σ (5 * k0 + 3) = 1))) (s_im σ (5 * k0 + 4))) u1) rfl 1 (by decide) (hts _ flX10_19) (fun _ h => h) rfl dX10_back_41 ?_
        refine va_get (D := D) (ci := 3) (v := .ref (ad 6)) (C := RX3) (T := TX3) (N := 9) hx hb hts ni3 hown hK hP 3 (cw_c3 cy ad aw (su_cr (su_la (su_of (su_mo (su_ov σ (s_im σ (5 * k0))) (s_im σ (5 * k0 + 1))) (s_im σ (5 * k0 + 2))) (decide (s_im σ (5 * k0 + 3) = 1))) (s_im σ (5 * k0 + 4))) u1) rfl 2 (by decide) (hts _ flX10_116) (fun _ h => h) rfl dX10_back_44 ?_
        refine va_get (D := D) (ci := 5) (v := .int (nI ((s_im σ (5 * k0 + 4))))) (C := RX5) (T := TX5) (N := 5) hx hb hts ni5 hown hK hP 6 (cw_c6 cy ad aw (su_cr (su_la (su_of (su_mo (su_ov σ (s_im σ (5 * k0))) (s_im σ (5 * k0 + 1))) (s_im σ (5 * k0 + 2))) (decide (s_im σ (5 * k0 + 3) = 1))) (s_im σ (5 * k0 + 4))) u1) rfl 4 (by decide) (hts _ flX10_185) (fun _ h => h) rfl dX10_back_47 ?_
        exact rw_i hx hb hr hlocks hS u1 (⟨by rw [a_back, ixt2 c1 c6, tk_nI (k := k0) (by omega), c21]; rfl, by rw [n_back, tk_nI (k := k0) (by omega), if_pos ⟨ixt2 c1 c6, c21⟩]; exact hpu1⟩) (by show va_P D vwCl (cw cy ad aw (n_back σ (nI k0)) u1) _; rw [n_back, tk_nI (k := k0) (by omega), if_pos ⟨ixt2 c1 c6, c21⟩]; exact hP) dX10_back_50
      · refine lv_bipush (v := -4) hx hb dX10_back_24 (by decide) ?_
        exact rw_i hx hb hr hlocks hS J (⟨by rw [a_back, ixt2 c1 c6, tk_nI (k := k0) (by omega), c21]; rfl, by rw [n_back, tk_nI (k := k0) (by omega), if_neg (by rintro ⟨-, q⟩; rw [c21] at q; cases q)]; exact hj⟩) (by show va_P D vwCl (cw cy ad aw (n_back σ (nI k0)) J) _; rw [n_back, tk_nI (k := k0) (by omega), if_neg (by rintro ⟨-, q⟩; rw [c21] at q; cases q)]; exact hP) dX10_back_26
    · refine lv_bipush (v := -2) hx hb dX10_back_9 (by decide) ?_
      exact rw_i hx hb hr hlocks hS J (⟨by first | (rw [a_back, ixf1 (by decide) c1]; rfl; done) | (rw [a_back, ixf3 c6]; rfl), by rw [n_back, if_neg (by rintro ⟨q, -⟩; first | (rw [ixf1 (by decide) c1] at q; cases q; done) | (rw [ixf3 c6] at q; cases q))]; exact hj⟩) (by show va_P D vwCl (cw cy ad aw (n_back σ k) J) _; rw [n_back, if_neg (by rintro ⟨q, -⟩; first | (rw [ixf1 (by decide) c1] at q; cases q; done) | (rw [ixf3 c6] at q; cases q))]; exact hP) dX10_back_11
set_option maxHeartbeats 4000000 in
set_option maxRecDepth 100000 in
theorem k_X3_turnHat (l : Launch) (D : va_G) (cy : Nat → ClassId) (ad aw : Nat → Nat) (σ : Sg) (J : Js) (t : Nat) (hw : wfS σ) (hj : wfJ σ J) (ht : t < s_n σ) : MV l yX3_turnHat qX3_turnHat 2 [.ref (ad 3), .int (nI (t))] D cy (cw cy ad aw σ J) (fun u : Js => wfJ (su_of σ (s_of σ ^^^ 2 ^ t)) u) (fun u : Js => cw cy ad aw (su_of σ (s_of σ ^^^ 2 ^ t)) u) := by
  intro sz
  refine Met.ofW (cc := cX3_turnHat) (maxL := 2) (ret := none) (by decide) rfl ?_
  intro p e s m args below meth c s₁ B hml hv
  obtain ⟨rfl, rfl, hP, hK, hN, hD0⟩ := hv
  have hx := B.exec
  have hb := B.bytes
  have hr := B.returns
  have hlocks := B.notSynchronized
  have hts : ∀ cq ∈ tg, cq.before ([.ref (ad 3), .int (nI (t))] : List Value).toArray s = true := fun cq h => atoms_spec (ws := qX3_turnHat) B.pre cq (List.mem_cons_of_mem _ h)
  have hown : s.vm.findClass RX3 = some m.cls := findClass_of_methodNamed B.named
  have hD := hD0.self (sz := s.heap.size)
  generalize hAe : va_A (cw cy ad aw σ J) s.heap.size = A at hD ⊢
  have hA : ∀ q : Nat, s.heap.size ≤ q → A q := fun q h => by rw [← hAe]; exact Or.inr h
  have hS : va_S A s.heap s.heap [] := va_S.rf
  have hl := lv_entry ([.ref (ad 3), .int (nI (t))]) (n := 2) (Nat.le_of_ble_eq_true rfl)
  rw [lg_entry_eq]
  generalize (lg_sl ([.ref (ad 3), .int (nI (t))]) ++ List.replicate (2 - (lg_sl ([.ref (ad 3), .int (nI (t))])).length) Slot.unset).toArray = ls at hl ⊢
  have hl : lv_has ls 2 [(0, .ref (ad 3)), (1, .int (nI (t)))] := hl
  have hw1 := hw.1
  have hw2 := hw.2.1
  have hp8 := pw_8 hw1
  have hpp := pw_pos (s_n σ)
  have hov := ov_lt hw
  have hmo := mo_lt hw
  have hof := of_lt hw
  have hpt := pw_lt8 (k := t) (by omega)
  have hxo : s_of σ ^^^ 2 ^ t < 2 ^ s_n σ := Nat.xor_lt_two_pow hw.2.2.2.2.2.2.2.2.1 (pw_lt ht)
  refine lv_aload_n hx hb dX3_turnHat_0 rfl (lv_at hl 0 rfl) ?_
  refine va_get (D := D) (ci := 3) (v := .ref (ad 6)) (C := RX3) (T := TX3) (N := 9) hx hb hts ni3 hown hK hP 3 (cw_c3 cy ad aw σ J) rfl 2 (by decide) (hts _ flX3_26) (fun _ h => h) rfl dX3_turnHat_1 ?_
  refine lv_dup hx hb dX3_turnHat_4 rfl ?_
  refine va_get (D := D) (ci := 5) (v := .int (nI (s_of σ))) (C := RX5) (T := TX5) (N := 5) hx hb hts ni5 hown hK hP 6 (cw_c6 cy ad aw σ J) rfl 2 (by decide) (hts _ flX3_126) (fun _ h => h) rfl dX3_turnHat_5 ?_
  refine lv_iconst (v := nI 1) hx hb dX3_turnHat_8 (by decide) ?_
  refine lv_iload_n hx hb dX3_turnHat_9 rfl (lv_at hl 1 rfl) ?_
  refine ln_ishl hx hb dX3_turnHat_10 (by omega) (by omega) ?_
  refine ln_nat (show 1 * 2 ^ t = 2 ^ t from Nat.one_mul _) ?_
  refine ln_ixor hx hb dX3_turnHat_11 ?_
  refine ln_put (ci := 5) (C := RX5) (T := TX5) (N := 5) (ty := .int) (v := .int (nI ((s_of σ) ^^^ (2 ^ t)))) hx hb hts ni5 tyX5 tyX5_ok nmX5 hown hK hP hD hS 6 (cw_c6 cy ad aw σ J) rfl 2 (by decide) (hts _ flX3_126) (fun _ h => h) rfl (by decide +kernel) rfl rfl (Nat.le_of_ble_eq_true rfl) (cp_6_2 cy ad aw σ J ((s_of σ) ^^^ (2 ^ t))) dX3_turnHat_12 (fun H locs hP hD hS => ?_)
  refine lv_aload_n hx hb dX3_turnHat_15 rfl (lv_at hl 0 rfl) ?_
  refine cr_vv (n := 0) (As := []) (rest := []) ⟨hx, hb, hml, hown, hts⟩ (k_X3_weighAll l D cy ad aw (su_of σ ((s_of σ) ^^^ (2 ^ t))) J (wfS_of hw hxo) hj.2.1 (wfJ_pb0 hj)) gvX3_135 (by decide +kernel) ⟨Nat.le_of_ble_eq_true rfl, Nat.le_of_ble_eq_true rfl⟩ hK hN hP hD hS hA 3 (cw_c3 cy ad aw (su_of σ ((s_of σ) ^^^ (2 ^ t))) J) rfl rfl hl.1 rfl (Nat.le_of_ble_eq_true rfl) dX3_turnHat_16 ⟨Nat.zero_le _, Nat.zero_le _⟩ (fun _ => (cw_ad _ _ _ _ _).trans (cw_ad _ _ _ _ _).symm) (fun u1 H locs hpu1 hP hD hS => ?_)
  have hP : va_P D vwCl (cw cy ad aw (su_of σ ((s_of σ) ^^^ (2 ^ t))) (ju_pb J u1)) H := hP
  have hD : va_D A (cw cy ad aw (su_of σ ((s_of σ) ^^^ (2 ^ t))) (ju_pb J u1)) := hD
  exact rw_v hx hb hr hlocks hS (ju_pb J u1) (wfJ_new hj rfl rfl hpu1) hP dX3_turnHat_19
set_option maxHeartbeats 4000000 in
set_option maxRecDepth 100000 in
theorem k_X10_doff (l : Launch) (D : va_G) (cy : Nat → ClassId) (ad aw : Nat → Nat) (σ : Sg) (J : Js) (t : Int32) (hw : wfS σ) (hj : wfJ σ J) : MW l yX10_doff qX10_doff 3 [.ref (ad 0), .int (t)] D cy (cw cy ad aw σ J) (fun (r : Int32) (u : Js) => r = a_doff σ t ∧ wfJ (n_doff σ t) u) (fun u : Js => cw cy ad aw (n_doff σ t) u) := by
  intro sz
  refine Met.ofW (cc := cX10_doff) (maxL := 2) (ret := (some .int)) (by decide) rfl ?_
  intro p e s m args below meth c s₁ B hml hv
  obtain ⟨rfl, rfl, hP, hK, hN, hD0⟩ := hv
  have hx := B.exec
  have hb := B.bytes
  have hr := B.returns
  have hlocks := B.notSynchronized
  have hts : ∀ cq ∈ tg, cq.before ([.ref (ad 0), .int (t)] : List Value).toArray s = true := fun cq h => atoms_spec (ws := qX10_doff) B.pre cq (List.mem_cons_of_mem _ h)
  have hown : s.vm.findClass RX10 = some m.cls := findClass_of_methodNamed B.named
  have hD := hD0.self (sz := s.heap.size)
  generalize hAe : va_A (cw cy ad aw σ J) s.heap.size = A at hD ⊢
  have hA : ∀ q : Nat, s.heap.size ≤ q → A q := fun q h => by rw [← hAe]; exact Or.inr h
  have hS : va_S A s.heap s.heap [] := va_S.rf
  have hl := lv_entry ([.ref (ad 0), .int (t)]) (n := 2) (Nat.le_of_ble_eq_true rfl)
  rw [lg_entry_eq]
  generalize (lg_sl ([.ref (ad 0), .int (t)]) ++ List.replicate (2 - (lg_sl ([.ref (ad 0), .int (t)])).length) Slot.unset).toArray = ls at hl ⊢
  have hl : lv_has ls 2 [(0, .ref (ad 0)), (1, .int (t))] := hl
  have hw1 := hw.1
  have hw2 := hw.2.1
  have hp8 := pw_8 hw1
  have hpp := pw_pos (s_n σ)
  have hov := ov_lt hw
  have hmo := mo_lt hw
  have hof := of_lt hw
  refine lv_aload_n hx hb dX10_doff_0 rfl (lv_at hl 0 rfl) ?_
  refine va_get (D := D) (ci := 9) (v := .ref (ad 3)) (C := RX10) (T := TX10) (N := 8) hx hb hts ni10 hown hK hP 0 (cw_c0 cy ad aw σ J) rfl 1 (by decide) (hts _ flX10_19) (fun _ h => h) rfl dX10_doff_1 ?_
  refine lv_iload_n hx hb dX10_doff_4 rfl (lv_at hl 1 rfl) ?_
  refine cr_v (n := 1) (As := [.int (t)]) (rest := []) ⟨hx, hb, hml, hown, hts⟩ (k_X3_hasThing l D cy ad aw σ J (t) hw) gvX10_100 (by decide +kernel) ⟨Nat.le_of_ble_eq_true rfl, Nat.le_of_ble_eq_true rfl⟩ hK hN hP 3 (cw_c3 cy ad aw σ J) rfl rfl hl.1 rfl (Nat.le_of_ble_eq_true rfl) dX10_doff_5 ⟨Nat.zero_le _, Nat.zero_le _⟩ ?_
  refine lb_if_ne (tgt := 14) hx hb dX10_doff_8 (by decide) (fun c8 => ?_) (fun c8 => ?_)
  · obtain ⟨t0, ht, rfl⟩ := ix_of c8 (by omega)
    have hl : lv_has ls 2 [(0, .ref (ad 0)), (1, .int (nI (t0)))] := hl
    have hk := hw.2.2.1 t0 (by omega)
    have hpt8 := pw_lt8 (k := t0) (by omega)
    have hptn := pw_lt ht
    have hxo : s_of σ ^^^ 2 ^ t0 < 2 ^ s_n σ := Nat.xor_lt_two_pow hw.2.2.2.2.2.2.2.2.1 (pw_lt ht)
    refine lv_aload_n hx hb dX10_doff_14 rfl (lv_at hl 0 rfl) ?_
    refine va_get (D := D) (ci := 9) (v := .ref (ad 3)) (C := RX10) (T := TX10) (N := 8) hx hb hts ni10 hown hK hP 0 (cw_c0 cy ad aw σ J) rfl 1 (by decide) (hts _ flX10_19) (fun _ h => h) rfl dX10_doff_15 ?_
    refine va_get (D := D) (ci := 3) (v := .ref (ad 4)) (C := RX3) (T := TX3) (N := 9) hx hb hts ni3 hown hK hP 3 (cw_c3 cy ad aw σ J) rfl 0 (by decide) (hts _ flX10_104) (fun _ h => h) rfl dX10_doff_18 ?_
    refine lv_iload_n hx hb dX10_doff_21 rfl (lv_at hl 1 rfl) ?_
    refine ln_aald (x := ad (21 + t0)) hx hb hK hP 4 5 (cw_c4 cy ad aw σ J) rfl (by omega) (by decide) rfl dX10_doff_22 ?_
    refine cr_v (n := 0) (As := []) (rest := []) ⟨hx, hb, hml, hown, hts⟩ (k_X8_hasHat l D cy ad aw σ J t0 hw (by omega)) gvX10_188 (by decide +kernel) ⟨Nat.le_of_ble_eq_true rfl, Nat.le_of_ble_eq_true rfl⟩ hK hN hP (21 + t0) (cw_thing cy ad aw σ J (t := t0) (by omega)) rfl rfl hl.1 rfl (Nat.le_of_ble_eq_true rfl) dX10_doff_23 ⟨Nat.zero_le _, Nat.zero_le _⟩ ?_
    refine lb_if_ne (tgt := 32) hx hb dX10_doff_26 (by decide) (fun c26 => ?_) (fun c26 => ?_)
    · have c26n := of_decide_eq_true c26
      refine lv_aload_n hx hb dX10_doff_32 rfl (lv_at hl 0 rfl) ?_
      refine va_get (D := D) (ci := 9) (v := .ref (ad 3)) (C := RX10) (T := TX10) (N := 8) hx hb hts ni10 hown hK hP 0 (cw_c0 cy ad aw σ J) rfl 1 (by decide) (hts _ flX10_19) (fun _ h => h) rfl dX10_doff_33 ?_
      refine lv_iload_n hx hb dX10_doff_36 rfl (lv_at hl 1 rfl) ?_
      refine cr_vv (n := 1) (As := [.int (nI (t0))]) (rest := []) ⟨hx, hb, hml, hown, hts⟩ (k_X3_turnHat l D cy ad aw σ J t0 hw hj (by omega)) gvX10_192 (by decide +kernel) ⟨Nat.le_of_ble_eq_true rfl, Nat.le_of_ble_eq_true rfl⟩ hK hN hP hD hS hA 3 (cw_c3 cy ad aw σ J) rfl rfl hl.1 rfl (Nat.le_of_ble_eq_true rfl) dX10_doff_37 ⟨Nat.zero_le _, Nat.zero_le _⟩ (fun _ => (cw_ad _ _ _ _ _).trans (cw_ad _ _ _ _ _).symm) (fun u1 H locs hpu1 hP hD hS => ?_)
      have hP : va_P D vwCl (cw cy ad aw (su_of σ (s_of σ ^^^ 2 ^ t0)) u1) H := hP
      have hD : va_D A (cw cy ad aw (su_of σ (s_of σ ^^^ 2 ^ t0)) u1) := hD
      refine lv_aload_n hx hb dX10_doff_40 rfl (lv_at hl 0 rfl) ?_
      refine va_get (D := D) (ci := 9) (v := .ref (ad 3)) (C := RX10) (T := TX10) (N := 8) hx hb hts ni10 hown hK hP 0 (cw_c0 cy ad aw (su_of σ (s_of σ ^^^ 2 ^ t0)) u1) rfl 1 (by decide) (hts _ flX10_19) (fun _ h => h) rfl dX10_doff_41 ?_
      refine lv_iconst (v := nI 1) hx hb dX10_doff_44 (by decide) ?_
      refine lv_iload_n hx hb dX10_doff_45 rfl (lv_at hl 1 rfl) ?_
      refine ln_ishl hx hb dX10_doff_46 (by omega) (by omega) ?_
      refine ln_nat (show 1 * 2 ^ t0 = 2 ^ t0 from Nat.one_mul _) ?_
      refine cr_v (n := 1) (As := [.int (nI (2 ^ t0))]) (rest := []) ⟨hx, hb, hml, hown, hts⟩ (k_X3_poundsOf l D cy ad aw (su_of σ (s_of σ ^^^ 2 ^ t0)) u1 (2 ^ t0) (wfS_of hw hxo) hpu1 hptn) gvX10_135 (by decide +kernel) ⟨Nat.le_of_ble_eq_true rfl, Nat.le_of_ble_eq_true rfl⟩ hK hN hP 3 (cw_c3 cy ad aw (su_of σ (s_of σ ^^^ 2 ^ t0)) u1) rfl rfl hl.1 rfl (Nat.le_of_ble_eq_true rfl) dX10_doff_47 ⟨Nat.zero_le _, Nat.zero_le _⟩ ?_
      exact rw_i hx hb hr hlocks hS u1 (⟨by rw [a_doff, c8, tk_nI (k := t0) (by omega), if_neg (by decide), if_neg (by omega)]; exact congrArg nI (pdA_1 (σ := su_of σ (s_of σ ^^^ 2 ^ t0)) ht), by rw [n_doff, tk_nI (k := t0) (by omega), if_pos ⟨c8, by omega⟩]; exact hpu1⟩) (by show va_P D vwCl (cw cy ad aw (n_doff σ (nI t0)) u1) _; rw [n_doff, tk_nI (k := t0) (by omega), if_pos ⟨c8, by omega⟩]; exact hP) dX10_doff_50
    · have c26n := of_decide_eq_false c26
      refine lv_bipush (v := -4) hx hb dX10_doff_29 (by decide) ?_
      exact rw_i hx hb hr hlocks hS J (⟨by rw [a_doff, c8, tk_nI (k := t0) (by omega), if_neg (by decide), if_pos (by omega)], by rw [n_doff, tk_nI (k := t0) (by omega), if_neg (by omega)]; exact hj⟩) (by show va_P D vwCl (cw cy ad aw (n_doff σ (nI t0)) J) _; rw [n_doff, tk_nI (k := t0) (by omega), if_neg (by omega)]; exact hP) dX10_doff_31
  · refine lv_bipush (v := -2) hx hb dX10_doff_11 (by decide) ?_
    exact rw_i hx hb hr hlocks hS J (⟨by rw [a_doff, c8]; rfl, by rw [n_doff, if_neg (by rintro ⟨q, -⟩; rw [c8] at q; cases q)]; exact hj⟩) (by show va_P D vwCl (cw cy ad aw (n_doff σ t) J) _; rw [n_doff, if_neg (by rintro ⟨q, -⟩; rw [c8] at q; cases q)]; exact hP) dX10_doff_13
