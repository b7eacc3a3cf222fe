theorem wiT_le {σ : Sg} (hw : wfS σ) (ld : Nat) {i : Nat} (hi : i ≤ s_n σ) : sumN (fun t => if ld.testBit t then s_th σ (6 * t + 4) else 0) i ≤ 864 := sumb (fun t ht => by have h1 := hw.2.2.1 t ht; split <;> omega) hi hw.1
theorem wiA_le {σ : Sg} (hw : wfS σ) (ld : Nat) : wiA σ ld ≤ 864 := wiT_le hw ld (Nat.le_refl _)
theorem unA_le {σ : Sg} (hw : wfS σ) (ld : Nat) : unA σ ld ≤ 864 := sumb (fun t ht => by have h1 := hw.2.2.1 t ht; split <;> omega) (Nat.le_refl _) hw.1
theorem ov_lt {σ : Sg} (hw : wfS σ) : s_ov σ < 256 := Nat.lt_of_lt_of_le hw.2.2.2.2.2.2.1 (pw_8 hw.1)
theorem mo_lt {σ : Sg} (hw : wfS σ) : s_mo σ < 8 := Nat.lt_of_lt_of_le hw.2.2.2.2.2.2.2.1 (pw_le (n := 3) hw.2.1)
theorem of_lt {σ : Sg} (hw : wfS σ) : s_of σ < 256 := Nat.lt_of_lt_of_le hw.2.2.2.2.2.2.2.2.1 (pw_8 hw.1)
theorem xor_lt8 {a b : Nat} (ha : a < 256) (hb : b < 256) : a ^^^ b < 256 := Nat.xor_lt_two_pow (n := 8) ha hb
theorem pw_lt8 {k : Nat} (h : k < 8) : 2 ^ k < 256 := Nat.pow_lt_pow_right (by decide) h
set_option maxHeartbeats 4000000 in
set_option maxRecDepth 100000 in
theorem k_X11_wishes (l : Launch) (D : va_G) (cy : Nat → ClassId) (ad : Nat → Nat) (σ : Sg) (T : Ms) (x : Nat) (hw : wfS σ) (h1 : x < 2 ^ 31) : MR l yX11_wishes qX11_wishes 1 [.ref (ad 0), .int (nI (x))] D cy (mw cy ad σ T) (nI (wiA σ x)) := by
  refine Met.ofW (cc := cX11_wishes) (maxL := 4) (ret := (some .int)) (by decide) rfl ?_
  intro p e s m args below meth c s₁ B hml hv
  obtain ⟨rfl, hP, hK, hN⟩ := hv
  have hx := B.exec
  have hb := B.bytes
  have hr := B.returns
  have hlocks := B.notSynchronized
  have hts : ∀ cq ∈ tg, cq.before ([.ref (ad 0), .int (nI (x))] : List Value).toArray s = true := fun cq h => atoms_spec (ws := qX11_wishes) B.pre cq (List.mem_cons_of_mem _ h)
  have hown : s.vm.findClass RX11 = some m.cls := findClass_of_methodNamed B.named
  have hl := lv_entry ([.ref (ad 0), .int (nI (x))]) (n := 4) (Nat.le_of_ble_eq_true rfl)
  rw [lg_entry_eq]
  generalize (lg_sl ([.ref (ad 0), .int (nI (x))]) ++ List.replicate (4 - (lg_sl ([.ref (ad 0), .int (nI (x))])).length) Slot.unset).toArray = ls at hl ⊢
  have hl : lv_has ls 4 [(0, .ref (ad 0)), (1, .int (nI (x)))] := hl
  have hw1 := hw.1
  refine lv_iconst (v := nI 0) hx hb dX11_wishes_0 (by decide) ?_
  refine lv_istore_n (lv' := [(2, .int (nI (0))), (0, .ref (ad 0)), (1, .int (nI (x)))]) hx hb dX11_wishes_1 rfl hl (by decide) rfl (fun ls hl => ?_)
  refine lv_iconst (v := nI 0) hx hb dX11_wishes_2 (by decide) ?_
  refine lv_istore_n (lv' := [(3, .int (nI (0))), (2, .int (nI (0))), (0, .ref (ad 0)), (1, .int (nI (x)))]) hx hb dX11_wishes_3 rfl hl (by decide) rfl (fun ls hl => ?_)
  have loop : ∀ (k i : Nat) (ls : Array Slot), i + k = s_n σ →  lv_has ls 4 [(3, .int (nI (i))), (2, .int (nI (sumN (fun t => if x.testBit t then s_th σ (6 * t + 4) else 0) i))), (0, .ref (ad 0)), (1, .int (nI (x)))] → W p l e (headSpec qX11_wishes (rq 1)).room s m ([.ref (ad 0), .int (nI (x))] : List Value).toArray below meth c s.heap [] 0 0 (MQ below (vp_Si (fun r => r = nI (wiA σ x))) ([.ref (ad 0), .int (nI (x))] : List Value).toArray s 0 0 (fun _ => False)) (F0 m 4 ls []) := by
    intro k
    induction k with
    | zero =>
      intro i ls hi hl
      refine lv_iload_n hx hb dX11_wishes_4 rfl (lv_at hl 0 rfl) ?_
      refine lv_aload_n hx hb dX11_wishes_5 rfl (lv_at hl 2 rfl) ?_
      refine va_get (D := D) (ci := 10) (v := .int (nI (s_n σ))) (C := RX11) (T := TX11) (N := 31) hx hb hts ni11 hown hK hP 0 (mw_c0 cy ad σ T) rfl 0 (by decide) (hts _ flX11_47) (fun _ h => h) rfl dX11_wishes_6 ?_
      refine ln_icmp_ge (tgt := 44) hx hb dX11_wishes_9 (by decide) (by omega) (by omega) (fun c9 => ?_) (fun c9 => ?_)
      · refine lv_iload_n hx hb dX11_wishes_44 rfl (lv_at hl 1 rfl) ?_
        exact rt_i hx hb hr hlocks (by rw [show i = s_n σ by omega]; rfl) dX11_wishes_45
      · exact absurd c9 (by omega)
    | succ k ih =>
      intro i ls hi hl
      refine lv_iload_n hx hb dX11_wishes_4 rfl (lv_at hl 0 rfl) ?_
      refine lv_aload_n hx hb dX11_wishes_5 rfl (lv_at hl 2 rfl) ?_
      refine va_get (D := D) (ci := 10) (v := .int (nI (s_n σ))) (C := RX11) (T := TX11) (N := 31) hx hb hts ni11 hown hK hP 0 (mw_c0 cy ad σ T) rfl 0 (by decide) (hts _ flX11_47) (fun _ h => h) rfl dX11_wishes_6 ?_
      refine ln_icmp_ge (tgt := 44) hx hb dX11_wishes_9 (by decide) (by omega) (by omega) (fun c9 => ?_) (fun c9 => ?_)
      · exact absurd c9 (by omega)
      · refine lv_iload_n hx hb dX11_wishes_12 rfl (lv_at hl 1 rfl) ?_
        refine lv_iload_n hx hb dX11_wishes_13 rfl (lv_at hl 3 rfl) ?_
        refine lv_iload_n hx hb dX11_wishes_14 rfl (lv_at hl 0 rfl) ?_
        refine cr_s (n := 2) (As := [.int (nI (x)), .int (nI (i))]) (rest := [.int (nI (sumN (fun t => if x.testBit t then s_th σ (6 * t + 4) else 0) i))]) ⟨hx, hb, hml, hown, hts⟩ (k_X11_has l x i (by omega) (by omega)) gsX11_173 (by decide +kernel) ⟨Nat.le_of_ble_eq_true rfl, Nat.le_of_ble_eq_true rfl⟩ rfl hl.1 rfl (Nat.le_of_ble_eq_true rfl) dX11_wishes_15 ⟨Nat.zero_le _, Nat.zero_le _⟩ ?_
        refine lb_if_eq (tgt := 35) hx hb dX11_wishes_18 (by decide) (fun c18 => ?_) (fun c18 => ?_)
        · refine lv_iconst (v := nI 0) hx hb dX11_wishes_35 (by decide) ?_
          refine ln_iadd hx hb dX11_wishes_36 ?_
          refine ln_nat (show (sumN (fun t => if x.testBit t then s_th σ (6 * t + 4) else 0) i) + 0 = sumN (fun t => if x.testBit t then s_th σ (6 * t + 4) else 0) (i + 1) from by first | exact sum_t (f := fun _ => 0) (g := fun t => s_th σ (6 * t + 4)) c18 rfl | exact sum_f c18) ?_
          refine lv_istore_n (lv' := [(2, .int (nI (sumN (fun t => if x.testBit t then s_th σ (6 * t + 4) else 0) (i + 1)))), (3, .int (nI (i))), (0, .ref (ad 0)), (1, .int (nI (x)))]) hx hb dX11_wishes_37 rfl hl (by decide) rfl (fun ls hl => ?_)
          refine ln_iinc (lv' := [(3, .int (nI (i + 1))), (2, .int (nI (sumN (fun t => if x.testBit t then s_th σ (6 * t + 4) else 0) (i + 1)))), (0, .ref (ad 0)), (1, .int (nI (x)))]) hx hb dX11_wishes_38 hl (k := 1) (n := 1) rfl (by decide) rfl (fun ls hl => ?_)
          refine lv_goto (tgt := 4) hx hb dX11_wishes_41 (by decide) ?_
          exact ih (i + 1) ls (by omega)  (lv_sub hl [0, 1, 2, 3] rfl)
        · refine lv_aload_n hx hb dX11_wishes_21 rfl (lv_at hl 2 rfl) ?_
          refine va_get (D := D) (ci := 10) (v := .ref (ad 1)) (C := RX11) (T := TX11) (N := 31) hx hb hts ni11 hown hK hP 0 (mw_c0 cy ad σ T) rfl 1 (by decide) (hts _ flX11_7) (fun _ h => h) rfl dX11_wishes_22 ?_
          refine lv_bipush (v := nI 6) hx hb dX11_wishes_25 (by decide) ?_
          refine lv_iload_n hx hb dX11_wishes_27 rfl (lv_at hl 0 rfl) ?_
          refine ln_imul hx hb dX11_wishes_28 ?_
          refine lv_iconst (v := nI 4) hx hb dX11_wishes_29 (by decide) ?_
          refine ln_iadd hx hb dX11_wishes_30 ?_
          refine ln_iald (v := (nI (s_th σ ((6 * i) + 4)))) hx hb hK hP 1 (mw_c1 cy ad σ T) (by omega) (by decide) rfl dX11_wishes_31 ?_
          refine lv_goto (tgt := 36) hx hb dX11_wishes_32 (by decide) ?_
          refine ln_iadd hx hb dX11_wishes_36 ?_
          refine ln_nat (show (sumN (fun t => if x.testBit t then s_th σ (6 * t + 4) else 0) i) + (s_th σ ((6 * i) + 4)) = sumN (fun t => if x.testBit t then s_th σ (6 * t + 4) else 0) (i + 1) from by first | exact sum_t (f := fun _ => 0) (g := fun t => s_th σ (6 * t + 4)) c18 rfl | exact sum_f c18) ?_
          refine lv_istore_n (lv' := [(2, .int (nI (sumN (fun t => if x.testBit t then s_th σ (6 * t + 4) else 0) (i + 1)))), (3, .int (nI (i))), (0, .ref (ad 0)), (1, .int (nI (x)))]) hx hb dX11_wishes_37 rfl hl (by decide) rfl (fun ls hl => ?_)
          refine ln_iinc (lv' := [(3, .int (nI (i + 1))), (2, .int (nI (sumN (fun t => if x.testBit t then s_th σ (6 * t + 4) else 0) (i + 1)))), (0, .ref (ad 0)), (1, .int (nI (x)))]) hx hb dX11_wishes_38 hl (k := 1) (n := 1) rfl (by decide) rfl (fun ls hl => ?_)
          refine lv_goto (tgt := 4) hx hb dX11_wishes_41 (by decide) ?_
          exact ih (i + 1) ls (by omega)  (lv_sub hl [0, 1, 2, 3] rfl)
  exact loop (s_n σ - 0) 0 ls (by omega)  (lv_sub hl [0, 1, 2, 3] rfl)
set_option maxHeartbeats 4000000 in
set_option maxRecDepth 100000 in
theorem k_X11_erase (l : Launch) (D : va_G) (cy : Nat → ClassId) (ad : Nat → Nat) (σ : Sg) (T : Ms)   : MW l yX11_erase qX11_erase 0 [.ref (ad 0)] D cy (mw cy ad σ T) (fun (r : Int32) (_ : Ms) => r = nI (s_ln σ)) (fun u : Ms => mw cy ad (n_erase σ) u) := by
  intro sz
  refine Met.ofW (cc := cX11_erase) (maxL := 2) (ret := (some .int)) (by decide) rfl ?_
  intro p e s m args below meth c s₁ B hml hv
  obtain ⟨rfl, rfl, hP, hK, hN, hD0⟩ := hv
  have hx := B.exec
  have hb := B.bytes
  have hr := B.returns
  have hlocks := B.notSynchronized
  have hts : ∀ cq ∈ tg, cq.before ([.ref (ad 0)] : List Value).toArray s = true := fun cq h => atoms_spec (ws := qX11_erase) B.pre cq (List.mem_cons_of_mem _ h)
  have hown : s.vm.findClass RX11 = some m.cls := findClass_of_methodNamed B.named
  have hD := hD0.self (sz := s.heap.size)
  generalize hAe : va_A (mw cy ad σ T) s.heap.size = A at hD ⊢
  have hA : ∀ q : Nat, s.heap.size ≤ q → A q := fun q h => by rw [← hAe]; exact Or.inr h
  have hS : va_S A s.heap s.heap [] := va_S.rf
  have hl := lv_entry ([.ref (ad 0)]) (n := 2) (Nat.le_of_ble_eq_true rfl)
  rw [lg_entry_eq]
  generalize (lg_sl ([.ref (ad 0)]) ++ List.replicate (2 - (lg_sl ([.ref (ad 0)])).length) Slot.unset).toArray = ls at hl ⊢
  have hl : lv_has ls 2 [(0, .ref (ad 0))] := hl
  refine lv_aload_n hx hb dX11_erase_0 rfl (lv_at hl 0 rfl) ?_
  refine va_get (D := D) (ci := 10) (v := .int (nI (s_ln σ))) (C := RX11) (T := TX11) (N := 31) hx hb hts ni11 hown hK hP 0 (mw_c0 cy ad σ T) rfl 4 (by decide) (hts _ flX11_58) (fun _ h => h) rfl dX11_erase_1 ?_
  refine lv_istore_n (lv' := [(1, .int (nI (s_ln σ))), (0, .ref (ad 0))]) hx hb dX11_erase_4 rfl hl (by decide) rfl (fun ls hl => ?_)
  refine lv_aload_n hx hb dX11_erase_5 rfl (lv_at hl 1 rfl) ?_
  refine lv_iconst (v := nI 0) hx hb dX11_erase_6 (by decide) ?_
  refine ln_put (ci := 10) (C := RX11) (T := TX11) (N := 31) (ty := .int) (v := .int (nI (0))) hx hb hts ni11 tyX11 tyX11_ok nmX11 hown hK hP hD hS 0 (mw_c0 cy ad σ T) rfl 4 (by decide) (hts _ flX11_58) (fun _ h => h) rfl (by decide +kernel) rfl rfl (Nat.le_of_ble_eq_true rfl) (mp_0_4 cy ad σ T 0) dX11_erase_7 (fun H locs hP hD hS => ?_)
  refine lv_iload_n hx hb dX11_erase_10 rfl (lv_at hl 0 rfl) ?_
  exact rw_i hx hb hr hlocks hS T (rfl) hP dX11_erase_11
set_option maxHeartbeats 4000000 in
set_option maxRecDepth 100000 in
theorem k_X11_burn (l : Launch) (D : va_G) (cy : Nat → ClassId) (ad : Nat → Nat) (σ : Sg) (T : Ms)   : MW l yX11_burn qX11_burn 0 [.ref (ad 0)] D cy (mw cy ad σ T) (fun (r : Int32) (_ : Ms) => r = nI (s_rn σ)) (fun u : Ms => mw cy ad (n_burn σ) u) := by
  intro sz
  refine Met.ofW (cc := cX11_burn) (maxL := 2) (ret := (some .int)) (by decide) rfl ?_
  intro p e s m args below meth c s₁ B hml hv
  obtain ⟨rfl, rfl, hP, hK, hN, hD0⟩ := hv
  have hx := B.exec
  have hb := B.bytes
  have hr := B.returns
  have hlocks := B.notSynchronized
  have hts : ∀ cq ∈ tg, cq.before ([.ref (ad 0)] : List Value).toArray s = true := fun cq h => atoms_spec (ws := qX11_burn) B.pre cq (List.mem_cons_of_mem _ h)
  have hown : s.vm.findClass RX11 = some m.cls := findClass_of_methodNamed B.named
  have hD := hD0.self (sz := s.heap.size)
  generalize hAe : va_A (mw cy ad σ T) s.heap.size = A at hD ⊢
  have hA : ∀ q : Nat, s.heap.size ≤ q → A q := fun q h => by rw [← hAe]; exact Or.inr h
  have hS : va_S A s.heap s.heap [] := va_S.rf
  have hl := lv_entry ([.ref (ad 0)]) (n := 2) (Nat.le_of_ble_eq_true rfl)
  rw [lg_entry_eq]
  generalize (lg_sl ([.ref (ad 0)]) ++ List.replicate (2 - (lg_sl ([.ref (ad 0)])).length) Slot.unset).toArray = ls at hl ⊢
  have hl : lv_has ls 2 [(0, .ref (ad 0))] := hl
  refine lv_aload_n hx hb dX11_burn_0 rfl (lv_at hl 0 rfl) ?_
  refine va_get (D := D) (ci := 10) (v := .int (nI (s_rn σ))) (C := RX11) (T := TX11) (N := 31) hx hb hts ni11 hown hK hP 0 (mw_c0 cy ad σ T) rfl 24 (by decide) (hts _ flX11_170) (fun _ h => h) rfl dX11_burn_1 ?_
  refine lv_istore_n (lv' := [(1, .int (nI (s_rn σ))), (0, .ref (ad 0))]) hx hb dX11_burn_4 rfl hl (by decide) rfl (fun ls hl => ?_)
  refine lv_aload_n hx hb dX11_burn_5 rfl (lv_at hl 1 rfl) ?_
  refine lv_iconst (v := nI 0) hx hb dX11_burn_6 (by decide) ?_
  refine ln_put (ci := 10) (C := RX11) (T := TX11) (N := 31) (ty := .int) (v := .int (nI (0))) hx hb hts ni11 tyX11 tyX11_ok nmX11 hown hK hP hD hS 0 (mw_c0 cy ad σ T) rfl 24 (by decide) (hts _ flX11_170) (fun _ h => h) rfl (by decide +kernel) rfl rfl (Nat.le_of_ble_eq_true rfl) (mp_0_24 cy ad σ T 0) dX11_burn_7 (fun H locs hP hD hS => ?_)
  refine lv_iload_n hx hb dX11_burn_10 rfl (lv_at hl 0 rfl) ?_
  exact rw_i hx hb hr hlocks hS T (rfl) hP dX11_burn_11
set_option maxHeartbeats 4000000 in
set_option maxRecDepth 100000 in
theorem k_X11_noon (l : Launch) (D : va_G) (cy : Nat → ClassId) (ad : Nat → Nat) (σ : Sg) (T : Ms)   : MW l yX11_noon qX11_noon 0 [.ref (ad 0)] D cy (mw cy ad σ T) (fun (r : Int32) (_ : Ms) => r = bI (!s_la σ)) (fun u : Ms => mw cy ad (n_noon σ) u) := by
  intro sz
  refine Met.ofW (cc := cX11_noon) (maxL := 1) (ret := (some .int)) (by decide) rfl ?_
  intro p e s m args below meth c s₁ B hml hv
  obtain ⟨rfl, rfl, hP, hK, hN, hD0⟩ := hv
  have hx := B.exec
  have hb := B.bytes
  have hr := B.returns
  have hlocks := B.notSynchronized
  have hts : ∀ cq ∈ tg, cq.before ([.ref (ad 0)] : List Value).toArray s = true := fun cq h => atoms_spec (ws := qX11_noon) B.pre cq (List.mem_cons_of_mem _ h)
  have hown : s.vm.findClass RX11 = some m.cls := findClass_of_methodNamed B.named
  have hD := hD0.self (sz := s.heap.size)
  generalize hAe : va_A (mw cy ad σ T) s.heap.size = A at hD ⊢
  have hA : ∀ q : Nat, s.heap.size ≤ q → A q := fun q h => by rw [← hAe]; exact Or.inr h
  have hS : va_S A s.heap s.heap [] := va_S.rf
  have hl := lv_entry ([.ref (ad 0)]) (n := 1) (Nat.le_of_ble_eq_true rfl)
  rw [lg_entry_eq]
  generalize (lg_sl ([.ref (ad 0)]) ++ List.replicate (1 - (lg_sl ([.ref (ad 0)])).length) Slot.unset).toArray = ls at hl ⊢
  have hl : lv_has ls 1 [(0, .ref (ad 0))] := hl
  refine lv_aload_n hx hb dX11_noon_0 rfl (lv_at hl 0 rfl) ?_
  refine lv_iconst (v := nI 1) hx hb dX11_noon_1 (by decide) ?_
  refine lv_aload_n hx hb dX11_noon_2 rfl (lv_at hl 0 rfl) ?_
  refine va_get (D := D) (ci := 10) (v := .int (bI (s_la σ))) (C := RX11) (T := TX11) (N := 31) hx hb hts ni11 hown hK hP 0 (mw_c0 cy ad σ T) rfl 20 (by decide) (hts _ flX11_164) (fun _ h => h) rfl dX11_noon_3 ?_
  refine lv_isub hx hb dX11_noon_6 ?_
  refine ln_eq (show ((nI (1)) - (bI (s_la σ))) = (bI (!(s_la σ))) from sub1_b _) ?_
  refine ln_put (ci := 10) (C := RX11) (T := TX11) (N := 31) (ty := .int) (v := .int (bI (!(s_la σ)))) hx hb hts ni11 tyX11 tyX11_ok nmX11 hown hK hP hD hS 0 (mw_c0 cy ad σ T) rfl 20 (by decide) (hts _ flX11_164) (fun _ h => h) rfl (by decide +kernel) rfl rfl (Nat.le_of_ble_eq_true rfl) (mp_0_20 cy ad σ T (!(s_la σ))) dX11_noon_7 (fun H locs hP hD hS => ?_)
  refine lv_aload_n hx hb dX11_noon_10 rfl (lv_at hl 0 rfl) ?_
  refine va_get (D := D) (ci := 10) (v := .int (bI ((!(s_la σ))))) (C := RX11) (T := TX11) (N := 31) hx hb hts ni11 hown hK hP 0 (mw_c0 cy ad (su_la σ (!(s_la σ))) T) rfl 20 (by decide) (hts _ flX11_164) (fun _ h => h) rfl dX11_noon_11 ?_
  exact rw_i hx hb hr hlocks hS T (rfl) hP dX11_noon_14
set_option maxHeartbeats 4000000 in
set_option maxRecDepth 100000 in
theorem k_X11_write (l : Launch) (D : va_G) (cy : Nat → ClassId) (ad : Nat → Nat) (σ : Sg) (T : Ms) (b : Int64) (n : Int32) (hw : wfS σ) : MW l yX11_write qX11_write 1 [.ref (ad 0), .long (b), .int (n)] D cy (mw cy ad σ T) (fun (r : Int32) (_ : Ms) => r = a_write σ n) (fun u : Ms => mw cy ad (n_write σ b n) u) := by
  intro sz
  refine Met.ofW (cc := cX11_write) (maxL := 5) (ret := (some .int)) (by decide) rfl ?_
  intro p e s m args below meth c s₁ B hml hv
  obtain ⟨rfl, rfl, hP, hK, hN, hD0⟩ := hv
  have hx := B.exec
  have hb := B.bytes
  have hr := B.returns
  have hlocks := B.notSynchronized
  have hts : ∀ cq ∈ tg, cq.before ([.ref (ad 0), .long (b), .int (n)] : List Value).toArray s = true := fun cq h => atoms_spec (ws := qX11_write) B.pre cq (List.mem_cons_of_mem _ h)
  have hown : s.vm.findClass RX11 = some m.cls := findClass_of_methodNamed B.named
  have hD := hD0.self (sz := s.heap.size)
  generalize hAe : va_A (mw cy ad σ T) s.heap.size = A at hD ⊢
  have hA : ∀ q : Nat, s.heap.size ≤ q → A q := fun q h => by rw [← hAe]; exact Or.inr h
  have hS : va_S A s.heap s.heap [] := va_S.rf
  have hl := lv_entry ([.ref (ad 0), .long (b), .int (n)]) (n := 5) (Nat.le_of_ble_eq_true rfl)
  rw [lg_entry_eq]
  generalize (lg_sl ([.ref (ad 0), .long (b), .int (n)]) ++ List.replicate (5 - (lg_sl ([.ref (ad 0), .long (b), .int (n)])).length) Slot.unset).toArray = ls at hl ⊢
  have hl : lv_has ls 5 [(0, .ref (ad 0)), (1, .long (b)), (3, .int (n))] := hl
  have hw1 := hw.1
  have hln := hw.2.2.2.2.1
  refine lv_iload_n hx hb dX11_write_0 rfl (lv_at hl 2 rfl) ?_
  refine lv_iconst (v := nI 1) hx hb dX11_write_1 (by decide) ?_
  refine lv_bipush (v := nI 8) hx hb dX11_write_2 (by decide) ?_
  refine cr_s (n := 3) (As := [.int (n), .int (nI (1)), .int (nI (8))]) (rest := []) ⟨hx, hb, hml, hown, hts⟩ (k_X11_in l (n) (nI (1)) (nI (8))) gsX11_51 (by decide +kernel) ⟨Nat.le_of_ble_eq_true rfl, Nat.le_of_ble_eq_true rfl⟩ rfl hl.1 rfl (Nat.le_of_ble_eq_true rfl) dX11_write_4 ⟨Nat.zero_le _, Nat.zero_le _⟩ ?_
  refine lb_if_ne (tgt := 13) hx hb dX11_write_7 (by decide) (fun c7 => ?_) (fun c7 => ?_)
  · obtain ⟨k0, hk1, hk2, rfl⟩ := okN_of c7
    have hl : lv_has ls 5 [(0, .ref (ad 0)), (1, .long (b)), (3, .int (nI (k0)))] := hl
    refine lv_aload_n hx hb dX11_write_13 rfl (lv_at hl 0 rfl) ?_
    refine va_get (D := D) (ci := 10) (v := .int (nI (s_ln σ))) (C := RX11) (T := TX11) (N := 31) hx hb hts ni11 hown hK hP 0 (mw_c0 cy ad σ T) rfl 4 (by decide) (hts _ flX11_58) (fun _ h => h) rfl dX11_write_14 ?_
    refine lv_iload_n hx hb dX11_write_17 rfl (lv_at hl 2 rfl) ?_
    refine ln_iadd hx hb dX11_write_18 ?_
    refine lv_sipush (v := nI 200) hx hb dX11_write_19 (by decide) ?_
    refine ln_icmp_le (tgt := 28) hx hb dX11_write_22 (by decide) (by omega) (by omega) (fun c22 => ?_) (fun c22 => ?_)
    · refine lv_iconst (v := nI 0) hx hb dX11_write_28 (by decide) ?_
      refine lv_istore (lv' := [(4, .int (nI (0))), (0, .ref (ad 0)), (1, .long (b)), (3, .int (nI (k0)))]) hx hb dX11_write_29 hl (by decide) rfl (fun ls hl => ?_)
      have loop : ∀ (k i : Nat) (ls : Array Slot) (H : Heap) (locs : List Loc), i + k = k0 → va_P D vwCl (mw cy ad (su_tx σ (txW (s_tx σ) (s_ln σ) b i)) T) H → va_D A (mw cy ad (su_tx σ (txW (s_tx σ) (s_ln σ) b i)) T) → va_S A s.heap H locs → lv_has ls 5 [(4, .int (nI (i))), (0, .ref (ad 0)), (1, .long (b)), (3, .int (nI (k0)))] → W p l e (headSpec qX11_write (rq 1)).room s m ([.ref (ad 0), .long (b), .int (nI (k0))] : List Value).toArray below meth c H locs 0 0 (MQ below (va_Qi (fun (r : Int32) (_ : Ms) => r = a_write σ (nI k0)) (fun u t => va_P D vwCl ((fun u : Ms => mw cy ad (n_write σ b (nI k0)) u) u) t.heap) A) ([.ref (ad 0), .long (b), .int (nI (k0))] : List Value).toArray s 0 0 A) (F0 m 31 ls []) := by
        intro k
        induction k with
        | zero =>
          intro i ls H locs hi hP hD hS hl
          refine lv_iload hx hb dX11_write_31 (lv_at hl 0 rfl) ?_
          refine lv_iload_n hx hb dX11_write_33 rfl (lv_at hl 3 rfl) ?_
          refine ln_icmp_ge (tgt := 67) hx hb dX11_write_34 (by decide) (by omega) (by omega) (fun c34 => ?_) (fun c34 => ?_)
          · refine lv_aload_n hx hb dX11_write_67 rfl (lv_at hl 1 rfl) ?_
            refine lv_dup hx hb dX11_write_68 rfl ?_
            refine va_get (D := D) (ci := 10) (v := .int (nI (s_ln σ))) (C := RX11) (T := TX11) (N := 31) hx hb hts ni11 hown hK hP 0 (mw_c0 cy ad (su_tx σ (txW (s_tx σ) (s_ln σ) b i)) T) rfl 4 (by decide) (hts _ flX11_58) (fun _ h => h) rfl dX11_write_69 ?_
            refine lv_iload_n hx hb dX11_write_72 rfl (lv_at hl 3 rfl) ?_
            refine ln_iadd hx hb dX11_write_73 ?_
            refine ln_put (ci := 10) (C := RX11) (T := TX11) (N := 31) (ty := .int) (v := .int (nI ((s_ln σ) + k0))) hx hb hts ni11 tyX11 tyX11_ok nmX11 hown hK hP hD hS 0 (mw_c0 cy ad (su_tx σ (txW (s_tx σ) (s_ln σ) b i)) T) rfl 4 (by decide) (hts _ flX11_58) (fun _ h => h) rfl (by decide +kernel) rfl rfl (Nat.le_of_ble_eq_true rfl) (mp_0_4 cy ad (su_tx σ (txW (s_tx σ) (s_ln σ) b i)) T ((s_ln σ) + k0)) dX11_write_74 (fun H locs hP hD hS => ?_)
            refine lv_aload_n hx hb dX11_write_77 rfl (lv_at hl 1 rfl) ?_
            refine va_get (D := D) (ci := 10) (v := .int (nI (((s_ln σ) + k0)))) (C := RX11) (T := TX11) (N := 31) hx hb hts ni11 hown hK hP 0 (mw_c0 cy ad (su_ln (su_tx σ (txW (s_tx σ) (s_ln σ) b i)) ((s_ln σ) + k0)) T) rfl 4 (by decide) (hts _ flX11_58) (fun _ h => h) rfl dX11_write_78 ?_
            exact rw_i hx hb hr hlocks hS T (by rw [a_write, show okN (nI k0) = true from c7, tk_nI (k := k0) (by omega), if_neg (by decide), if_neg (by omega)]) (by show va_P D vwCl (mw cy ad (n_write σ b (nI k0)) T) _; rw [n_write, tk_nI (k := k0) (by omega), if_pos ⟨c7, by omega⟩]; rw [show i = k0 by omega] at hP; exact hP) dX11_write_81
          · exact absurd c34 (by omega)
        | succ k ih =>
          intro i ls H locs hi hP hD hS hl
          refine lv_iload hx hb dX11_write_31 (lv_at hl 0 rfl) ?_
          refine lv_iload_n hx hb dX11_write_33 rfl (lv_at hl 3 rfl) ?_
          refine ln_icmp_ge (tgt := 67) hx hb dX11_write_34 (by decide) (by omega) (by omega) (fun c34 => ?_) (fun c34 => ?_)
          · exact absurd c34 (by omega)
          · refine lv_aload_n hx hb dX11_write_37 rfl (lv_at hl 1 rfl) ?_
            refine va_get (D := D) (ci := 10) (v := .ref (ad 3)) (C := RX11) (T := TX11) (N := 31) hx hb hts ni11 hown hK hP 0 (mw_c0 cy ad (su_tx σ (txW (s_tx σ) (s_ln σ) b i)) T) rfl 5 (by decide) (hts _ flX11_16) (fun _ h => h) rfl dX11_write_38 ?_
            refine lv_aload_n hx hb dX11_write_41 rfl (lv_at hl 1 rfl) ?_
            refine va_get (D := D) (ci := 10) (v := .int (nI (s_ln σ))) (C := RX11) (T := TX11) (N := 31) hx hb hts ni11 hown hK hP 0 (mw_c0 cy ad (su_tx σ (txW (s_tx σ) (s_ln σ) b i)) T) rfl 4 (by decide) (hts _ flX11_58) (fun _ h => h) rfl dX11_write_42 ?_
            refine lv_iload hx hb dX11_write_45 (lv_at hl 0 rfl) ?_
            refine ln_iadd hx hb dX11_write_47 ?_
            refine lv_lload_n hx hb dX11_write_48 rfl (lv_at hl 2 rfl) ?_
            refine lv_bipush (v := nI 8) hx hb dX11_write_49 (by decide) ?_
            refine lv_iload hx hb dX11_write_51 (lv_at hl 0 rfl) ?_
            refine ln_imul hx hb dX11_write_53 ?_
            refine lv_lshr (v := b >>> ((nI (8 * i)).toInt64 &&& 63)) hx hb dX11_write_54 rfl ?_
            refine lv_ldc2 (v := 255) hx hb hown (hts _ cnX11_61) dX11_write_55 ?_
            refine lv_land hx hb dX11_write_58 ?_
            refine lv_l2i (v := ((b >>> ((nI (8 * i)).toInt64 &&& 63)) &&& 255).toInt32) hx hb dX11_write_59 rfl ?_
            refine ln_eq (show (((b >>> ((nI (8 * i)).toInt64 &&& 63)) &&& 255).toInt32) = (nI (byteN b i)) from byte_nI _) ?_
            refine ln_iast hx hb hK hP hD hS 3 (mw_c3 cy ad (su_tx σ (txW (s_tx σ) (s_ln σ) b i)) T) (by omega) (by decide) ((mp_3 cy ad (su_tx σ (txW (s_tx σ) (s_ln σ) b i)) T ((s_ln σ) + i) (byteN b i)).trans (congrArg (fun z => mw cy ad z T) (by rw [sc_tx]))) dX11_write_60 (fun H locs hP hD hS => ?_)
            refine ln_iinc (lv' := [(4, .int (nI (i + 1))), (0, .ref (ad 0)), (1, .long (b)), (3, .int (nI (k0)))]) hx hb dX11_write_61 hl (k := 0) (n := 1) rfl (by decide) rfl (fun ls hl => ?_)
            refine lv_goto (tgt := 31) hx hb dX11_write_64 (by decide) ?_
            have hP : va_P D vwCl (mw cy ad (su_tx σ (txW (s_tx σ) (s_ln σ) b (i + 1))) T) H := by rw [← txW_s]; exact hP
            have hD : va_D A (mw cy ad (su_tx σ (txW (s_tx σ) (s_ln σ) b (i + 1))) T) := by rw [← txW_s]; exact hD
            exact ih (i + 1) ls _ _ (by omega) hP hD hS (lv_sub hl [0, 1, 2, 3] rfl)
      exact loop (k0 - 0) 0 ls _ _ (by omega) (by rw [txW_0]; exact hP) (by rw [txW_0]; exact hD) hS (lv_sub hl [0, 1, 2, 3] rfl)
    · refine lv_bipush (v := -5) hx hb dX11_write_25 (by decide) ?_
      exact rw_i hx hb hr hlocks hS T (by rw [a_write, show okN (nI k0) = true from c7, tk_nI (k := k0) (by omega), if_neg (by decide), if_pos (by omega)]) (by show va_P D vwCl (mw cy ad (n_write σ b (nI k0)) T) _; rw [n_write, tk_nI (k := k0) (by omega), if_neg (by omega)]; exact hP) dX11_write_27
  · refine lv_bipush (v := -3) hx hb dX11_write_10 (by decide) ?_
    exact rw_i hx hb hr hlocks hS T (by rw [a_write, show okN n = false from c7]; rfl) (by show va_P D vwCl (mw cy ad (n_write σ b n) T) _; rw [n_write, if_neg (by rintro ⟨q, -⟩; rw [show okN n = false from c7] at q; cases q)]; exact hP) dX11_write_12
