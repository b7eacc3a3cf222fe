set_option maxHeartbeats 4000000 in
set_option maxRecDepth 100000 in
theorem k_X11_right (l : Launch) (D : va_G) (cy : Nat → ClassId) (ad : Nat → Nat) (σ : Sg) (T : Ms) (f x : Int32) (hw : wfS σ) : MR l yX11_right qX11_right 4 [.ref (ad 0), .int (f), .int (x)] D cy (mw cy ad σ T) (a_right σ f x) := by
  refine Met.ofW (cc := cX11_right) (maxL := 3) (ret := (some .int)) (by decide) rfl ?_
  intro p e s m args below meth c s₁ B hml hv
  obtain ⟨rfl, hP, hK, hN⟩ := hv
  have hx := B.exec
  have hb := B.bytes
  have hr := B.returns
  have hlocks := B.notSynchronized
  have hts : ∀ cq ∈ tg, cq.before ([.ref (ad 0), .int (f), .int (x)] : List Value).toArray s = true := fun cq h => atoms_spec (ws := qX11_right) B.pre cq (List.mem_cons_of_mem _ h)
  have hown : s.vm.findClass RX11 = some m.cls := findClass_of_methodNamed B.named
  have hl := lv_entry ([.ref (ad 0), .int (f), .int (x)]) (n := 3) (Nat.le_of_ble_eq_true rfl)
  rw [lg_entry_eq]
  generalize (lg_sl ([.ref (ad 0), .int (f), .int (x)]) ++ List.replicate (3 - (lg_sl ([.ref (ad 0), .int (f), .int (x)])).length) Slot.unset).toArray = ls at hl ⊢
  have hl : lv_has ls 3 [(0, .ref (ad 0)), (1, .int (f)), (2, .int (x))] := hl
  have hw1 := hw.1
  have hw2 := hw.2.1
  have hp8 := pw_8 hw1
  have hov := ov_lt hw
  have hmo := mo_lt hw
  have hof := of_lt hw
  refine lv_aload_n hx hb dX11_right_0 rfl (lv_at hl 0 rfl) ?_
  refine lv_iload_n hx hb dX11_right_1 rfl (lv_at hl 1 rfl) ?_
  refine cr_v (n := 1) (As := [.int (f)]) (rest := []) ⟨hx, hb, hml, hown, hts⟩ (k_X11_isFerry l D cy ad σ T (f) hw) gvX11_184 (by decide +kernel) ⟨Nat.le_of_ble_eq_true rfl, Nat.le_of_ble_eq_true rfl⟩ hK hN hP 0 (mw_c0 cy ad σ T) rfl rfl hl.1 rfl (Nat.le_of_ble_eq_true rfl) dX11_right_2 ⟨Nat.zero_le _, Nat.zero_le _⟩ ?_
  refine lb_if_eq (tgt := 16) hx hb dX11_right_5 (by decide) (fun c5 => ?_) (fun c5 => ?_)
  · refine lv_bipush (v := -2) hx hb dX11_right_16 (by decide) ?_
    exact rt_i hx hb hr hlocks (by first | (rw [a_right, c5]; rfl; done) | (rw [a_right, c5, c13]; rfl; done) | (rw [a_right, c5, c13, tk_nI (k := f0) (by omega), tk_nI (k := x0) (by omega), riN, c37]; rfl)) dX11_right_18
  · refine lv_aload_n hx hb dX11_right_8 rfl (lv_at hl 0 rfl) ?_
    refine lv_iload_n hx hb dX11_right_9 rfl (lv_at hl 2 rfl) ?_
    refine cr_v (n := 1) (As := [.int (x)]) (rest := []) ⟨hx, hb, hml, hown, hts⟩ (k_X11_isSet l D cy ad σ T (x) hw) gvX11_204 (by decide +kernel) ⟨Nat.le_of_ble_eq_true rfl, Nat.le_of_ble_eq_true rfl⟩ hK hN hP 0 (mw_c0 cy ad σ T) rfl rfl hl.1 rfl (Nat.le_of_ble_eq_true rfl) dX11_right_10 ⟨Nat.zero_le _, Nat.zero_le _⟩ ?_
    refine lb_if_ne (tgt := 19) hx hb dX11_right_13 (by decide) (fun c13 => ?_) (fun c13 => ?_)
    · obtain ⟨f0, hf, rfl⟩ := ix_of c5 (by omega)
      have hl : lv_has ls 3 [(0, .ref (ad 0)), (1, .int (nI (f0))), (2, .int (x))] := hl
      obtain ⟨x0, hx0, rfl⟩ := ix_of c13 (by omega)
      have hl : lv_has ls 3 [(0, .ref (ad 0)), (1, .int (nI (f0))), (2, .int (nI (x0)))] := hl
      refine lv_aload_n hx hb dX11_right_19 rfl (lv_at hl 0 rfl) ?_
      refine lv_iload_n hx hb dX11_right_20 rfl (lv_at hl 1 rfl) ?_
      refine lv_iload_n hx hb dX11_right_21 rfl (lv_at hl 2 rfl) ?_
      refine lv_aload_n hx hb dX11_right_22 rfl (lv_at hl 0 rfl) ?_
      refine va_get (D := D) (ci := 10) (v := .int (nI (s_ov σ))) (C := RX11) (T := TX11) (N := 31) hx hb hts ni11 hown hK hP 0 (mw_c0 cy ad σ T) rfl 17 (by decide) (hts _ flX11_155) (fun _ h => h) rfl dX11_right_23 ?_
      refine lv_aload_n hx hb dX11_right_26 rfl (lv_at hl 0 rfl) ?_
      refine va_get (D := D) (ci := 10) (v := .int (nI (s_mo σ))) (C := RX11) (T := TX11) (N := 31) hx hb hts ni11 hown hK hP 0 (mw_c0 cy ad σ T) rfl 18 (by decide) (hts _ flX11_158) (fun _ h => h) rfl dX11_right_27 ?_
      refine lv_aload_n hx hb dX11_right_30 rfl (lv_at hl 0 rfl) ?_
      refine va_get (D := D) (ci := 10) (v := .int (nI (s_of σ))) (C := RX11) (T := TX11) (N := 31) hx hb hts ni11 hown hK hP 0 (mw_c0 cy ad σ T) rfl 19 (by decide) (hts _ flX11_161) (fun _ h => h) rfl dX11_right_31 ?_
      refine cr_v (n := 5) (As := [.int (nI (f0)), .int (nI (x0)), .int (nI (s_ov σ)), .int (nI (s_mo σ)), .int (nI (s_of σ))]) (rest := []) ⟨hx, hb, hml, hown, hts⟩ (k_X11_isRight l D cy ad σ T f0 x0 (s_ov σ) (s_mo σ) (s_of σ) hw (by omega) (by omega) (by omega) (by omega) (by omega)) gvX11_207 (by decide +kernel) ⟨Nat.le_of_ble_eq_true rfl, Nat.le_of_ble_eq_true rfl⟩ hK hN hP 0 (mw_c0 cy ad σ T) rfl rfl hl.1 rfl (Nat.le_of_ble_eq_true rfl) dX11_right_34 ⟨Nat.zero_le _, Nat.zero_le _⟩ ?_
      refine lb_if_eq (tgt := 44) hx hb dX11_right_37 (by decide) (fun c37 => ?_) (fun c37 => ?_)
      · refine lv_iconst (v := nI 0) hx hb dX11_right_44 (by decide) ?_
        exact rt_i hx hb hr hlocks (by first | (rw [a_right, c5]; rfl; done) | (rw [a_right, c5, c13]; rfl; done) | (rw [a_right, c5, c13, tk_nI (k := f0) (by omega), tk_nI (k := x0) (by omega), riN, c37]; rfl)) dX11_right_45
      · refine lv_iconst (v := nI 1) hx hb dX11_right_40 (by decide) ?_
        refine lv_goto (tgt := 45) hx hb dX11_right_41 (by decide) ?_
        exact rt_i hx hb hr hlocks (by first | (rw [a_right, c5]; rfl; done) | (rw [a_right, c5, c13]; rfl; done) | (rw [a_right, c5, c13, tk_nI (k := f0) (by omega), tk_nI (k := x0) (by omega), riN, c37]; rfl)) dX11_right_45
    · refine lv_bipush (v := -2) hx hb dX11_right_16 (by decide) ?_
      exact rt_i hx hb hr hlocks (by first | (rw [a_right, c5]; rfl; done) | (rw [a_right, c5, c13]; rfl; done) | (rw [a_right, c5, c13, tk_nI (k := f0) (by omega), tk_nI (k := x0) (by omega), riN, c37]; rfl)) dX11_right_18
set_option maxHeartbeats 4000000 in
set_option maxRecDepth 100000 in
theorem k_X11_cross (l : Launch) (D : va_G) (cy : Nat → ClassId) (ad : Nat → Nat) (σ : Sg) (T : Ms) (f x : Int32) (hw : wfS σ) : MW l yX11_cross qX11_cross 4 [.ref (ad 0), .int (f), .int (x)] D cy (mw cy ad σ T) (fun (r : Int32) (_ : Ms) => r = a_cross σ f x) (fun u : Ms => mw cy ad (n_cross σ f x) u) := by
  intro sz
  refine Met.ofW (cc := cX11_cross) (maxL := 3) (ret := (some .int)) (by decide) rfl ?_
  intro p e s m args below meth c s₁ B hml hv
  obtain ⟨rfl, rfl, hP, hK, hN, hD0⟩ := hv
  have hx := B.exec
  have hb := B.bytes
  have hr := B.returns
  have hlocks := B.notSynchronized
  have hts : ∀ cq ∈ tg, cq.before ([.ref (ad 0), .int (f), .int (x)] : List Value).toArray s = true := fun cq h => atoms_spec (ws := qX11_cross) B.pre cq (List.mem_cons_of_mem _ h)
  have hown : s.vm.findClass RX11 = some m.cls := findClass_of_methodNamed B.named
  have hD := hD0.self (sz := s.heap.size)
  generalize hAe : va_A (mw cy ad σ T) s.heap.size = A at hD ⊢
  have hA : ∀ q : Nat, s.heap.size ≤ q → A q := fun q h => by rw [← hAe]; exact Or.inr h
  have hS : va_S A s.heap s.heap [] := va_S.rf
  have hl := lv_entry ([.ref (ad 0), .int (f), .int (x)]) (n := 3) (Nat.le_of_ble_eq_true rfl)
  rw [lg_entry_eq]
  generalize (lg_sl ([.ref (ad 0), .int (f), .int (x)]) ++ List.replicate (3 - (lg_sl ([.ref (ad 0), .int (f), .int (x)])).length) Slot.unset).toArray = ls at hl ⊢
  have hl : lv_has ls 3 [(0, .ref (ad 0)), (1, .int (f)), (2, .int (x))] := hl
  have hw1 := hw.1
  have hw2 := hw.2.1
  have hp8 := pw_8 hw1
  have hov := ov_lt hw
  have hmo := mo_lt hw
  have hof := of_lt hw
  refine lv_aload_n hx hb dX11_cross_0 rfl (lv_at hl 0 rfl) ?_
  refine lv_iload_n hx hb dX11_cross_1 rfl (lv_at hl 1 rfl) ?_
  refine cr_v (n := 1) (As := [.int (f)]) (rest := []) ⟨hx, hb, hml, hown, hts⟩ (k_X11_isFerry l D cy ad σ T (f) hw) gvX11_184 (by decide +kernel) ⟨Nat.le_of_ble_eq_true rfl, Nat.le_of_ble_eq_true rfl⟩ hK hN hP 0 (mw_c0 cy ad σ T) rfl rfl hl.1 rfl (Nat.le_of_ble_eq_true rfl) dX11_cross_2 ⟨Nat.zero_le _, Nat.zero_le _⟩ ?_
  refine lb_if_eq (tgt := 16) hx hb dX11_cross_5 (by decide) (fun c5 => ?_) (fun c5 => ?_)
  · refine lv_bipush (v := -2) hx hb dX11_cross_16 (by decide) ?_
    exact rw_i hx hb hr hlocks hS T (by first | (rw [a_cross, c5]; rfl; done) | (rw [a_cross, c5, c13]; rfl)) (by show va_P D vwCl (mw cy ad (n_cross σ f x) T) _; rw [n_cross, if_neg (by first | (rintro ⟨q, -, -⟩; rw [c5] at q; cases q; done) | (rintro ⟨-, q, -⟩; rw [c13] at q; cases q))]; exact hP) dX11_cross_18
  · refine lv_aload_n hx hb dX11_cross_8 rfl (lv_at hl 0 rfl) ?_
    refine lv_iload_n hx hb dX11_cross_9 rfl (lv_at hl 2 rfl) ?_
    refine cr_v (n := 1) (As := [.int (x)]) (rest := []) ⟨hx, hb, hml, hown, hts⟩ (k_X11_isSet l D cy ad σ T (x) hw) gvX11_204 (by decide +kernel) ⟨Nat.le_of_ble_eq_true rfl, Nat.le_of_ble_eq_true rfl⟩ hK hN hP 0 (mw_c0 cy ad σ T) rfl rfl hl.1 rfl (Nat.le_of_ble_eq_true rfl) dX11_cross_10 ⟨Nat.zero_le _, Nat.zero_le _⟩ ?_
    refine lb_if_ne (tgt := 19) hx hb dX11_cross_13 (by decide) (fun c13 => ?_) (fun c13 => ?_)
    · obtain ⟨f0, hf, rfl⟩ := ix_of c5 (by omega)
      have hl : lv_has ls 3 [(0, .ref (ad 0)), (1, .int (nI (f0))), (2, .int (x))] := hl
      obtain ⟨x0, hx0, rfl⟩ := ix_of c13 (by omega)
      have hl : lv_has ls 3 [(0, .ref (ad 0)), (1, .int (nI (f0))), (2, .int (nI (x0)))] := hl
      have hpf := pw_lt8 (k := f0) (by omega)
      refine lv_aload_n hx hb dX11_cross_19 rfl (lv_at hl 0 rfl) ?_
      refine lv_iload_n hx hb dX11_cross_20 rfl (lv_at hl 1 rfl) ?_
      refine lv_iload_n hx hb dX11_cross_21 rfl (lv_at hl 2 rfl) ?_
      refine lv_aload_n hx hb dX11_cross_22 rfl (lv_at hl 0 rfl) ?_
      refine va_get (D := D) (ci := 10) (v := .int (nI (s_ov σ))) (C := RX11) (T := TX11) (N := 31) hx hb hts ni11 hown hK hP 0 (mw_c0 cy ad σ T) rfl 17 (by decide) (hts _ flX11_155) (fun _ h => h) rfl dX11_cross_23 ?_
      refine lv_aload_n hx hb dX11_cross_26 rfl (lv_at hl 0 rfl) ?_
      refine va_get (D := D) (ci := 10) (v := .int (nI (s_mo σ))) (C := RX11) (T := TX11) (N := 31) hx hb hts ni11 hown hK hP 0 (mw_c0 cy ad σ T) rfl 18 (by decide) (hts _ flX11_158) (fun _ h => h) rfl dX11_cross_27 ?_
      refine lv_aload_n hx hb dX11_cross_30 rfl (lv_at hl 0 rfl) ?_
      refine va_get (D := D) (ci := 10) (v := .int (nI (s_of σ))) (C := RX11) (T := TX11) (N := 31) hx hb hts ni11 hown hK hP 0 (mw_c0 cy ad σ T) rfl 19 (by decide) (hts _ flX11_161) (fun _ h => h) rfl dX11_cross_31 ?_
      refine cr_v (n := 5) (As := [.int (nI (f0)), .int (nI (x0)), .int (nI (s_ov σ)), .int (nI (s_mo σ)), .int (nI (s_of σ))]) (rest := []) ⟨hx, hb, hml, hown, hts⟩ (k_X11_isRight l D cy ad σ T f0 x0 (s_ov σ) (s_mo σ) (s_of σ) hw (by omega) (by omega) (by omega) (by omega) (by omega)) gvX11_207 (by decide +kernel) ⟨Nat.le_of_ble_eq_true rfl, Nat.le_of_ble_eq_true rfl⟩ hK hN hP 0 (mw_c0 cy ad σ T) rfl rfl hl.1 rfl (Nat.le_of_ble_eq_true rfl) dX11_cross_34 ⟨Nat.zero_le _, Nat.zero_le _⟩ ?_
      refine lb_if_ne (tgt := 43) hx hb dX11_cross_37 (by decide) (fun c37 => ?_) (fun c37 => ?_)
      · refine lv_aload_n hx hb dX11_cross_43 rfl (lv_at hl 0 rfl) ?_
        refine lv_aload_n hx hb dX11_cross_44 rfl (lv_at hl 0 rfl) ?_
        refine va_get (D := D) (ci := 10) (v := .int (nI (s_ov σ))) (C := RX11) (T := TX11) (N := 31) hx hb hts ni11 hown hK hP 0 (mw_c0 cy ad σ T) rfl 17 (by decide) (hts _ flX11_155) (fun _ h => h) rfl dX11_cross_45 ?_
        refine lv_iload_n hx hb dX11_cross_48 rfl (lv_at hl 2 rfl) ?_
        refine ln_ixor hx hb dX11_cross_49 ?_
        refine ln_put (ci := 10) (C := RX11) (T := TX11) (N := 31) (ty := .int) (v := .int (nI ((s_ov σ) ^^^ x0))) hx hb hts ni11 tyX11 tyX11_ok nmX11 hown hK hP hD hS 0 (mw_c0 cy ad σ T) rfl 17 (by decide) (hts _ flX11_155) (fun _ h => h) rfl (by decide +kernel) rfl rfl (Nat.le_of_ble_eq_true rfl) (mp_0_17 cy ad σ T ((s_ov σ) ^^^ x0)) dX11_cross_50 (fun H locs hP hD hS => ?_)
        refine lv_aload_n hx hb dX11_cross_53 rfl (lv_at hl 0 rfl) ?_
        refine lv_aload_n hx hb dX11_cross_54 rfl (lv_at hl 0 rfl) ?_
        refine va_get (D := D) (ci := 10) (v := .int (nI (s_mo σ))) (C := RX11) (T := TX11) (N := 31) hx hb hts ni11 hown hK hP 0 (mw_c0 cy ad (su_ov σ ((s_ov σ) ^^^ x0)) T) rfl 18 (by decide) (hts _ flX11_158) (fun _ h => h) rfl dX11_cross_55 ?_
        refine lv_iconst (v := nI 1) hx hb dX11_cross_58 (by decide) ?_
        refine lv_iload_n hx hb dX11_cross_59 rfl (lv_at hl 1 rfl) ?_
        refine ln_ishl hx hb dX11_cross_60 (by omega) (by omega) ?_
        refine ln_nat (show 1 * 2 ^ f0 = 2 ^ f0 from Nat.one_mul _) ?_
        refine ln_ixor hx hb dX11_cross_61 ?_
        refine ln_put (ci := 10) (C := RX11) (T := TX11) (N := 31) (ty := .int) (v := .int (nI ((s_mo σ) ^^^ (2 ^ f0)))) hx hb hts ni11 tyX11 tyX11_ok nmX11 hown hK hP hD hS 0 (mw_c0 cy ad (su_ov σ ((s_ov σ) ^^^ x0)) T) rfl 18 (by decide) (hts _ flX11_158) (fun _ h => h) rfl (by decide +kernel) rfl rfl (Nat.le_of_ble_eq_true rfl) (mp_0_18 cy ad (su_ov σ ((s_ov σ) ^^^ x0)) T ((s_mo σ) ^^^ (2 ^ f0))) dX11_cross_62 (fun H locs hP hD hS => ?_)
        refine lv_aload_n hx hb dX11_cross_65 rfl (lv_at hl 0 rfl) ?_
        refine lv_dup hx hb dX11_cross_66 rfl ?_
        refine va_get (D := D) (ci := 10) (v := .int (nI (s_cr σ))) (C := RX11) (T := TX11) (N := 31) hx hb hts ni11 hown hK hP 0 (mw_c0 cy ad (su_mo (su_ov σ ((s_ov σ) ^^^ x0)) ((s_mo σ) ^^^ (2 ^ f0))) T) rfl 21 (by decide) (hts _ flX11_167) (fun _ h => h) rfl dX11_cross_67 ?_
        refine lv_iconst (v := nI 1) hx hb dX11_cross_70 (by decide) ?_
        refine ln_iadd hx hb dX11_cross_71 ?_
        refine ln_put (ci := 10) (C := RX11) (T := TX11) (N := 31) (ty := .int) (v := .int (nI ((s_cr σ) + 1))) hx hb hts ni11 tyX11 tyX11_ok nmX11 hown hK hP hD hS 0 (mw_c0 cy ad (su_mo (su_ov σ ((s_ov σ) ^^^ x0)) ((s_mo σ) ^^^ (2 ^ f0))) T) rfl 21 (by decide) (hts _ flX11_167) (fun _ h => h) rfl (by decide +kernel) rfl rfl (Nat.le_of_ble_eq_true rfl) (mp_0_21 cy ad (su_mo (su_ov σ ((s_ov σ) ^^^ x0)) ((s_mo σ) ^^^ (2 ^ f0))) T ((s_cr σ) + 1)) dX11_cross_72 (fun H locs hP hD hS => ?_)
        refine lv_aload_n hx hb dX11_cross_75 rfl (lv_at hl 0 rfl) ?_
        refine va_get (D := D) (ci := 10) (v := .int (nI (((s_cr σ) + 1)))) (C := RX11) (T := TX11) (N := 31) hx hb hts ni11 hown hK hP 0 (mw_c0 cy ad (su_cr (su_mo (su_ov σ ((s_ov σ) ^^^ x0)) ((s_mo σ) ^^^ (2 ^ f0))) ((s_cr σ) + 1)) T) rfl 21 (by decide) (hts _ flX11_167) (fun _ h => h) rfl dX11_cross_76 ?_
        exact rw_i hx hb hr hlocks hS T (by rw [a_cross, c5, c13, tk_nI (k := f0) (by omega), tk_nI (k := x0) (by omega), riN, c37]; rfl) (by show va_P D vwCl (mw cy ad (n_cross σ (nI f0) (nI x0)) T) _; rw [n_cross, tk_nI (k := f0) (by omega), tk_nI (k := x0) (by omega), if_pos ⟨c5, c13, c37⟩]; exact hP) dX11_cross_79
      · refine lv_bipush (v := -4) hx hb dX11_cross_40 (by decide) ?_
        exact rw_i hx hb hr hlocks hS T (by rw [a_cross, c5, c13, tk_nI (k := f0) (by omega), tk_nI (k := x0) (by omega), riN, c37]; rfl) (by show va_P D vwCl (mw cy ad (n_cross σ (nI f0) (nI x0)) T) _; rw [n_cross, tk_nI (k := f0) (by omega), tk_nI (k := x0) (by omega), if_neg (by rintro ⟨-, -, q⟩; rw [riN, c37] at q; cases q)]; exact hP) dX11_cross_42
    · refine lv_bipush (v := -2) hx hb dX11_cross_16 (by decide) ?_
      exact rw_i hx hb hr hlocks hS T (by first | (rw [a_cross, c5]; rfl; done) | (rw [a_cross, c5, c13]; rfl)) (by show va_P D vwCl (mw cy ad (n_cross σ f x) T) _; rw [n_cross, if_neg (by first | (rintro ⟨q, -, -⟩; rw [c5] at q; cases q; done) | (rintro ⟨-, q, -⟩; rw [c13] at q; cases q))]; exact hP) dX11_cross_18
set_option maxHeartbeats 4000000 in
set_option maxRecDepth 100000 in
theorem k_X11_doff (l : Launch) (D : va_G) (cy : Nat → ClassId) (ad : Nat → Nat) (σ : Sg) (T : Ms) (t : Int32) (hw : wfS σ) : MW l yX11_doff qX11_doff 2 [.ref (ad 0), .int (t)] D cy (mw cy ad σ T) (fun (r : Int32) (_ : Ms) => r = a_doff σ t) (fun u : Ms => mw cy ad (n_doff σ t) u) := by
  intro sz
  refine Met.ofW (cc := cX11_doff) (maxL := 2) (ret := (some .int)) (by decide) rfl ?_
  intro p e s m args below meth c s₁ B hml hv
  obtain ⟨rfl, rfl, hP, hK, hN, hD0⟩ := hv
  have hx := B.exec
  have hb := B.bytes
  have hr := B.returns
  have hlocks := B.notSynchronized
  have hts : ∀ cq ∈ tg, cq.before ([.ref (ad 0), .int (t)] : List Value).toArray s = true := fun cq h => atoms_spec (ws := qX11_doff) B.pre cq (List.mem_cons_of_mem _ h)
  have hown : s.vm.findClass RX11 = some m.cls := findClass_of_methodNamed B.named
  have hD := hD0.self (sz := s.heap.size)
  generalize hAe : va_A (mw cy ad σ T) s.heap.size = A at hD ⊢
  have hA : ∀ q : Nat, s.heap.size ≤ q → A q := fun q h => by rw [← hAe]; exact Or.inr h
  have hS : va_S A s.heap s.heap [] := va_S.rf
  have hl := lv_entry ([.ref (ad 0), .int (t)]) (n := 2) (Nat.le_of_ble_eq_true rfl)
  rw [lg_entry_eq]
  generalize (lg_sl ([.ref (ad 0), .int (t)]) ++ List.replicate (2 - (lg_sl ([.ref (ad 0), .int (t)])).length) Slot.unset).toArray = ls at hl ⊢
  have hl : lv_has ls 2 [(0, .ref (ad 0)), (1, .int (t))] := hl
  have hw1 := hw.1
  have hw2 := hw.2.1
  have hp8 := pw_8 hw1
  have hov := ov_lt hw
  have hmo := mo_lt hw
  have hof := of_lt hw
  refine lv_aload_n hx hb dX11_doff_0 rfl (lv_at hl 0 rfl) ?_
  refine lv_iload_n hx hb dX11_doff_1 rfl (lv_at hl 1 rfl) ?_
  refine cr_v (n := 1) (As := [.int (t)]) (rest := []) ⟨hx, hb, hml, hown, hts⟩ (k_X11_isThing l D cy ad σ T (t) hw) gvX11_177 (by decide +kernel) ⟨Nat.le_of_ble_eq_true rfl, Nat.le_of_ble_eq_true rfl⟩ hK hN hP 0 (mw_c0 cy ad σ T) rfl rfl hl.1 rfl (Nat.le_of_ble_eq_true rfl) dX11_doff_2 ⟨Nat.zero_le _, Nat.zero_le _⟩ ?_
  refine lb_if_ne (tgt := 11) hx hb dX11_doff_5 (by decide) (fun c5 => ?_) (fun c5 => ?_)
  · obtain ⟨t0, ht, rfl⟩ := ix_of c5 (by omega)
    have hl : lv_has ls 2 [(0, .ref (ad 0)), (1, .int (nI (t0)))] := hl
    have hk := hw.2.2.1 t0 (by omega)
    have hpt := pw_lt8 (k := t0) (by omega)
    have hxo := xor_lt8 hof hpt
    refine lv_aload_n hx hb dX11_doff_11 rfl (lv_at hl 0 rfl) ?_
    refine va_get (D := D) (ci := 10) (v := .ref (ad 1)) (C := RX11) (T := TX11) (N := 31) hx hb hts ni11 hown hK hP 0 (mw_c0 cy ad σ T) rfl 1 (by decide) (hts _ flX11_7) (fun _ h => h) rfl dX11_doff_12 ?_
    refine lv_bipush (v := nI 6) hx hb dX11_doff_15 (by decide) ?_
    refine lv_iload_n hx hb dX11_doff_17 rfl (lv_at hl 1 rfl) ?_
    refine ln_imul hx hb dX11_doff_18 ?_
    refine ln_iald (v := (nI (s_th σ (6 * t0)))) hx hb hK hP 1 (mw_c1 cy ad σ T) (by omega) (by decide) rfl dX11_doff_19 ?_
    refine lv_iconst (v := nI 1) hx hb dX11_doff_20 (by decide) ?_
    refine ln_icmp_le (tgt := 27) hx hb dX11_doff_21 (by decide) (by omega) (by omega) (fun c21 => ?_) (fun c21 => ?_)
    · refine lv_aload_n hx hb dX11_doff_27 rfl (lv_at hl 0 rfl) ?_
      refine lv_aload_n hx hb dX11_doff_28 rfl (lv_at hl 0 rfl) ?_
      refine va_get (D := D) (ci := 10) (v := .int (nI (s_of σ))) (C := RX11) (T := TX11) (N := 31) hx hb hts ni11 hown hK hP 0 (mw_c0 cy ad σ T) rfl 19 (by decide) (hts _ flX11_161) (fun _ h => h) rfl dX11_doff_29 ?_
      refine lv_iconst (v := nI 1) hx hb dX11_doff_32 (by decide) ?_
      refine lv_iload_n hx hb dX11_doff_33 rfl (lv_at hl 1 rfl) ?_
      refine ln_ishl hx hb dX11_doff_34 (by omega) (by omega) ?_
      refine ln_nat (show 1 * 2 ^ t0 = 2 ^ t0 from Nat.one_mul _) ?_
      refine ln_ixor hx hb dX11_doff_35 ?_
      refine ln_put (ci := 10) (C := RX11) (T := TX11) (N := 31) (ty := .int) (v := .int (nI ((s_of σ) ^^^ (2 ^ t0)))) hx hb hts ni11 tyX11 tyX11_ok nmX11 hown hK hP hD hS 0 (mw_c0 cy ad σ T) rfl 19 (by decide) (hts _ flX11_161) (fun _ h => h) rfl (by decide +kernel) rfl rfl (Nat.le_of_ble_eq_true rfl) (mp_0_19 cy ad σ T ((s_of σ) ^^^ (2 ^ t0))) dX11_doff_36 (fun H locs hP hD hS => ?_)
      refine lv_aload_n hx hb dX11_doff_39 rfl (lv_at hl 0 rfl) ?_
      refine lv_iload_n hx hb dX11_doff_40 rfl (lv_at hl 1 rfl) ?_
      refine lv_aload_n hx hb dX11_doff_41 rfl (lv_at hl 0 rfl) ?_
      refine va_get (D := D) (ci := 10) (v := .int (nI (((s_of σ) ^^^ (2 ^ t0))))) (C := RX11) (T := TX11) (N := 31) hx hb hts ni11 hown hK hP 0 (mw_c0 cy ad (su_of σ ((s_of σ) ^^^ (2 ^ t0))) T) rfl 19 (by decide) (hts _ flX11_161) (fun _ h => h) rfl dX11_doff_42 ?_
      refine cr_v (n := 2) (As := [.int (nI (t0)), .int (nI (((s_of σ) ^^^ (2 ^ t0))))]) (rest := []) ⟨hx, hb, hml, hown, hts⟩ (k_X11_poundsOf l D cy ad (su_of σ ((s_of σ) ^^^ (2 ^ t0))) T t0 ((s_of σ) ^^^ (2 ^ t0)) (by omega) (by omega)) gvX11_180 (by decide +kernel) ⟨Nat.le_of_ble_eq_true rfl, Nat.le_of_ble_eq_true rfl⟩ hK hN hP 0 (mw_c0 cy ad (su_of σ ((s_of σ) ^^^ (2 ^ t0))) T) rfl rfl hl.1 rfl (Nat.le_of_ble_eq_true rfl) dX11_doff_45 ⟨Nat.zero_le _, Nat.zero_le _⟩ ?_
      exact rw_i hx hb hr hlocks hS T (by rw [a_doff, c5, tk_nI (k := t0) (by omega), if_neg (by decide), if_neg (by omega)]; rfl) (by show va_P D vwCl (mw cy ad (n_doff σ (nI t0)) T) _; rw [n_doff, tk_nI (k := t0) (by omega), if_pos ⟨c5, c21⟩]; exact hP) dX11_doff_48
    · refine lv_bipush (v := -4) hx hb dX11_doff_24 (by decide) ?_
      exact rw_i hx hb hr hlocks hS T (by rw [a_doff, c5, tk_nI (k := t0) (by omega), if_neg (by decide), if_pos c21]) (by show va_P D vwCl (mw cy ad (n_doff σ (nI t0)) T) _; rw [n_doff, tk_nI (k := t0) (by omega), if_neg (by omega)]; exact hP) dX11_doff_26
  · refine lv_bipush (v := -2) hx hb dX11_doff_8 (by decide) ?_
    exact rw_i hx hb hr hlocks hS T (by rw [a_doff, c5]; rfl) (by show va_P D vwCl (mw cy ad (n_doff σ t) T) _; rw [n_doff, if_neg (by rintro ⟨q, -⟩; rw [c5] at q; cases q)]; exact hP) dX11_doff_10
set_option maxHeartbeats 4000000 in
set_option maxRecDepth 100000 in
theorem k_X11_keep (l : Launch) (D : va_G) (cy : Nat → ClassId) (ad : Nat → Nat) (σ : Sg) (T : Ms) (k : Int32) (hw : wfS σ) : MW l yX11_keep qX11_keep 1 [.ref (ad 0), .int (k)] D cy (mw cy ad σ T) (fun (r : Int32) (_ : Ms) => r = a_keep σ k) (fun u : Ms => mw cy ad (n_keep σ k) u) := by
  intro sz
  refine Met.ofW (cc := cX11_keep) (maxL := 2) (ret := (some .int)) (by decide) rfl ?_
  intro p e s m args below meth c s₁ B hml hv
  obtain ⟨rfl, rfl, hP, hK, hN, hD0⟩ := hv
  have hx := B.exec
  have hb := B.bytes
  have hr := B.returns
  have hlocks := B.notSynchronized
  have hts : ∀ cq ∈ tg, cq.before ([.ref (ad 0), .int (k)] : List Value).toArray s = true := fun cq h => atoms_spec (ws := qX11_keep) B.pre cq (List.mem_cons_of_mem _ h)
  have hown : s.vm.findClass RX11 = some m.cls := findClass_of_methodNamed B.named
  have hD := hD0.self (sz := s.heap.size)
  generalize hAe : va_A (mw cy ad σ T) s.heap.size = A at hD ⊢
  have hA : ∀ q : Nat, s.heap.size ≤ q → A q := fun q h => by rw [← hAe]; exact Or.inr h
  have hS : va_S A s.heap s.heap [] := va_S.rf
  have hl := lv_entry ([.ref (ad 0), .int (k)]) (n := 2) (Nat.le_of_ble_eq_true rfl)
  rw [lg_entry_eq]
  generalize (lg_sl ([.ref (ad 0), .int (k)]) ++ List.replicate (2 - (lg_sl ([.ref (ad 0), .int (k)])).length) Slot.unset).toArray = ls at hl ⊢
  have hl : lv_has ls 2 [(0, .ref (ad 0)), (1, .int (k))] := hl
  have hw1 := hw.1
  have hw2 := hw.2.1
  have hp8 := pw_8 hw1
  have hov := ov_lt hw
  have hmo := mo_lt hw
  have hof := of_lt hw
  refine lv_iload_n hx hb dX11_keep_0 rfl (lv_at hl 1 rfl) ?_
  refine lv_iconst (v := nI 0) hx hb dX11_keep_1 (by decide) ?_
  refine lv_iconst (v := nI 1) hx hb dX11_keep_2 (by decide) ?_
  refine cr_s (n := 3) (As := [.int (k), .int (nI (0)), .int (nI (1))]) (rest := []) ⟨hx, hb, hml, hown, hts⟩ (k_X11_in l (k) (nI (0)) (nI (1))) gsX11_51 (by decide +kernel) ⟨Nat.le_of_ble_eq_true rfl, Nat.le_of_ble_eq_true rfl⟩ rfl hl.1 rfl (Nat.le_of_ble_eq_true rfl) dX11_keep_3 ⟨Nat.zero_le _, Nat.zero_le _⟩ ?_
  refine lb_if_ne (tgt := 12) hx hb dX11_keep_6 (by decide) (fun c6 => ?_) (fun c6 => ?_)
  · obtain ⟨k0, hk, rfl⟩ := ix_of (ix2 c6) (by omega)
    have hl : lv_has ls 2 [(0, .ref (ad 0)), (1, .int (nI (k0)))] := hl
    refine lv_aload_n hx hb dX11_keep_12 rfl (lv_at hl 0 rfl) ?_
    refine va_get (D := D) (ci := 10) (v := .ref (ad 6)) (C := RX11) (T := TX11) (N := 31) hx hb hts ni11 hown hK hP 0 (mw_c0 cy ad σ T) rfl 22 (by decide) (hts _ flX11_25) (fun _ h => h) rfl dX11_keep_13 ?_
    refine lv_iconst (v := nI 5) hx hb dX11_keep_16 (by decide) ?_
    refine lv_iload_n hx hb dX11_keep_17 rfl (lv_at hl 1 rfl) ?_
    refine ln_imul hx hb dX11_keep_18 ?_
    refine lv_aload_n hx hb dX11_keep_19 rfl (lv_at hl 0 rfl) ?_
    refine va_get (D := D) (ci := 10) (v := .int (nI (s_ov σ))) (C := RX11) (T := TX11) (N := 31) hx hb hts ni11 hown hK hP 0 (mw_c0 cy ad σ T) rfl 17 (by decide) (hts _ flX11_155) (fun _ h => h) rfl dX11_keep_20 ?_
    refine ln_iast hx hb hK hP hD hS 6 (mw_c6 cy ad σ T) (by omega) (by decide) (mp_6 cy ad σ T (5 * k0) (s_ov σ)) dX11_keep_23 (fun H locs hP hD hS => ?_)
    refine lv_aload_n hx hb dX11_keep_24 rfl (lv_at hl 0 rfl) ?_
    refine va_get (D := D) (ci := 10) (v := .ref (ad 6)) (C := RX11) (T := TX11) (N := 31) hx hb hts ni11 hown hK hP 0 (mw_c0 cy ad (su_im σ (updN (s_im σ) (5 * k0) (s_ov σ))) T) rfl 22 (by decide) (hts _ flX11_25) (fun _ h => h) rfl dX11_keep_25 ?_
    refine lv_iconst (v := nI 5) hx hb dX11_keep_28 (by decide) ?_
    refine lv_iload_n hx hb dX11_keep_29 rfl (lv_at hl 1 rfl) ?_
    refine ln_imul hx hb dX11_keep_30 ?_
    refine lv_iconst (v := nI 1) hx hb dX11_keep_31 (by decide) ?_
    refine ln_iadd hx hb dX11_keep_32 ?_
    refine lv_aload_n hx hb dX11_keep_33 rfl (lv_at hl 0 rfl) ?_
    refine va_get (D := D) (ci := 10) (v := .int (nI (s_mo σ))) (C := RX11) (T := TX11) (N := 31) hx hb hts ni11 hown hK hP 0 (mw_c0 cy ad (su_im σ (updN (s_im σ) (5 * k0) (s_ov σ))) T) rfl 18 (by decide) (hts _ flX11_158) (fun _ h => h) rfl dX11_keep_34 ?_
    refine ln_iast hx hb hK hP hD hS 6 (mw_c6 cy ad (su_im σ (updN (s_im σ) (5 * k0) (s_ov σ))) T) (by omega) (by decide) ((mp_6 cy ad (su_im σ (updN (s_im σ) (5 * k0) (s_ov σ))) T ((5 * k0) + 1) (s_mo σ)).trans (congrArg (fun z => mw cy ad z T) (by rw [sc_im]))) dX11_keep_37 (fun H locs hP hD hS => ?_)
    refine lv_aload_n hx hb dX11_keep_38 rfl (lv_at hl 0 rfl) ?_
    refine va_get (D := D) (ci := 10) (v := .ref (ad 6)) (C := RX11) (T := TX11) (N := 31) hx hb hts ni11 hown hK hP 0 (mw_c0 cy ad (su_im σ (updN (updN (s_im σ) (5 * k0) (s_ov σ)) ((5 * k0) + 1) (s_mo σ))) T) rfl 22 (by decide) (hts _ flX11_25) (fun _ h => h) rfl dX11_keep_39 ?_
    refine lv_iconst (v := nI 5) hx hb dX11_keep_42 (by decide) ?_
    refine lv_iload_n hx hb dX11_keep_43 rfl (lv_at hl 1 rfl) ?_
    refine ln_imul hx hb dX11_keep_44 ?_
    refine lv_iconst (v := nI 2) hx hb dX11_keep_45 (by decide) ?_
    refine ln_iadd hx hb dX11_keep_46 ?_
    refine lv_aload_n hx hb dX11_keep_47 rfl (lv_at hl 0 rfl) ?_
    refine va_get (D := D) (ci := 10) (v := .int (nI (s_of σ))) (C := RX11) (T := TX11) (N := 31) hx hb hts ni11 hown hK hP 0 (mw_c0 cy ad (su_im σ (updN (updN (s_im σ) (5 * k0) (s_ov σ)) ((5 * k0) + 1) (s_mo σ))) T) rfl 19 (by decide) (hts _ flX11_161) (fun _ h => h) rfl dX11_keep_48 ?_
    refine ln_iast hx hb hK hP hD hS 6 (mw_c6 cy ad (su_im σ (updN (updN (s_im σ) (5 * k0) (s_ov σ)) ((5 * k0) + 1) (s_mo σ))) T) (by omega) (by decide) ((mp_6 cy ad (su_im σ (updN (updN (s_im σ) (5 * k0) (s_ov σ)) ((5 * k0) + 1) (s_mo σ))) T ((5 * k0) + 2) (s_of σ)).trans (congrArg (fun z => mw cy ad z T) (by rw [sc_im]))) dX11_keep_51 (fun H locs hP hD hS => ?_)
    refine lv_aload_n hx hb dX11_keep_52 rfl (lv_at hl 0 rfl) ?_
    refine va_get (D := D) (ci := 10) (v := .ref (ad 6)) (C := RX11) (T := TX11) (N := 31) hx hb hts ni11 hown hK hP 0 (mw_c0 cy ad (su_im σ (updN (updN (updN (s_im σ) (5 * k0) (s_ov σ)) ((5 * k0) + 1) (s_mo σ)) ((5 * k0) + 2) (s_of σ))) T) rfl 22 (by decide) (hts _ flX11_25) (fun _ h => h) rfl dX11_keep_53 ?_
    refine lv_iconst (v := nI 5) hx hb dX11_keep_56 (by decide) ?_
    refine lv_iload_n hx hb dX11_keep_57 rfl (lv_at hl 1 rfl) ?_
    refine ln_imul hx hb dX11_keep_58 ?_
    refine lv_iconst (v := nI 3) hx hb dX11_keep_59 (by decide) ?_
    refine ln_iadd hx hb dX11_keep_60 ?_
    refine lv_aload_n hx hb dX11_keep_61 rfl (lv_at hl 0 rfl) ?_
    refine va_get (D := D) (ci := 10) (v := .int (bI (s_la σ))) (C := RX11) (T := TX11) (N := 31) hx hb hts ni11 hown hK hP 0 (mw_c0 cy ad (su_im σ (updN (updN (updN (s_im σ) (5 * k0) (s_ov σ)) ((5 * k0) + 1) (s_mo σ)) ((5 * k0) + 2) (s_of σ))) T) rfl 20 (by decide) (hts _ flX11_164) (fun _ h => h) rfl dX11_keep_62 ?_
    refine ln_eq (show (bI (s_la σ)) = (nI ((s_la σ).toNat)) from bI_toNat _) ?_
    refine ln_iast hx hb hK hP hD hS 6 (mw_c6 cy ad (su_im σ (updN (updN (updN (s_im σ) (5 * k0) (s_ov σ)) ((5 * k0) + 1) (s_mo σ)) ((5 * k0) + 2) (s_of σ))) T) (by omega) (by decide) ((mp_6 cy ad (su_im σ (updN (updN (updN (s_im σ) (5 * k0) (s_ov σ)) ((5 * k0) + 1) (s_mo σ)) ((5 * k0) + 2) (s_of σ))) T ((5 * k0) + 3) ((s_la σ).toNat)).trans (congrArg (fun z => mw cy ad z T) (by rw [sc_im]))) dX11_keep_65 (fun H locs hP hD hS => ?_)
    refine lv_aload_n hx hb dX11_keep_66 rfl (lv_at hl 0 rfl) ?_
    refine va_get (D := D) (ci := 10) (v := .ref (ad 6)) (C := RX11) (T := TX11) (N := 31) hx hb hts ni11 hown hK hP 0 (mw_c0 cy ad (su_im σ (updN (updN (updN (updN (s_im σ) (5 * k0) (s_ov σ)) ((5 * k0) + 1) (s_mo σ)) ((5 * k0) + 2) (s_of σ)) ((5 * k0) + 3) ((s_la σ).toNat))) T) rfl 22 (by decide) (hts _ flX11_25) (fun _ h => h) rfl dX11_keep_67 ?_
    refine lv_iconst (v := nI 5) hx hb dX11_keep_70 (by decide) ?_
    refine lv_iload_n hx hb dX11_keep_71 rfl (lv_at hl 1 rfl) ?_
    refine ln_imul hx hb dX11_keep_72 ?_
    refine lv_iconst (v := nI 4) hx hb dX11_keep_73 (by decide) ?_
    refine ln_iadd hx hb dX11_keep_74 ?_
    refine lv_aload_n hx hb dX11_keep_75 rfl (lv_at hl 0 rfl) ?_
    refine va_get (D := D) (ci := 10) (v := .int (nI (s_cr σ))) (C := RX11) (T := TX11) (N := 31) hx hb hts ni11 hown hK hP 0 (mw_c0 cy ad (su_im σ (updN (updN (updN (updN (s_im σ) (5 * k0) (s_ov σ)) ((5 * k0) + 1) (s_mo σ)) ((5 * k0) + 2) (s_of σ)) ((5 * k0) + 3) ((s_la σ).toNat))) T) rfl 21 (by decide) (hts _ flX11_167) (fun _ h => h) rfl dX11_keep_76 ?_
    refine ln_iast hx hb hK hP hD hS 6 (mw_c6 cy ad (su_im σ (updN (updN (updN (updN (s_im σ) (5 * k0) (s_ov σ)) ((5 * k0) + 1) (s_mo σ)) ((5 * k0) + 2) (s_of σ)) ((5 * k0) + 3) ((s_la σ).toNat))) T) (by omega) (by decide) ((mp_6 cy ad (su_im σ (updN (updN (updN (updN (s_im σ) (5 * k0) (s_ov σ)) ((5 * k0) + 1) (s_mo σ)) ((5 * k0) + 2) (s_of σ)) ((5 * k0) + 3) ((s_la σ).toNat))) T ((5 * k0) + 4) (s_cr σ)).trans (congrArg (fun z => mw cy ad z T) (by rw [sc_im]))) dX11_keep_79 (fun H locs hP hD hS => ?_)
    refine lv_aload_n hx hb dX11_keep_80 rfl (lv_at hl 0 rfl) ?_
    refine va_get (D := D) (ci := 10) (v := .ref (ad 7)) (C := RX11) (T := TX11) (N := 31) hx hb hts ni11 hown hK hP 0 (mw_c0 cy ad (su_im σ (updN (updN (updN (updN (updN (s_im σ) (5 * k0) (s_ov σ)) ((5 * k0) + 1) (s_mo σ)) ((5 * k0) + 2) (s_of σ)) ((5 * k0) + 3) ((s_la σ).toNat)) ((5 * k0) + 4) (s_cr σ))) T) rfl 23 (by decide) (hts _ flX11_28) (fun _ h => h) rfl dX11_keep_81 ?_
    refine lv_iload_n hx hb dX11_keep_84 rfl (lv_at hl 1 rfl) ?_
    refine lv_iconst (v := nI 1) hx hb dX11_keep_85 (by decide) ?_
    refine ln_eq (show (nI (1)) = (bI (true)) from rfl) ?_
    refine ln_zast hx hb hK hP hD hS 7 (mw_c7 cy ad (su_im σ (updN (updN (updN (updN (updN (s_im σ) (5 * k0) (s_ov σ)) ((5 * k0) + 1) (s_mo σ)) ((5 * k0) + 2) (s_of σ)) ((5 * k0) + 3) ((s_la σ).toNat)) ((5 * k0) + 4) (s_cr σ))) T) (by omega) (by decide) (mp_7 cy ad (su_im σ (updN (updN (updN (updN (updN (s_im σ) (5 * k0) (s_ov σ)) ((5 * k0) + 1) (s_mo σ)) ((5 * k0) + 2) (s_of σ)) ((5 * k0) + 3) ((s_la σ).toNat)) ((5 * k0) + 4) (s_cr σ))) T k0 true) dX11_keep_86 (fun H locs hP hD hS => ?_)
    refine lv_aload_n hx hb dX11_keep_87 rfl (lv_at hl 0 rfl) ?_
    refine va_get (D := D) (ci := 10) (v := .int (nI (s_cr σ))) (C := RX11) (T := TX11) (N := 31) hx hb hts ni11 hown hK hP 0 (mw_c0 cy ad (su_kp (su_im σ (updN (updN (updN (updN (updN (s_im σ) (5 * k0) (s_ov σ)) ((5 * k0) + 1) (s_mo σ)) ((5 * k0) + 2) (s_of σ)) ((5 * k0) + 3) ((s_la σ).toNat)) ((5 * k0) + 4) (s_cr σ))) (updB (s_kp σ) k0 true)) T) rfl 21 (by decide) (hts _ flX11_167) (fun _ h => h) rfl dX11_keep_88 ?_
    exact rw_i hx hb hr hlocks hS T (by rw [a_keep, ix2 c6]; rfl) (by show va_P D vwCl (mw cy ad (n_keep σ (nI k0)) T) _; rw [n_keep, if_pos (ix2 c6), tk_nI (k := k0) (by omega), ← keep_im]; exact hP) dX11_keep_91
  · refine lv_bipush (v := -2) hx hb dX11_keep_9 (by decide) ?_
    exact rw_i hx hb hr hlocks hS T (by rw [a_keep, ix2 c6]; rfl) (by show va_P D vwCl (mw cy ad (n_keep σ k) T) _; rw [n_keep, if_neg (by rw [ix2 c6]; decide)]; exact hP) dX11_keep_11
set_option maxHeartbeats 4000000 in
set_option maxRecDepth 100000 in
theorem k_X11_back (l : Launch) (D : va_G) (cy : Nat → ClassId) (ad : Nat → Nat) (σ : Sg) (T : Ms) (k : Int32) (hw : wfS σ) : MW l yX11_back qX11_back 1 [.ref (ad 0), .int (k)] D cy (mw cy ad σ T) (fun (r : Int32) (_ : Ms) => r = a_back σ k) (fun u : Ms => mw cy ad (n_back σ k) u) := by
  intro sz
  refine Met.ofW (cc := cX11_back) (maxL := 2) (ret := (some .int)) (by decide) rfl ?_
  intro p e s m args below meth c s₁ B hml hv
  obtain ⟨rfl, rfl, hP, hK, hN, hD0⟩ := hv
  have hx := B.exec
  have hb := B.bytes
  have hr := B.returns
  have hlocks := B.notSynchronized
  have hts : ∀ cq ∈ tg, cq.before ([.ref (ad 0), .int (k)] : List Value).toArray s = true := fun cq h => atoms_spec (ws := qX11_back) B.pre cq (List.mem_cons_of_mem _ h)
  have hown : s.vm.findClass RX11 = some m.cls := findClass_of_methodNamed B.named
  have hD := hD0.self (sz := s.heap.size)
  generalize hAe : va_A (mw cy ad σ T) s.heap.size = A at hD ⊢
  have hA : ∀ q : Nat, s.heap.size ≤ q → A q := fun q h => by rw [← hAe]; exact Or.inr h
  have hS : va_S A s.heap s.heap [] := va_S.rf
  have hl := lv_entry ([.ref (ad 0), .int (k)]) (n := 2) (Nat.le_of_ble_eq_true rfl)
  rw [lg_entry_eq]
  generalize (lg_sl ([.ref (ad 0), .int (k)]) ++ List.replicate (2 - (lg_sl ([.ref (ad 0), .int (k)])).length) Slot.unset).toArray = ls at hl ⊢
  have hl : lv_has ls 2 [(0, .ref (ad 0)), (1, .int (k))] := hl
  have hw1 := hw.1
  have hw2 := hw.2.1
  have hp8 := pw_8 hw1
  have hov := ov_lt hw
  have hmo := mo_lt hw
  have hof := of_lt hw
  refine lv_iload_n hx hb dX11_back_0 rfl (lv_at hl 1 rfl) ?_
  refine lv_iconst (v := nI 0) hx hb dX11_back_1 (by decide) ?_
  refine lv_iconst (v := nI 1) hx hb dX11_back_2 (by decide) ?_
  refine cr_s (n := 3) (As := [.int (k), .int (nI (0)), .int (nI (1))]) (rest := []) ⟨hx, hb, hml, hown, hts⟩ (k_X11_in l (k) (nI (0)) (nI (1))) gsX11_51 (by decide +kernel) ⟨Nat.le_of_ble_eq_true rfl, Nat.le_of_ble_eq_true rfl⟩ rfl hl.1 rfl (Nat.le_of_ble_eq_true rfl) dX11_back_3 ⟨Nat.zero_le _, Nat.zero_le _⟩ ?_
  refine lb_if_ne (tgt := 12) hx hb dX11_back_6 (by decide) (fun c6 => ?_) (fun c6 => ?_)
  · obtain ⟨k0, hk, rfl⟩ := ix_of (ix2 c6) (by omega)
    have hl : lv_has ls 2 [(0, .ref (ad 0)), (1, .int (nI (k0)))] := hl
    refine lv_aload_n hx hb dX11_back_12 rfl (lv_at hl 0 rfl) ?_
    refine va_get (D := D) (ci := 10) (v := .ref (ad 7)) (C := RX11) (T := TX11) (N := 31) hx hb hts ni11 hown hK hP 0 (mw_c0 cy ad σ T) rfl 23 (by decide) (hts _ flX11_28) (fun _ h => h) rfl dX11_back_13 ?_
    refine lv_iload_n hx hb dX11_back_16 rfl (lv_at hl 1 rfl) ?_
    refine ln_zald (v := (bI (s_kp σ k0))) hx hb hK hP 7 (mw_c7 cy ad σ T) (by omega) (by decide) rfl dX11_back_17 ?_
    refine lb_if_ne (tgt := 24) hx hb dX11_back_18 (by decide) (fun c18 => ?_) (fun c18 => ?_)
    · refine lv_aload_n hx hb dX11_back_24 rfl (lv_at hl 0 rfl) ?_
      refine lv_aload_n hx hb dX11_back_25 rfl (lv_at hl 0 rfl) ?_
      refine va_get (D := D) (ci := 10) (v := .ref (ad 6)) (C := RX11) (T := TX11) (N := 31) hx hb hts ni11 hown hK hP 0 (mw_c0 cy ad σ T) rfl 22 (by decide) (hts _ flX11_25) (fun _ h => h) rfl dX11_back_26 ?_
      refine lv_iconst (v := nI 5) hx hb dX11_back_29 (by decide) ?_
      refine lv_iload_n hx hb dX11_back_30 rfl (lv_at hl 1 rfl) ?_
      refine ln_imul hx hb dX11_back_31 ?_
      refine ln_iald (v := (nI (s_im σ (5 * k0)))) hx hb hK hP 6 (mw_c6 cy ad σ T) (by omega) (by decide) rfl dX11_back_32 ?_
      refine ln_put (ci := 10) (C := RX11) (T := TX11) (N := 31) (ty := .int) (v := .int (nI (s_im σ (5 * k0)))) hx hb hts ni11 tyX11 tyX11_ok nmX11 hown hK hP hD hS 0 (mw_c0 cy ad σ T) rfl 17 (by decide) (hts _ flX11_155) (fun _ h => h) rfl (by decide +kernel) rfl rfl (Nat.le_of_ble_eq_true rfl) (mp_0_17 cy ad σ T (s_im σ (5 * k0))) dX11_back_33 (fun H locs hP hD hS => ?_)
      refine lv_aload_n hx hb dX11_back_36 rfl (lv_at hl 0 rfl) ?_
      refine lv_aload_n hx hb dX11_back_37 rfl (lv_at hl 0 rfl) ?_
      refine va_get (D := D) (ci := 10) (v := .ref (ad 6)) (C := RX11) (T := TX11) (N := 31) hx hb hts ni11 hown hK hP 0 (mw_c0 cy ad (su_ov σ (s_im σ (5 * k0))) T) rfl 22 (by decide) (hts _ flX11_25) (fun _ h => h) rfl dX11_back_38 ?_
      refine lv_iconst (v := nI 5) hx hb dX11_back_41 (by decide) ?_
      refine lv_iload_n hx hb dX11_back_42 rfl (lv_at hl 1 rfl) ?_
      refine ln_imul hx hb dX11_back_43 ?_
      refine lv_iconst (v := nI 1) hx hb dX11_back_44 (by decide) ?_
      refine ln_iadd hx hb dX11_back_45 ?_
      refine ln_iald (v := (nI (s_im σ ((5 * k0) + 1)))) hx hb hK hP 6 (mw_c6 cy ad (su_ov σ (s_im σ (5 * k0))) T) (by omega) (by decide) rfl dX11_back_46 ?_
      refine ln_put (ci := 10) (C := RX11) (T := TX11) (N := 31) (ty := .int) (v := .int (nI (s_im σ ((5 * k0) + 1)))) hx hb hts ni11 tyX11 tyX11_ok nmX11 hown hK hP hD hS 0 (mw_c0 cy ad (su_ov σ (s_im σ (5 * k0))) T) rfl 18 (by decide) (hts _ flX11_158) (fun _ h => h) rfl (by decide +kernel) rfl rfl (Nat.le_of_ble_eq_true rfl) (mp_0_18 cy ad (su_ov σ (s_im σ (5 * k0))) T (s_im σ ((5 * k0) + 1))) dX11_back_47 (fun H locs hP hD hS => ?_)
      refine lv_aload_n hx hb dX11_back_50 rfl (lv_at hl 0 rfl) ?_
      refine lv_aload_n hx hb dX11_back_51 rfl (lv_at hl 0 rfl) ?_
      refine va_get (D := D) (ci := 10) (v := .ref (ad 6)) (C := RX11) (T := TX11) (N := 31) hx hb hts ni11 hown hK hP 0 (mw_c0 cy ad (su_mo (su_ov σ (s_im σ (5 * k0))) (s_im σ ((5 * k0) + 1))) T) rfl 22 (by decide) (hts _ flX11_25) (fun _ h => h) rfl dX11_back_52 ?_
      refine lv_iconst (v := nI 5) hx hb dX11_back_55 (by decide) ?_
      refine lv_iload_n hx hb dX11_back_56 rfl (lv_at hl 1 rfl) ?_
      refine ln_imul hx hb dX11_back_57 ?_
      refine lv_iconst (v := nI 2) hx hb dX11_back_58 (by decide) ?_
      refine ln_iadd hx hb dX11_back_59 ?_
      refine ln_iald (v := (nI (s_im σ ((5 * k0) + 2)))) hx hb hK hP 6 (mw_c6 cy ad (su_mo (su_ov σ (s_im σ (5 * k0))) (s_im σ ((5 * k0) + 1))) T) (by omega) (by decide) rfl dX11_back_60 ?_
      refine ln_put (ci := 10) (C := RX11) (T := TX11) (N := 31) (ty := .int) (v := .int (nI (s_im σ ((5 * k0) + 2)))) hx hb hts ni11 tyX11 tyX11_ok nmX11 hown hK hP hD hS 0 (mw_c0 cy ad (su_mo (su_ov σ (s_im σ (5 * k0))) (s_im σ ((5 * k0) + 1))) T) rfl 19 (by decide) (hts _ flX11_161) (fun _ h => h) rfl (by decide +kernel) rfl rfl (Nat.le_of_ble_eq_true rfl) (mp_0_19 cy ad (su_mo (su_ov σ (s_im σ (5 * k0))) (s_im σ ((5 * k0) + 1))) T (s_im σ ((5 * k0) + 2))) dX11_back_61 (fun H locs hP hD hS => ?_)
      refine lv_aload_n hx hb dX11_back_64 rfl (lv_at hl 0 rfl) ?_
      refine lv_aload_n hx hb dX11_back_65 rfl (lv_at hl 0 rfl) ?_
      refine va_get (D := D) (ci := 10) (v := .ref (ad 6)) (C := RX11) (T := TX11) (N := 31) hx hb hts ni11 hown hK hP 0 (mw_c0 cy ad (su_of (su_mo (su_ov σ (s_im σ (5 * k0))) (s_im σ ((5 * k0) + 1))) (s_im σ ((5 * k0) + 2))) T) rfl 22 (by decide) (hts _ flX11_25) (fun _ h => h) rfl dX11_back_66 ?_
      refine lv_iconst (v := nI 5) hx hb dX11_back_69 (by decide) ?_
      refine lv_iload_n hx hb dX11_back_70 rfl (lv_at hl 1 rfl) ?_
      refine ln_imul hx hb dX11_back_71 ?_
      refine lv_iconst (v := nI 3) hx hb dX11_back_72 (by decide) ?_
      refine ln_iadd hx hb dX11_back_73 ?_
      refine ln_iald (v := (nI (s_im σ ((5 * k0) + 3)))) hx hb hK hP 6 (mw_c6 cy ad (su_of (su_mo (su_ov σ (s_im σ (5 * k0))) (s_im σ ((5 * k0) + 1))) (s_im σ ((5 * k0) + 2))) T) (by omega) (by decide) rfl dX11_back_74 ?_
      refine ln_eq (show (nI (s_im σ ((5 * k0) + 3))) = (bI (decide (s_im σ (5 * k0 + 3) = 1))) from bI_1 (hw.2.2.2.2.2.2.2.2.2.2.2.2.2 k0 hk)) ?_
      refine ln_put (ci := 10) (C := RX11) (T := TX11) (N := 31) (ty := .int) (v := .int (bI (decide (s_im σ (5 * k0 + 3) = 1)))) hx hb hts ni11 tyX11 tyX11_ok nmX11 hown hK hP hD hS 0 (mw_c0 cy ad (su_of (su_mo (su_ov σ (s_im σ (5 * k0))) (s_im σ ((5 * k0) + 1))) (s_im σ ((5 * k0) + 2))) T) rfl 20 (by decide) (hts _ flX11_164) (fun _ h => h) rfl (by decide +kernel) rfl rfl (Nat.le_of_ble_eq_true rfl) (mp_0_20 cy ad (su_of (su_mo (su_ov σ (s_im σ (5 * k0))) (s_im σ ((5 * k0) + 1))) (s_im σ ((5 * k0) + 2))) T (decide (s_im σ (5 * k0 + 3) = 1))) dX11_back_75 (fun H locs hP hD hS => ?_)
      refine lv_aload_n hx hb dX11_back_78 rfl (lv_at hl 0 rfl) ?_
      refine lv_aload_n hx hb dX11_back_79 rfl (lv_at hl 0 rfl) ?_
      refine va_get (D := D) (ci := 10) (v := .ref (ad 6)) (C := RX11) (T := TX11) (N := 31) hx hb hts ni11 hown hK hP 0 (mw_c0 cy ad (su_la (su_of (su_mo (su_ov σ (s_im σ (5 * k0))) (s_im σ ((5 * k0) + 1))) (s_im σ ((5 * k0) + 2))) (decide (s_im σ (5 * k0 + 3) = 1))) T) rfl 22 (by decide) (hts _ flX11_25) (fun _ h => h) rfl dX11_back_80 ?_
      refine lv_iconst (v := nI 5) hx hb dX11_back_83 (by decide) ?_
      refine lv_iload_n hx hb dX11_back_84 rfl (lv_at hl 1 rfl) ?_
      refine ln_imul hx hb dX11_back_85 ?_
      refine lv_iconst (v := nI 4) hx hb dX11_back_86 (by decide) ?_
      refine ln_iadd hx hb dX11_back_87 ?_
      refine ln_iald (v := (nI (s_im σ ((5 * k0) + 4)))) hx hb hK hP 6 (mw_c6 cy ad (su_la (su_of (su_mo (su_ov σ (s_im σ (5 * k0))) (s_im σ ((5 * k0) + 1))) (s_im σ ((5 * k0) + 2))) (decide (s_im σ (5 * k0 + 3) = 1))) T) (by omega) (by decide) rfl dX11_back_88 ?_
      refine ln_put (ci := 10) (C := RX11) (T := TX11) (N := 31) (ty := .int) (v := .int (nI (s_im σ ((5 * k0) + 4)))) hx hb hts ni11 tyX11 tyX11_ok nmX11 hown hK hP hD hS 0 (mw_c0 cy ad (su_la (su_of (su_mo (su_ov σ (s_im σ (5 * k0))) (s_im σ ((5 * k0) + 1))) (s_im σ ((5 * k0) + 2))) (decide (s_im σ (5 * k0 + 3) = 1))) T) rfl 21 (by decide) (hts _ flX11_167) (fun _ h => h) rfl (by decide +kernel) rfl rfl (Nat.le_of_ble_eq_true rfl) (mp_0_21 cy ad (su_la (su_of (su_mo (su_ov σ (s_im σ (5 * k0))) (s_im σ ((5 * k0) + 1))) (s_im σ ((5 * k0) + 2))) (decide (s_im σ (5 * k0 + 3) = 1))) T (s_im σ ((5 * k0) + 4))) dX11_back_89 (fun H locs hP hD hS => ?_)
      refine lv_aload_n hx hb dX11_back_92 rfl (lv_at hl 0 rfl) ?_
      refine va_get (D := D) (ci := 10) (v := .int (nI ((s_im σ ((5 * k0) + 4))))) (C := RX11) (T := TX11) (N := 31) hx hb hts ni11 hown hK hP 0 (mw_c0 cy ad (su_cr (su_la (su_of (su_mo (su_ov σ (s_im σ (5 * k0))) (s_im σ ((5 * k0) + 1))) (s_im σ ((5 * k0) + 2))) (decide (s_im σ (5 * k0 + 3) = 1))) (s_im σ ((5 * k0) + 4))) T) rfl 21 (by decide) (hts _ flX11_167) (fun _ h => h) rfl dX11_back_93 ?_
      exact rw_i hx hb hr hlocks hS T (by rw [a_back, ix2 c6, tk_nI (k := k0) (by omega), c18]; rfl) (by show va_P D vwCl (mw cy ad (n_back σ (nI k0)) T) _; rw [n_back, tk_nI (k := k0) (by omega), if_pos ⟨ix2 c6, c18⟩]; exact hP) dX11_back_96
    · refine lv_bipush (v := -4) hx hb dX11_back_21 (by decide) ?_
      exact rw_i hx hb hr hlocks hS T (by rw [a_back, ix2 c6, tk_nI (k := k0) (by omega), c18]; rfl) (by show va_P D vwCl (mw cy ad (n_back σ (nI k0)) T) _; rw [n_back, tk_nI (k := k0) (by omega), if_neg (by rintro ⟨-, q⟩; rw [c18] at q; cases q)]; exact hP) dX11_back_23
  · refine lv_bipush (v := -2) hx hb dX11_back_9 (by decide) ?_
    exact rw_i hx hb hr hlocks hS T (by rw [a_back, ix2 c6]; rfl) (by show va_P D vwCl (mw cy ad (n_back σ k) T) _; rw [n_back, if_neg (by rintro ⟨q, -⟩; rw [ix2 c6] at q; cases q)]; exact hP) dX11_back_11
set_option maxHeartbeats 4000000 in
set_option maxRecDepth 100000 in
theorem k_X11_row (l : Launch) (D : va_G) (cy : Nat → ClassId) (ad : Nat → Nat) (σ : Sg) (T : Ms) (f x : Int32) (hw : wfS σ) : MW l yX11_row qX11_row 2 [.ref (ad 0), .int (f), .int (x)] D cy (mw cy ad σ T) (fun (r : Int32) (_ : Ms) => r = a_row σ f x) (fun u : Ms => mw cy ad (n_row σ f x) u) := by
  intro sz
  refine Met.ofW (cc := cX11_row) (maxL := 3) (ret := (some .int)) (by decide) rfl ?_
  intro p e s m args below meth c s₁ B hml hv
  obtain ⟨rfl, rfl, hP, hK, hN, hD0⟩ := hv
  have hx := B.exec
  have hb := B.bytes
  have hr := B.returns
  have hlocks := B.notSynchronized
  have hts : ∀ cq ∈ tg, cq.before ([.ref (ad 0), .int (f), .int (x)] : List Value).toArray s = true := fun cq h => atoms_spec (ws := qX11_row) B.pre cq (List.mem_cons_of_mem _ h)
  have hown : s.vm.findClass RX11 = some m.cls := findClass_of_methodNamed B.named
  have hD := hD0.self (sz := s.heap.size)
  generalize hAe : va_A (mw cy ad σ T) s.heap.size = A at hD ⊢
  have hA : ∀ q : Nat, s.heap.size ≤ q → A q := fun q h => by rw [← hAe]; exact Or.inr h
  have hS : va_S A s.heap s.heap [] := va_S.rf
  have hl := lv_entry ([.ref (ad 0), .int (f), .int (x)]) (n := 3) (Nat.le_of_ble_eq_true rfl)
  rw [lg_entry_eq]
  generalize (lg_sl ([.ref (ad 0), .int (f), .int (x)]) ++ List.replicate (3 - (lg_sl ([.ref (ad 0), .int (f), .int (x)])).length) Slot.unset).toArray = ls at hl ⊢
  have hl : lv_has ls 3 [(0, .ref (ad 0)), (1, .int (f)), (2, .int (x))] := hl
  have hw1 := hw.1
  have hw2 := hw.2.1
  have hp8 := pw_8 hw1
  have hov := ov_lt hw
  have hmo := mo_lt hw
  have hof := of_lt hw
  have hrn := hw.2.2.2.2.2.2.2.2.2.1
  refine lv_aload_n hx hb dX11_row_0 rfl (lv_at hl 0 rfl) ?_
  refine lv_iload_n hx hb dX11_row_1 rfl (lv_at hl 1 rfl) ?_
  refine cr_v (n := 1) (As := [.int (f)]) (rest := []) ⟨hx, hb, hml, hown, hts⟩ (k_X11_isFerry l D cy ad σ T (f) hw) gvX11_184 (by decide +kernel) ⟨Nat.le_of_ble_eq_true rfl, Nat.le_of_ble_eq_true rfl⟩ hK hN hP 0 (mw_c0 cy ad σ T) rfl rfl hl.1 rfl (Nat.le_of_ble_eq_true rfl) dX11_row_2 ⟨Nat.zero_le _, Nat.zero_le _⟩ ?_
  refine lb_if_eq (tgt := 16) hx hb dX11_row_5 (by decide) (fun c5 => ?_) (fun c5 => ?_)
  · refine lv_bipush (v := -2) hx hb dX11_row_16 (by decide) ?_
    exact rw_i hx hb hr hlocks hS T (by first | (rw [a_row, c5]; rfl; done) | (rw [a_row, c5, c13]; rfl)) (by show va_P D vwCl (mw cy ad (n_row σ f x) T) _; rw [n_row, if_neg (by first | (rintro ⟨q, -, -⟩; rw [c5] at q; cases q; done) | (rintro ⟨-, q, -⟩; rw [c13] at q; cases q))]; exact hP) dX11_row_18
  · refine lv_aload_n hx hb dX11_row_8 rfl (lv_at hl 0 rfl) ?_
    refine lv_iload_n hx hb dX11_row_9 rfl (lv_at hl 2 rfl) ?_
    refine cr_v (n := 1) (As := [.int (x)]) (rest := []) ⟨hx, hb, hml, hown, hts⟩ (k_X11_isSet l D cy ad σ T (x) hw) gvX11_204 (by decide +kernel) ⟨Nat.le_of_ble_eq_true rfl, Nat.le_of_ble_eq_true rfl⟩ hK hN hP 0 (mw_c0 cy ad σ T) rfl rfl hl.1 rfl (Nat.le_of_ble_eq_true rfl) dX11_row_10 ⟨Nat.zero_le _, Nat.zero_le _⟩ ?_
    refine lb_if_ne (tgt := 19) hx hb dX11_row_13 (by decide) (fun c13 => ?_) (fun c13 => ?_)
    · obtain ⟨f0, hf, rfl⟩ := ix_of c5 (by omega)
      have hl : lv_has ls 3 [(0, .ref (ad 0)), (1, .int (nI (f0))), (2, .int (x))] := hl
      obtain ⟨x0, hx0, rfl⟩ := ix_of c13 (by omega)
      have hl : lv_has ls 3 [(0, .ref (ad 0)), (1, .int (nI (f0))), (2, .int (nI (x0)))] := hl
      refine lv_aload_n hx hb dX11_row_19 rfl (lv_at hl 0 rfl) ?_
      refine va_get (D := D) (ci := 10) (v := .int (nI (s_rn σ))) (C := RX11) (T := TX11) (N := 31) hx hb hts ni11 hown hK hP 0 (mw_c0 cy ad σ T) rfl 24 (by decide) (hts _ flX11_170) (fun _ h => h) rfl dX11_row_20 ?_
      refine lv_bipush (v := nI 12) hx hb dX11_row_23 (by decide) ?_
      refine ln_icmp_ne (tgt := 31) hx hb dX11_row_25 (by decide) (by omega) (by omega) (fun c25 => ?_) (fun c25 => ?_)
      · refine lv_aload_n hx hb dX11_row_31 rfl (lv_at hl 0 rfl) ?_
        refine va_get (D := D) (ci := 10) (v := .ref (ad 8)) (C := RX11) (T := TX11) (N := 31) hx hb hts ni11 hown hK hP 0 (mw_c0 cy ad σ T) rfl 25 (by decide) (hts _ flX11_32) (fun _ h => h) rfl dX11_row_32 ?_
        refine lv_iconst (v := nI 2) hx hb dX11_row_35 (by decide) ?_
        refine lv_aload_n hx hb dX11_row_36 rfl (lv_at hl 0 rfl) ?_
        refine va_get (D := D) (ci := 10) (v := .int (nI (s_rn σ))) (C := RX11) (T := TX11) (N := 31) hx hb hts ni11 hown hK hP 0 (mw_c0 cy ad σ T) rfl 24 (by decide) (hts _ flX11_170) (fun _ h => h) rfl dX11_row_37 ?_
        refine ln_imul hx hb dX11_row_40 ?_
        refine lv_iload_n hx hb dX11_row_41 rfl (lv_at hl 1 rfl) ?_
        refine ln_iast hx hb hK hP hD hS 8 (mw_c8 cy ad σ T) (by omega) (by decide) (mp_8 cy ad σ T (2 * (s_rn σ)) f0) dX11_row_42 (fun H locs hP hD hS => ?_)
        refine lv_aload_n hx hb dX11_row_43 rfl (lv_at hl 0 rfl) ?_
        refine va_get (D := D) (ci := 10) (v := .ref (ad 8)) (C := RX11) (T := TX11) (N := 31) hx hb hts ni11 hown hK hP 0 (mw_c0 cy ad (su_ro σ (updN (s_ro σ) (2 * (s_rn σ)) f0)) T) rfl 25 (by decide) (hts _ flX11_32) (fun _ h => h) rfl dX11_row_44 ?_
        refine lv_iconst (v := nI 2) hx hb dX11_row_47 (by decide) ?_
        refine lv_aload_n hx hb dX11_row_48 rfl (lv_at hl 0 rfl) ?_
        refine va_get (D := D) (ci := 10) (v := .int (nI (s_rn σ))) (C := RX11) (T := TX11) (N := 31) hx hb hts ni11 hown hK hP 0 (mw_c0 cy ad (su_ro σ (updN (s_ro σ) (2 * (s_rn σ)) f0)) T) rfl 24 (by decide) (hts _ flX11_170) (fun _ h => h) rfl dX11_row_49 ?_
        refine ln_imul hx hb dX11_row_52 ?_
        refine lv_iconst (v := nI 1) hx hb dX11_row_53 (by decide) ?_
        refine ln_iadd hx hb dX11_row_54 ?_
        refine lv_iload_n hx hb dX11_row_55 rfl (lv_at hl 2 rfl) ?_
        refine ln_iast hx hb hK hP hD hS 8 (mw_c8 cy ad (su_ro σ (updN (s_ro σ) (2 * (s_rn σ)) f0)) T) (by omega) (by decide) ((mp_8 cy ad (su_ro σ (updN (s_ro σ) (2 * (s_rn σ)) f0)) T ((2 * (s_rn σ)) + 1) x0).trans (congrArg (fun z => mw cy ad z T) (by rw [sc_ro]))) dX11_row_56 (fun H locs hP hD hS => ?_)
        refine lv_aload_n hx hb dX11_row_57 rfl (lv_at hl 0 rfl) ?_
        refine lv_dup hx hb dX11_row_58 rfl ?_
        refine va_get (D := D) (ci := 10) (v := .int (nI (s_rn σ))) (C := RX11) (T := TX11) (N := 31) hx hb hts ni11 hown hK hP 0 (mw_c0 cy ad (su_ro σ (updN (updN (s_ro σ) (2 * (s_rn σ)) f0) ((2 * (s_rn σ)) + 1) x0)) T) rfl 24 (by decide) (hts _ flX11_170) (fun _ h => h) rfl dX11_row_59 ?_
        refine lv_iconst (v := nI 1) hx hb dX11_row_62 (by decide) ?_
        refine ln_iadd hx hb dX11_row_63 ?_
        refine ln_put (ci := 10) (C := RX11) (T := TX11) (N := 31) (ty := .int) (v := .int (nI ((s_rn σ) + 1))) hx hb hts ni11 tyX11 tyX11_ok nmX11 hown hK hP hD hS 0 (mw_c0 cy ad (su_ro σ (updN (updN (s_ro σ) (2 * (s_rn σ)) f0) ((2 * (s_rn σ)) + 1) x0)) T) rfl 24 (by decide) (hts _ flX11_170) (fun _ h => h) rfl (by decide +kernel) rfl rfl (Nat.le_of_ble_eq_true rfl) (mp_0_24 cy ad (su_ro σ (updN (updN (s_ro σ) (2 * (s_rn σ)) f0) ((2 * (s_rn σ)) + 1) x0)) T ((s_rn σ) + 1)) dX11_row_64 (fun H locs hP hD hS => ?_)
        refine lv_aload_n hx hb dX11_row_67 rfl (lv_at hl 0 rfl) ?_
        refine va_get (D := D) (ci := 10) (v := .int (nI (((s_rn σ) + 1)))) (C := RX11) (T := TX11) (N := 31) hx hb hts ni11 hown hK hP 0 (mw_c0 cy ad (su_rn (su_ro σ (updN (updN (s_ro σ) (2 * (s_rn σ)) f0) ((2 * (s_rn σ)) + 1) x0)) ((s_rn σ) + 1)) T) rfl 24 (by decide) (hts _ flX11_170) (fun _ h => h) rfl dX11_row_68 ?_
        exact rw_i hx hb hr hlocks hS T (by rw [a_row, c5, c13, if_neg (by decide), if_neg (by omega)]) (by show va_P D vwCl (mw cy ad (n_row σ (nI f0) (nI x0)) T) _; rw [n_row, tk_nI (k := f0) (by omega), tk_nI (k := x0) (by omega), if_pos ⟨c5, c13, by omega⟩]; exact hP) dX11_row_71
      · refine lv_bipush (v := -5) hx hb dX11_row_28 (by decide) ?_
        exact rw_i hx hb hr hlocks hS T (by rw [a_row, c5, c13, if_neg (by decide), if_pos (by omega)]) (by show va_P D vwCl (mw cy ad (n_row σ (nI f0) (nI x0)) T) _; rw [n_row, if_neg (by omega)]; exact hP) dX11_row_30
    · refine lv_bipush (v := -2) hx hb dX11_row_16 (by decide) ?_
      exact rw_i hx hb hr hlocks hS T (by first | (rw [a_row, c5]; rfl; done) | (rw [a_row, c5, c13]; rfl)) (by show va_P D vwCl (mw cy ad (n_row σ f x) T) _; rw [n_row, if_neg (by first | (rintro ⟨q, -, -⟩; rw [c5] at q; cases q; done) | (rintro ⟨-, q, -⟩; rw [c13] at q; cases q))]; exact hP) dX11_row_18
set_option maxHeartbeats 4000000 in
set_option maxRecDepth 100000 in
theorem k_X11_count (l : Launch) (D : va_G) (cy : Nat → ClassId) (ad : Nat → Nat) (σ : Sg) (T : Ms) (w : Int32)  : MR l yX11_count qX11_count 0 [.ref (ad 0), .int (w)] D cy (mw cy ad σ T) (a_count σ w) := by
  refine Met.ofW (cc := cX11_count) (maxL := 2) (ret := (some .int)) (by decide) rfl ?_
  intro p e s m args below meth c s₁ B hml hv
  obtain ⟨rfl, hP, hK, hN⟩ := hv
  have hx := B.exec
  have hb := B.bytes
  have hr := B.returns
  have hlocks := B.notSynchronized
  have hts : ∀ cq ∈ tg, cq.before ([.ref (ad 0), .int (w)] : List Value).toArray s = true := fun cq h => atoms_spec (ws := qX11_count) B.pre cq (List.mem_cons_of_mem _ h)
  have hown : s.vm.findClass RX11 = some m.cls := findClass_of_methodNamed B.named
  have hl := lv_entry ([.ref (ad 0), .int (w)]) (n := 2) (Nat.le_of_ble_eq_true rfl)
  rw [lg_entry_eq]
  generalize (lg_sl ([.ref (ad 0), .int (w)]) ++ List.replicate (2 - (lg_sl ([.ref (ad 0), .int (w)])).length) Slot.unset).toArray = ls at hl ⊢
  have hl : lv_has ls 2 [(0, .ref (ad 0)), (1, .int (w))] := hl
  refine lv_iload_n hx hb dX11_count_0 rfl (lv_at hl 1 rfl) ?_
  rcases sw_in (n := 8) (by decide) w with ⟨j, hjsw, hsw⟩ | hout
  · rcases (show j = 0 ∨ j = 1 ∨ j = 2 ∨ j = 3 ∨ j = 4 ∨ j = 5 ∨ j = 6 ∨ j = 7 by omega) with rfl | rfl | rfl | rfl | rfl | rfl | rfl | rfl
    · subst hsw
      have hl : lv_has ls 2 [(0, .ref (ad 0)), (1, .int (nI (0)))] := hl
      refine lv_tableIn (tgt := 48) hx hb dX11_count_1 (by decide) (by decide) rfl (by decide) ?_
      refine lv_aload_n hx hb dX11_count_48 rfl (lv_at hl 0 rfl) ?_
      refine va_get (D := D) (ci := 10) (v := .int (nI (s_n σ))) (C := RX11) (T := TX11) (N := 31) hx hb hts ni11 hown hK hP 0 (mw_c0 cy ad σ T) rfl 0 (by decide) (hts _ flX11_47) (fun _ h => h) rfl dX11_count_49 ?_
      exact rt_i hx hb hr hlocks (by first | rfl | (rw [a_count, hout]; rfl)) dX11_count_52
    · subst hsw
      have hl : lv_has ls 2 [(0, .ref (ad 0)), (1, .int (nI (1)))] := hl
      refine lv_tableIn (tgt := 53) hx hb dX11_count_1 (by decide) (by decide) rfl (by decide) ?_
      refine lv_aload_n hx hb dX11_count_53 rfl (lv_at hl 0 rfl) ?_
      refine va_get (D := D) (ci := 10) (v := .int (nI (s_m σ))) (C := RX11) (T := TX11) (N := 31) hx hb hts ni11 hown hK hP 0 (mw_c0 cy ad σ T) rfl 2 (by decide) (hts _ flX11_55) (fun _ h => h) rfl dX11_count_54 ?_
      exact rt_i hx hb hr hlocks (by first | rfl | (rw [a_count, hout]; rfl)) dX11_count_57
    · subst hsw
      have hl : lv_has ls 2 [(0, .ref (ad 0)), (1, .int (nI (2)))] := hl
      refine lv_tableIn (tgt := 58) hx hb dX11_count_1 (by decide) (by decide) rfl (by decide) ?_
      refine lv_aload_n hx hb dX11_count_58 rfl (lv_at hl 0 rfl) ?_
      refine va_get (D := D) (ci := 10) (v := .int (nI (s_ov σ))) (C := RX11) (T := TX11) (N := 31) hx hb hts ni11 hown hK hP 0 (mw_c0 cy ad σ T) rfl 17 (by decide) (hts _ flX11_155) (fun _ h => h) rfl dX11_count_59 ?_
      exact rt_i hx hb hr hlocks (by first | rfl | (rw [a_count, hout]; rfl)) dX11_count_62
    · subst hsw
      have hl : lv_has ls 2 [(0, .ref (ad 0)), (1, .int (nI (3)))] := hl
      refine lv_tableIn (tgt := 63) hx hb dX11_count_1 (by decide) (by decide) rfl (by decide) ?_
      refine lv_aload_n hx hb dX11_count_63 rfl (lv_at hl 0 rfl) ?_
      refine va_get (D := D) (ci := 10) (v := .int (nI (s_mo σ))) (C := RX11) (T := TX11) (N := 31) hx hb hts ni11 hown hK hP 0 (mw_c0 cy ad σ T) rfl 18 (by decide) (hts _ flX11_158) (fun _ h => h) rfl dX11_count_64 ?_
      exact rt_i hx hb hr hlocks (by first | rfl | (rw [a_count, hout]; rfl)) dX11_count_67
    · subst hsw
      have hl : lv_has ls 2 [(0, .ref (ad 0)), (1, .int (nI (4)))] := hl
      refine lv_tableIn (tgt := 68) hx hb dX11_count_1 (by decide) (by decide) rfl (by decide) ?_
      refine lv_aload_n hx hb dX11_count_68 rfl (lv_at hl 0 rfl) ?_
      refine va_get (D := D) (ci := 10) (v := .int (nI (s_cr σ))) (C := RX11) (T := TX11) (N := 31) hx hb hts ni11 hown hK hP 0 (mw_c0 cy ad σ T) rfl 21 (by decide) (hts _ flX11_167) (fun _ h => h) rfl dX11_count_69 ?_
      exact rt_i hx hb hr hlocks (by first | rfl | (rw [a_count, hout]; rfl)) dX11_count_72
    · subst hsw
      have hl : lv_has ls 2 [(0, .ref (ad 0)), (1, .int (nI (5)))] := hl
      refine lv_tableIn (tgt := 73) hx hb dX11_count_1 (by decide) (by decide) rfl (by decide) ?_
      refine lv_aload_n hx hb dX11_count_73 rfl (lv_at hl 0 rfl) ?_
      refine va_get (D := D) (ci := 10) (v := .int (bI (s_la σ))) (C := RX11) (T := TX11) (N := 31) hx hb hts ni11 hown hK hP 0 (mw_c0 cy ad σ T) rfl 20 (by decide) (hts _ flX11_164) (fun _ h => h) rfl dX11_count_74 ?_
      exact rt_i hx hb hr hlocks (by first | rfl | (rw [a_count, hout]; rfl)) dX11_count_77
    · subst hsw
      have hl : lv_has ls 2 [(0, .ref (ad 0)), (1, .int (nI (6)))] := hl
      refine lv_tableIn (tgt := 78) hx hb dX11_count_1 (by decide) (by decide) rfl (by decide) ?_
      refine lv_aload_n hx hb dX11_count_78 rfl (lv_at hl 0 rfl) ?_
      refine va_get (D := D) (ci := 10) (v := .int (nI (s_rn σ))) (C := RX11) (T := TX11) (N := 31) hx hb hts ni11 hown hK hP 0 (mw_c0 cy ad σ T) rfl 24 (by decide) (hts _ flX11_170) (fun _ h => h) rfl dX11_count_79 ?_
      exact rt_i hx hb hr hlocks (by first | rfl | (rw [a_count, hout]; rfl)) dX11_count_82
    · subst hsw
      have hl : lv_has ls 2 [(0, .ref (ad 0)), (1, .int (nI (7)))] := hl
      refine lv_tableIn (tgt := 83) hx hb dX11_count_1 (by decide) (by decide) rfl (by decide) ?_
      refine lv_aload_n hx hb dX11_count_83 rfl (lv_at hl 0 rfl) ?_
      refine va_get (D := D) (ci := 10) (v := .int (nI (s_ln σ))) (C := RX11) (T := TX11) (N := 31) hx hb hts ni11 hown hK hP 0 (mw_c0 cy ad σ T) rfl 4 (by decide) (hts _ flX11_58) (fun _ h => h) rfl dX11_count_84 ?_
      exact rt_i hx hb hr hlocks (by first | rfl | (rw [a_count, hout]; rfl)) dX11_count_87
  · refine lv_tableOut (tgt := 88) hx hb dX11_count_1 (sw_out (n := 7) (by decide) hout (by decide)) (by decide) ?_
    refine lv_bipush (v := -3) hx hb dX11_count_88 (by decide) ?_
    exact rt_i hx hb hr hlocks (by first | rfl | (rw [a_count, hout]; rfl)) dX11_count_90
set_option maxHeartbeats 4000000 in
set_option maxRecDepth 100000 in
theorem k_X11_thing (l : Launch) (D : va_G) (cy : Nat → ClassId) (ad : Nat → Nat) (σ : Sg) (T : Ms) (t w : Int32) (hw : wfS σ) : MR l yX11_thing qX11_thing 2 [.ref (ad 0), .int (t), .int (w)] D cy (mw cy ad σ T) (a_thing σ t w) := by
  refine Met.ofW (cc := cX11_thing) (maxL := 3) (ret := (some .int)) (by decide) rfl ?_
  intro p e s m args below meth c s₁ B hml hv
  obtain ⟨rfl, hP, hK, hN⟩ := hv
  have hx := B.exec
  have hb := B.bytes
  have hr := B.returns
  have hlocks := B.notSynchronized
  have hts : ∀ cq ∈ tg, cq.before ([.ref (ad 0), .int (t), .int (w)] : List Value).toArray s = true := fun cq h => atoms_spec (ws := qX11_thing) B.pre cq (List.mem_cons_of_mem _ h)
  have hown : s.vm.findClass RX11 = some m.cls := findClass_of_methodNamed B.named
  have hl := lv_entry ([.ref (ad 0), .int (t), .int (w)]) (n := 3) (Nat.le_of_ble_eq_true rfl)
  rw [lg_entry_eq]
  generalize (lg_sl ([.ref (ad 0), .int (t), .int (w)]) ++ List.replicate (3 - (lg_sl ([.ref (ad 0), .int (t), .int (w)])).length) Slot.unset).toArray = ls at hl ⊢
  have hl : lv_has ls 3 [(0, .ref (ad 0)), (1, .int (t)), (2, .int (w))] := hl
  have hw1 := hw.1
  have hw2 := hw.2.1
  have hp8 := pw_8 hw1
  have hov := ov_lt hw
  have hmo := mo_lt hw
  have hof := of_lt hw
  refine lv_aload_n hx hb dX11_thing_0 rfl (lv_at hl 0 rfl) ?_
  refine lv_iload_n hx hb dX11_thing_1 rfl (lv_at hl 1 rfl) ?_
  refine cr_v (n := 1) (As := [.int (t)]) (rest := []) ⟨hx, hb, hml, hown, hts⟩ (k_X11_isThing l D cy ad σ T (t) hw) gvX11_177 (by decide +kernel) ⟨Nat.le_of_ble_eq_true rfl, Nat.le_of_ble_eq_true rfl⟩ hK hN hP 0 (mw_c0 cy ad σ T) rfl rfl hl.1 rfl (Nat.le_of_ble_eq_true rfl) dX11_thing_2 ⟨Nat.zero_le _, Nat.zero_le _⟩ ?_
  refine lb_if_ne (tgt := 11) hx hb dX11_thing_5 (by decide) (fun c5 => ?_) (fun c5 => ?_)
  · obtain ⟨t0, ht, rfl⟩ := ix_of c5 (by omega)
    have hl : lv_has ls 3 [(0, .ref (ad 0)), (1, .int (nI (t0))), (2, .int (w))] := hl
    have hk := hw.2.2.1 t0 (by omega)
    refine lv_iload_n hx hb dX11_thing_11 rfl (lv_at hl 2 rfl) ?_
    rcases sw_in (n := 8) (by decide) w with ⟨j, hjsw, hsw⟩ | hout
    · rcases (show j = 0 ∨ j = 1 ∨ j = 2 ∨ j = 3 ∨ j = 4 ∨ j = 5 ∨ j = 6 ∨ j = 7 by omega) with rfl | rfl | rfl | rfl | rfl | rfl | rfl | rfl
      · subst hsw
        have hl : lv_has ls 3 [(0, .ref (ad 0)), (1, .int (nI (t0))), (2, .int (nI (0)))] := hl
        refine lv_tableIn (tgt := 60) hx hb dX11_thing_12 (by decide) (by decide) rfl (by decide) ?_
        refine lv_aload_n hx hb dX11_thing_60 rfl (lv_at hl 0 rfl) ?_
        refine va_get (D := D) (ci := 10) (v := .ref (ad 1)) (C := RX11) (T := TX11) (N := 31) hx hb hts ni11 hown hK hP 0 (mw_c0 cy ad σ T) rfl 1 (by decide) (hts _ flX11_7) (fun _ h => h) rfl dX11_thing_61 ?_
        refine lv_bipush (v := nI 6) hx hb dX11_thing_64 (by decide) ?_
        refine lv_iload_n hx hb dX11_thing_66 rfl (lv_at hl 1 rfl) ?_
        refine ln_imul hx hb dX11_thing_67 ?_
        refine lv_iload_n hx hb dX11_thing_68 rfl (lv_at hl 2 rfl) ?_
        refine ln_iadd hx hb dX11_thing_69 ?_
        refine ln_iald (v := (nI (s_th σ ((6 * t0) + 0)))) hx hb hK hP 1 (mw_c1 cy ad σ T) (by omega) (by decide) rfl dX11_thing_70 ?_
        exact rt_i hx hb hr hlocks (by rw [a_thing, c5, tk_nI (k := t0) (by omega)]; rfl) dX11_thing_71
      · subst hsw
        have hl : lv_has ls 3 [(0, .ref (ad 0)), (1, .int (nI (t0))), (2, .int (nI (1)))] := hl
        refine lv_tableIn (tgt := 60) hx hb dX11_thing_12 (by decide) (by decide) rfl (by decide) ?_
        refine lv_aload_n hx hb dX11_thing_60 rfl (lv_at hl 0 rfl) ?_
        refine va_get (D := D) (ci := 10) (v := .ref (ad 1)) (C := RX11) (T := TX11) (N := 31) hx hb hts ni11 hown hK hP 0 (mw_c0 cy ad σ T) rfl 1 (by decide) (hts _ flX11_7) (fun _ h => h) rfl dX11_thing_61 ?_
        refine lv_bipush (v := nI 6) hx hb dX11_thing_64 (by decide) ?_
        refine lv_iload_n hx hb dX11_thing_66 rfl (lv_at hl 1 rfl) ?_
        refine ln_imul hx hb dX11_thing_67 ?_
        refine lv_iload_n hx hb dX11_thing_68 rfl (lv_at hl 2 rfl) ?_
        refine ln_iadd hx hb dX11_thing_69 ?_
        refine ln_iald (v := (nI (s_th σ ((6 * t0) + 1)))) hx hb hK hP 1 (mw_c1 cy ad σ T) (by omega) (by decide) rfl dX11_thing_70 ?_
        exact rt_i hx hb hr hlocks (by rw [a_thing, c5, tk_nI (k := t0) (by omega)]; rfl) dX11_thing_71
      · subst hsw
        have hl : lv_has ls 3 [(0, .ref (ad 0)), (1, .int (nI (t0))), (2, .int (nI (2)))] := hl
        refine lv_tableIn (tgt := 72) hx hb dX11_thing_12 (by decide) (by decide) rfl (by decide) ?_
        refine lv_aload_n hx hb dX11_thing_72 rfl (lv_at hl 0 rfl) ?_
        refine va_get (D := D) (ci := 10) (v := .int (nI (s_ov σ))) (C := RX11) (T := TX11) (N := 31) hx hb hts ni11 hown hK hP 0 (mw_c0 cy ad σ T) rfl 17 (by decide) (hts _ flX11_155) (fun _ h => h) rfl dX11_thing_73 ?_
        refine lv_iload_n hx hb dX11_thing_76 rfl (lv_at hl 1 rfl) ?_
        refine ln_ishr hx hb dX11_thing_77 (by omega) (by omega) ?_
        refine lv_iconst (v := nI 1) hx hb dX11_thing_78 (by decide) ?_
        refine ln_iand hx hb dX11_thing_79 ?_
        refine ln_nat (show ((s_ov σ) / 2 ^ t0) &&& 1 = (Nat.testBit (s_ov σ) t0).toNat from bit_and _ _) ?_
        exact rt_i hx hb hr hlocks (by rw [a_thing, c5, tk_nI (k := t0) (by omega)]; rfl) dX11_thing_80
      · subst hsw
        have hl : lv_has ls 3 [(0, .ref (ad 0)), (1, .int (nI (t0))), (2, .int (nI (3)))] := hl
        refine lv_tableIn (tgt := 81) hx hb dX11_thing_12 (by decide) (by decide) rfl (by decide) ?_
        refine lv_aload_n hx hb dX11_thing_81 rfl (lv_at hl 0 rfl) ?_
        refine va_get (D := D) (ci := 10) (v := .ref (ad 1)) (C := RX11) (T := TX11) (N := 31) hx hb hts ni11 hown hK hP 0 (mw_c0 cy ad σ T) rfl 1 (by decide) (hts _ flX11_7) (fun _ h => h) rfl dX11_thing_82 ?_
        refine lv_bipush (v := nI 6) hx hb dX11_thing_85 (by decide) ?_
        refine lv_iload_n hx hb dX11_thing_87 rfl (lv_at hl 1 rfl) ?_
        refine ln_imul hx hb dX11_thing_88 ?_
        refine lv_iconst (v := nI 3) hx hb dX11_thing_89 (by decide) ?_
        refine ln_iadd hx hb dX11_thing_90 ?_
        refine ln_iald (v := (nI (s_th σ ((6 * t0) + 3)))) hx hb hK hP 1 (mw_c1 cy ad σ T) (by omega) (by decide) rfl dX11_thing_91 ?_
        exact rt_i hx hb hr hlocks (by rw [a_thing, c5, tk_nI (k := t0) (by omega)]; rfl) dX11_thing_92
      · subst hsw
        have hl : lv_has ls 3 [(0, .ref (ad 0)), (1, .int (nI (t0))), (2, .int (nI (4)))] := hl
        refine lv_tableIn (tgt := 93) hx hb dX11_thing_12 (by decide) (by decide) rfl (by decide) ?_
        refine lv_aload_n hx hb dX11_thing_93 rfl (lv_at hl 0 rfl) ?_
        refine va_get (D := D) (ci := 10) (v := .ref (ad 1)) (C := RX11) (T := TX11) (N := 31) hx hb hts ni11 hown hK hP 0 (mw_c0 cy ad σ T) rfl 1 (by decide) (hts _ flX11_7) (fun _ h => h) rfl dX11_thing_94 ?_
        refine lv_bipush (v := nI 6) hx hb dX11_thing_97 (by decide) ?_
        refine lv_iload_n hx hb dX11_thing_99 rfl (lv_at hl 1 rfl) ?_
        refine ln_imul hx hb dX11_thing_100 ?_
        refine ln_iald (v := (nI (s_th σ (6 * t0)))) hx hb hK hP 1 (mw_c1 cy ad σ T) (by omega) (by decide) rfl dX11_thing_101 ?_
        refine lv_iconst (v := nI 2) hx hb dX11_thing_102 (by decide) ?_
        refine ln_icmp_ge (tgt := 121) hx hb dX11_thing_103 (by decide) (by omega) (by omega) (fun c103 => ?_) (fun c103 => ?_)
        · refine lv_iconst (v := nI 0) hx hb dX11_thing_121 (by decide) ?_
          exact rt_i hx hb hr hlocks (by rw [a_thing, c5, tk_nI (k := t0) (by omega)]; show _ = bI (decide (s_th σ (6 * t0) < 2) && !(s_of σ).testBit t0); first | (rw [decide_eq_false (by omega)]; rfl; done) | (rw [decide_eq_true (by omega), c114]; rfl)) dX11_thing_122
        · refine lv_aload_n hx hb dX11_thing_106 rfl (lv_at hl 0 rfl) ?_
          refine va_get (D := D) (ci := 10) (v := .int (nI (s_of σ))) (C := RX11) (T := TX11) (N := 31) hx hb hts ni11 hown hK hP 0 (mw_c0 cy ad σ T) rfl 19 (by decide) (hts _ flX11_161) (fun _ h => h) rfl dX11_thing_107 ?_
          refine lv_iload_n hx hb dX11_thing_110 rfl (lv_at hl 1 rfl) ?_
          refine cr_s (n := 2) (As := [.int (nI (s_of σ)), .int (nI (t0))]) (rest := []) ⟨hx, hb, hml, hown, hts⟩ (k_X11_has l (s_of σ) t0 (by omega) (by omega)) gsX11_173 (by decide +kernel) ⟨Nat.le_of_ble_eq_true rfl, Nat.le_of_ble_eq_true rfl⟩ rfl hl.1 rfl (Nat.le_of_ble_eq_true rfl) dX11_thing_111 ⟨Nat.zero_le _, Nat.zero_le _⟩ ?_
          refine lb_if_ne (tgt := 121) hx hb dX11_thing_114 (by decide) (fun c114 => ?_) (fun c114 => ?_)
          · refine lv_iconst (v := nI 0) hx hb dX11_thing_121 (by decide) ?_
            exact rt_i hx hb hr hlocks (by rw [a_thing, c5, tk_nI (k := t0) (by omega)]; show _ = bI (decide (s_th σ (6 * t0) < 2) && !(s_of σ).testBit t0); first | (rw [decide_eq_false (by omega)]; rfl; done) | (rw [decide_eq_true (by omega), c114]; rfl)) dX11_thing_122
          · refine lv_iconst (v := nI 1) hx hb dX11_thing_117 (by decide) ?_
            refine lv_goto (tgt := 122) hx hb dX11_thing_118 (by decide) ?_
            exact rt_i hx hb hr hlocks (by rw [a_thing, c5, tk_nI (k := t0) (by omega)]; show _ = bI (decide (s_th σ (6 * t0) < 2) && !(s_of σ).testBit t0); first | (rw [decide_eq_false (by omega)]; rfl; done) | (rw [decide_eq_true (by omega), c114]; rfl)) dX11_thing_122
      · subst hsw
        have hl : lv_has ls 3 [(0, .ref (ad 0)), (1, .int (nI (t0))), (2, .int (nI (5)))] := hl
        refine lv_tableIn (tgt := 123) hx hb dX11_thing_12 (by decide) (by decide) rfl (by decide) ?_
        refine lv_aload_n hx hb dX11_thing_123 rfl (lv_at hl 0 rfl) ?_
        refine va_get (D := D) (ci := 10) (v := .ref (ad 1)) (C := RX11) (T := TX11) (N := 31) hx hb hts ni11 hown hK hP 0 (mw_c0 cy ad σ T) rfl 1 (by decide) (hts _ flX11_7) (fun _ h => h) rfl dX11_thing_124 ?_
        refine lv_bipush (v := nI 6) hx hb dX11_thing_127 (by decide) ?_
        refine lv_iload_n hx hb dX11_thing_129 rfl (lv_at hl 1 rfl) ?_
        refine ln_imul hx hb dX11_thing_130 ?_
        refine lv_iload_n hx hb dX11_thing_131 rfl (lv_at hl 2 rfl) ?_
        refine ln_iadd hx hb dX11_thing_132 ?_
        refine lv_iconst (v := nI 1) hx hb dX11_thing_133 (by decide) ?_
        refine ln_isub hx hb dX11_thing_134 (by omega) ?_
        refine ln_iald (v := (nI (s_th σ (((6 * t0) + 5) - 1)))) hx hb hK hP 1 (mw_c1 cy ad σ T) (by omega) (by decide) rfl dX11_thing_135 ?_
        exact rt_i hx hb hr hlocks (by rw [a_thing, c5, tk_nI (k := t0) (by omega)]; rfl) dX11_thing_136
      · subst hsw
        have hl : lv_has ls 3 [(0, .ref (ad 0)), (1, .int (nI (t0))), (2, .int (nI (6)))] := hl
        refine lv_tableIn (tgt := 123) hx hb dX11_thing_12 (by decide) (by decide) rfl (by decide) ?_
        refine lv_aload_n hx hb dX11_thing_123 rfl (lv_at hl 0 rfl) ?_
        refine va_get (D := D) (ci := 10) (v := .ref (ad 1)) (C := RX11) (T := TX11) (N := 31) hx hb hts ni11 hown hK hP 0 (mw_c0 cy ad σ T) rfl 1 (by decide) (hts _ flX11_7) (fun _ h => h) rfl dX11_thing_124 ?_
        refine lv_bipush (v := nI 6) hx hb dX11_thing_127 (by decide) ?_
        refine lv_iload_n hx hb dX11_thing_129 rfl (lv_at hl 1 rfl) ?_
        refine ln_imul hx hb dX11_thing_130 ?_
        refine lv_iload_n hx hb dX11_thing_131 rfl (lv_at hl 2 rfl) ?_
        refine ln_iadd hx hb dX11_thing_132 ?_
        refine lv_iconst (v := nI 1) hx hb dX11_thing_133 (by decide) ?_
        refine ln_isub hx hb dX11_thing_134 (by omega) ?_
        refine ln_iald (v := (nI (s_th σ (((6 * t0) + 6) - 1)))) hx hb hK hP 1 (mw_c1 cy ad σ T) (by omega) (by decide) rfl dX11_thing_135 ?_
        exact rt_i hx hb hr hlocks (by rw [a_thing, c5, tk_nI (k := t0) (by omega)]; rfl) dX11_thing_136
      · subst hsw
        have hl : lv_has ls 3 [(0, .ref (ad 0)), (1, .int (nI (t0))), (2, .int (nI (7)))] := hl
        refine lv_tableIn (tgt := 137) hx hb dX11_thing_12 (by decide) (by decide) rfl (by decide) ?_
        refine lv_aload_n hx hb dX11_thing_137 rfl (lv_at hl 0 rfl) ?_
        refine lv_iload_n hx hb dX11_thing_138 rfl (lv_at hl 1 rfl) ?_
        refine lv_aload_n hx hb dX11_thing_139 rfl (lv_at hl 0 rfl) ?_
        refine va_get (D := D) (ci := 10) (v := .int (nI (s_of σ))) (C := RX11) (T := TX11) (N := 31) hx hb hts ni11 hown hK hP 0 (mw_c0 cy ad σ T) rfl 19 (by decide) (hts _ flX11_161) (fun _ h => h) rfl dX11_thing_140 ?_
        refine cr_v (n := 2) (As := [.int (nI (t0)), .int (nI (s_of σ))]) (rest := []) ⟨hx, hb, hml, hown, hts⟩ (k_X11_poundsOf l D cy ad σ T t0 (s_of σ) (by omega) (by omega)) gvX11_180 (by decide +kernel) ⟨Nat.le_of_ble_eq_true rfl, Nat.le_of_ble_eq_true rfl⟩ hK hN hP 0 (mw_c0 cy ad σ T) rfl rfl hl.1 rfl (Nat.le_of_ble_eq_true rfl) dX11_thing_143 ⟨Nat.zero_le _, Nat.zero_le _⟩ ?_
        exact rt_i hx hb hr hlocks (by rw [a_thing, c5, tk_nI (k := t0) (by omega)]; rfl) dX11_thing_146
    · refine lv_tableOut (tgt := 147) hx hb dX11_thing_12 (sw_out (n := 7) (by decide) hout (by decide)) (by decide) ?_
      refine lv_bipush (v := -3) hx hb dX11_thing_147 (by decide) ?_
      exact rt_i hx hb hr hlocks (by rw [a_thing, c5, hout]; rfl) dX11_thing_149
  · refine lv_bipush (v := -2) hx hb dX11_thing_8 (by decide) ?_
    exact rt_i hx hb hr hlocks (by rw [a_thing, c5]; rfl) dX11_thing_10
set_option maxHeartbeats 4000000 in
set_option maxRecDepth 100000 in
theorem k_X11_ferry (l : Launch) (D : va_G) (cy : Nat → ClassId) (ad : Nat → Nat) (σ : Sg) (T : Ms) (f w : Int32) (hw : wfS σ) : MR l yX11_ferry qX11_ferry 2 [.ref (ad 0), .int (f), .int (w)] D cy (mw cy ad σ T) (a_ferry σ f w) := by
  refine Met.ofW (cc := cX11_ferry) (maxL := 3) (ret := (some .int)) (by decide) rfl ?_
  intro p e s m args below meth c s₁ B hml hv
  obtain ⟨rfl, hP, hK, hN⟩ := hv
  have hx := B.exec
  have hb := B.bytes
  have hr := B.returns
  have hlocks := B.notSynchronized
  have hts : ∀ cq ∈ tg, cq.before ([.ref (ad 0), .int (f), .int (w)] : List Value).toArray s = true := fun cq h => atoms_spec (ws := qX11_ferry) B.pre cq (List.mem_cons_of_mem _ h)
  have hown : s.vm.findClass RX11 = some m.cls := findClass_of_methodNamed B.named
  have hl := lv_entry ([.ref (ad 0), .int (f), .int (w)]) (n := 3) (Nat.le_of_ble_eq_true rfl)
  rw [lg_entry_eq]
  generalize (lg_sl ([.ref (ad 0), .int (f), .int (w)]) ++ List.replicate (3 - (lg_sl ([.ref (ad 0), .int (f), .int (w)])).length) Slot.unset).toArray = ls at hl ⊢
  have hl : lv_has ls 3 [(0, .ref (ad 0)), (1, .int (f)), (2, .int (w))] := hl
  have hw1 := hw.1
  have hw2 := hw.2.1
  have hp8 := pw_8 hw1
  have hov := ov_lt hw
  have hmo := mo_lt hw
  have hof := of_lt hw
  refine lv_aload_n hx hb dX11_ferry_0 rfl (lv_at hl 0 rfl) ?_
  refine lv_iload_n hx hb dX11_ferry_1 rfl (lv_at hl 1 rfl) ?_
  refine cr_v (n := 1) (As := [.int (f)]) (rest := []) ⟨hx, hb, hml, hown, hts⟩ (k_X11_isFerry l D cy ad σ T (f) hw) gvX11_184 (by decide +kernel) ⟨Nat.le_of_ble_eq_true rfl, Nat.le_of_ble_eq_true rfl⟩ hK hN hP 0 (mw_c0 cy ad σ T) rfl rfl hl.1 rfl (Nat.le_of_ble_eq_true rfl) dX11_ferry_2 ⟨Nat.zero_le _, Nat.zero_le _⟩ ?_
  refine lb_if_ne (tgt := 11) hx hb dX11_ferry_5 (by decide) (fun c5 => ?_) (fun c5 => ?_)
  · obtain ⟨f0, hf, rfl⟩ := ix_of c5 (by omega)
    have hl : lv_has ls 3 [(0, .ref (ad 0)), (1, .int (nI (f0))), (2, .int (w))] := hl
    have hk := hw.2.2.2.1 f0 (by omega)
    refine lv_iload_n hx hb dX11_ferry_11 rfl (lv_at hl 2 rfl) ?_
    rcases sw_in (n := 5) (by decide) w with ⟨j, hjsw, hsw⟩ | hout
    · rcases (show j = 0 ∨ j = 1 ∨ j = 2 ∨ j = 3 ∨ j = 4 by omega) with rfl | rfl | rfl | rfl | rfl
      · subst hsw
        have hl : lv_has ls 3 [(0, .ref (ad 0)), (1, .int (nI (f0))), (2, .int (nI (0)))] := hl
        refine lv_tableIn (tgt := 63) hx hb dX11_ferry_12 (by decide) (by decide) rfl (by decide) ?_
        refine lv_aload_n hx hb dX11_ferry_63 rfl (lv_at hl 0 rfl) ?_
        refine va_get (D := D) (ci := 10) (v := .ref (ad 2)) (C := RX11) (T := TX11) (N := 31) hx hb hts ni11 hown hK hP 0 (mw_c0 cy ad σ T) rfl 3 (by decide) (hts _ flX11_13) (fun _ h => h) rfl dX11_ferry_64 ?_
        refine lv_iconst (v := nI 5) hx hb dX11_ferry_67 (by decide) ?_
        refine lv_iload_n hx hb dX11_ferry_68 rfl (lv_at hl 1 rfl) ?_
        refine ln_imul hx hb dX11_ferry_69 ?_
        refine lv_iload_n hx hb dX11_ferry_70 rfl (lv_at hl 2 rfl) ?_
        refine ln_iadd hx hb dX11_ferry_71 ?_
        refine ln_iald (v := (nI (s_fe σ ((5 * f0) + 0)))) hx hb hK hP 2 (mw_c2 cy ad σ T) (by omega) (by decide) rfl dX11_ferry_72 ?_
        exact rt_i hx hb hr hlocks (by rw [a_ferry, c5, tk_nI (k := f0) (by omega)]; rfl) dX11_ferry_73
      · subst hsw
        have hl : lv_has ls 3 [(0, .ref (ad 0)), (1, .int (nI (f0))), (2, .int (nI (1)))] := hl
        refine lv_tableIn (tgt := 48) hx hb dX11_ferry_12 (by decide) (by decide) rfl (by decide) ?_
        refine lv_aload_n hx hb dX11_ferry_48 rfl (lv_at hl 0 rfl) ?_
        refine lv_iload_n hx hb dX11_ferry_49 rfl (lv_at hl 1 rfl) ?_
        refine cr_v (n := 1) (As := [.int (nI (f0))]) (rest := []) ⟨hx, hb, hml, hown, hts⟩ (k_X11_numberOf l D cy ad σ T f0 hw (by omega)) gvX11_187 (by decide +kernel) ⟨Nat.le_of_ble_eq_true rfl, Nat.le_of_ble_eq_true rfl⟩ hK hN hP 0 (mw_c0 cy ad σ T) rfl rfl hl.1 rfl (Nat.le_of_ble_eq_true rfl) dX11_ferry_50 ⟨Nat.zero_le _, Nat.zero_le _⟩ ?_
        exact rt_i hx hb hr hlocks (by rw [a_ferry, c5, tk_nI (k := f0) (by omega)]; rfl) dX11_ferry_53
      · subst hsw
        have hl : lv_has ls 3 [(0, .ref (ad 0)), (1, .int (nI (f0))), (2, .int (nI (2)))] := hl
        refine lv_tableIn (tgt := 54) hx hb dX11_ferry_12 (by decide) (by decide) rfl (by decide) ?_
        refine lv_aload_n hx hb dX11_ferry_54 rfl (lv_at hl 0 rfl) ?_
        refine va_get (D := D) (ci := 10) (v := .int (nI (s_mo σ))) (C := RX11) (T := TX11) (N := 31) hx hb hts ni11 hown hK hP 0 (mw_c0 cy ad σ T) rfl 18 (by decide) (hts _ flX11_158) (fun _ h => h) rfl dX11_ferry_55 ?_
        refine lv_iload_n hx hb dX11_ferry_58 rfl (lv_at hl 1 rfl) ?_
        refine ln_ishr hx hb dX11_ferry_59 (by omega) (by omega) ?_
        refine lv_iconst (v := nI 1) hx hb dX11_ferry_60 (by decide) ?_
        refine ln_iand hx hb dX11_ferry_61 ?_
        refine ln_nat (show ((s_mo σ) / 2 ^ f0) &&& 1 = (Nat.testBit (s_mo σ) f0).toNat from bit_and _ _) ?_
        exact rt_i hx hb hr hlocks (by rw [a_ferry, c5, tk_nI (k := f0) (by omega)]; rfl) dX11_ferry_62
      · subst hsw
        have hl : lv_has ls 3 [(0, .ref (ad 0)), (1, .int (nI (f0))), (2, .int (nI (3)))] := hl
        refine lv_tableIn (tgt := 63) hx hb dX11_ferry_12 (by decide) (by decide) rfl (by decide) ?_
        refine lv_aload_n hx hb dX11_ferry_63 rfl (lv_at hl 0 rfl) ?_
        refine va_get (D := D) (ci := 10) (v := .ref (ad 2)) (C := RX11) (T := TX11) (N := 31) hx hb hts ni11 hown hK hP 0 (mw_c0 cy ad σ T) rfl 3 (by decide) (hts _ flX11_13) (fun _ h => h) rfl dX11_ferry_64 ?_
        refine lv_iconst (v := nI 5) hx hb dX11_ferry_67 (by decide) ?_
        refine lv_iload_n hx hb dX11_ferry_68 rfl (lv_at hl 1 rfl) ?_
        refine ln_imul hx hb dX11_ferry_69 ?_
        refine lv_iload_n hx hb dX11_ferry_70 rfl (lv_at hl 2 rfl) ?_
        refine ln_iadd hx hb dX11_ferry_71 ?_
        refine ln_iald (v := (nI (s_fe σ ((5 * f0) + 3)))) hx hb hK hP 2 (mw_c2 cy ad σ T) (by omega) (by decide) rfl dX11_ferry_72 ?_
        exact rt_i hx hb hr hlocks (by rw [a_ferry, c5, tk_nI (k := f0) (by omega)]; rfl) dX11_ferry_73
      · subst hsw
        have hl : lv_has ls 3 [(0, .ref (ad 0)), (1, .int (nI (f0))), (2, .int (nI (4)))] := hl
        refine lv_tableIn (tgt := 63) hx hb dX11_ferry_12 (by decide) (by decide) rfl (by decide) ?_
        refine lv_aload_n hx hb dX11_ferry_63 rfl (lv_at hl 0 rfl) ?_
        refine va_get (D := D) (ci := 10) (v := .ref (ad 2)) (C := RX11) (T := TX11) (N := 31) hx hb hts ni11 hown hK hP 0 (mw_c0 cy ad σ T) rfl 3 (by decide) (hts _ flX11_13) (fun _ h => h) rfl dX11_ferry_64 ?_
        refine lv_iconst (v := nI 5) hx hb dX11_ferry_67 (by decide) ?_
        refine lv_iload_n hx hb dX11_ferry_68 rfl (lv_at hl 1 rfl) ?_
        refine ln_imul hx hb dX11_ferry_69 ?_
        refine lv_iload_n hx hb dX11_ferry_70 rfl (lv_at hl 2 rfl) ?_
        refine ln_iadd hx hb dX11_ferry_71 ?_
        refine ln_iald (v := (nI (s_fe σ ((5 * f0) + 4)))) hx hb hK hP 2 (mw_c2 cy ad σ T) (by omega) (by decide) rfl dX11_ferry_72 ?_
        exact rt_i hx hb hr hlocks (by rw [a_ferry, c5, tk_nI (k := f0) (by omega)]; rfl) dX11_ferry_73
    · refine lv_tableOut (tgt := 74) hx hb dX11_ferry_12 (sw_out (n := 4) (by decide) hout (by decide)) (by decide) ?_
      refine lv_bipush (v := -3) hx hb dX11_ferry_74 (by decide) ?_
      exact rt_i hx hb hr hlocks (by rw [a_ferry, c5, hout]; rfl) dX11_ferry_76
  · refine lv_bipush (v := -2) hx hb dX11_ferry_8 (by decide) ?_
    exact rt_i hx hb hr hlocks (by rw [a_ferry, c5]; rfl) dX11_ferry_10
set_option maxHeartbeats 4000000 in
set_option maxRecDepth 100000 in
theorem k_X11_as (l : Launch) (D : va_G) (cy : Nat → ClassId) (ad : Nat → Nat) (σ : Sg) (T : Ms) (t k : Int32) (hw : wfS σ) : MR l yX11_as qX11_as 2 [.ref (ad 0), .int (t), .int (k)] D cy (mw cy ad σ T) (a_as σ t k) := by
  refine Met.ofW (cc := cX11_as) (maxL := 5) (ret := (some .int)) (by decide) rfl ?_
  intro p e s m args below meth c s₁ B hml hv
  obtain ⟨rfl, hP, hK, hN⟩ := hv
  have hx := B.exec
  have hb := B.bytes
  have hr := B.returns
  have hlocks := B.notSynchronized
  have hts : ∀ cq ∈ tg, cq.before ([.ref (ad 0), .int (t), .int (k)] : List Value).toArray s = true := fun cq h => atoms_spec (ws := qX11_as) B.pre cq (List.mem_cons_of_mem _ h)
  have hown : s.vm.findClass RX11 = some m.cls := findClass_of_methodNamed B.named
  have hl := lv_entry ([.ref (ad 0), .int (t), .int (k)]) (n := 5) (Nat.le_of_ble_eq_true rfl)
  rw [lg_entry_eq]
  generalize (lg_sl ([.ref (ad 0), .int (t), .int (k)]) ++ List.replicate (5 - (lg_sl ([.ref (ad 0), .int (t), .int (k)])).length) Slot.unset).toArray = ls at hl ⊢
  have hl : lv_has ls 5 [(0, .ref (ad 0)), (1, .int (t)), (2, .int (k))] := hl
  have hw1 := hw.1
  have hw2 := hw.2.1
  have hp8 := pw_8 hw1
  have hov := ov_lt hw
  have hmo := mo_lt hw
  have hof := of_lt hw
  refine lv_aload_n hx hb dX11_as_0 rfl (lv_at hl 0 rfl) ?_
  refine lv_iload_n hx hb dX11_as_1 rfl (lv_at hl 1 rfl) ?_
  refine cr_v (n := 1) (As := [.int (t)]) (rest := []) ⟨hx, hb, hml, hown, hts⟩ (k_X11_isThing l D cy ad σ T (t) hw) gvX11_177 (by decide +kernel) ⟨Nat.le_of_ble_eq_true rfl, Nat.le_of_ble_eq_true rfl⟩ hK hN hP 0 (mw_c0 cy ad σ T) rfl rfl hl.1 rfl (Nat.le_of_ble_eq_true rfl) dX11_as_2 ⟨Nat.zero_le _, Nat.zero_le _⟩ ?_
  refine lb_if_ne (tgt := 11) hx hb dX11_as_5 (by decide) (fun c5 => ?_) (fun c5 => ?_)
  · obtain ⟨t0, ht, rfl⟩ := ix_of c5 (by omega)
    have hl : lv_has ls 5 [(0, .ref (ad 0)), (1, .int (nI (t0))), (2, .int (k))] := hl
    have hk := hw.2.2.1 t0 (by omega)
    refine lv_iload_n hx hb dX11_as_11 rfl (lv_at hl 2 rfl) ?_
    refine lv_iconst (v := nI 0) hx hb dX11_as_12 (by decide) ?_
    refine lv_iconst (v := nI 5) hx hb dX11_as_13 (by decide) ?_
    refine cr_s (n := 3) (As := [.int (k), .int (nI (0)), .int (nI (5))]) (rest := []) ⟨hx, hb, hml, hown, hts⟩ (k_X11_in l (k) (nI (0)) (nI (5))) gsX11_51 (by decide +kernel) ⟨Nat.le_of_ble_eq_true rfl, Nat.le_of_ble_eq_true rfl⟩ rfl hl.1 rfl (Nat.le_of_ble_eq_true rfl) dX11_as_14 ⟨Nat.zero_le _, Nat.zero_le _⟩ ?_
    refine lb_if_ne (tgt := 23) hx hb dX11_as_17 (by decide) (fun c17 => ?_) (fun c17 => ?_)
    · obtain ⟨k0, hkk, rfl⟩ := ix_of (ix6 c17) (by omega)
      have hl : lv_has ls 5 [(0, .ref (ad 0)), (1, .int (nI (t0))), (2, .int (nI (k0)))] := hl
      refine lv_aload_n hx hb dX11_as_23 rfl (lv_at hl 0 rfl) ?_
      refine va_get (D := D) (ci := 10) (v := .ref (ad 1)) (C := RX11) (T := TX11) (N := 31) hx hb hts ni11 hown hK hP 0 (mw_c0 cy ad σ T) rfl 1 (by decide) (hts _ flX11_7) (fun _ h => h) rfl dX11_as_24 ?_
      refine lv_bipush (v := nI 6) hx hb dX11_as_27 (by decide) ?_
      refine lv_iload_n hx hb dX11_as_29 rfl (lv_at hl 1 rfl) ?_
      refine ln_imul hx hb dX11_as_30 ?_
      refine ln_iald (v := (nI (s_th σ (6 * t0)))) hx hb hK hP 1 (mw_c1 cy ad σ T) (by omega) (by decide) rfl dX11_as_31 ?_
      refine lv_istore_n (lv' := [(3, .int (nI (s_th σ (6 * t0)))), (0, .ref (ad 0)), (1, .int (nI (t0))), (2, .int (nI (k0)))]) hx hb dX11_as_32 rfl hl (by decide) rfl (fun ls hl => ?_)
      refine lv_iload_n hx hb dX11_as_33 rfl (lv_at hl 3 rfl) ?_
      refine ln_if_eq (tgt := 94) hx hb dX11_as_34 (by decide) (by omega) (fun c34 => ?_) (fun c34 => ?_)
      · refine lv_iconst (v := nI 1) hx hb dX11_as_94 (by decide) ?_
        refine lv_goto (tgt := 99) hx hb dX11_as_95 (by decide) ?_
        refine lv_istore (lv' := [(4, .int (nI (1))), (3, .int (nI (s_th σ (6 * t0)))), (0, .ref (ad 0)), (1, .int (nI (t0))), (2, .int (nI (k0)))]) hx hb dX11_as_99 hl (by decide) rfl (fun ls hl => ?_)
        refine lv_iload hx hb dX11_as_101 (lv_at hl 0 rfl) ?_
        refine lv_if_eq (tgt := 118) hx hb dX11_as_103 (by decide) (fun c => absurd c (by decide)) (fun _ => ?_)
        refine lv_aload_n hx hb dX11_as_106 rfl (lv_at hl 2 rfl) ?_
        refine lv_iload_n hx hb dX11_as_107 rfl (lv_at hl 3 rfl) ?_
        refine lv_aload_n hx hb dX11_as_108 rfl (lv_at hl 2 rfl) ?_
        refine va_get (D := D) (ci := 10) (v := .int (nI (s_of σ))) (C := RX11) (T := TX11) (N := 31) hx hb hts ni11 hown hK hP 0 (mw_c0 cy ad σ T) rfl 19 (by decide) (hts _ flX11_161) (fun _ h => h) rfl dX11_as_109 ?_
        refine cr_v (n := 2) (As := [.int (nI (t0)), .int (nI (s_of σ))]) (rest := []) ⟨hx, hb, hml, hown, hts⟩ (k_X11_poundsOf l D cy ad σ T t0 (s_of σ) (by omega) (by omega)) gvX11_180 (by decide +kernel) ⟨Nat.le_of_ble_eq_true rfl, Nat.le_of_ble_eq_true rfl⟩ hK hN hP 0 (mw_c0 cy ad σ T) rfl rfl hl.1 rfl (Nat.le_of_ble_eq_true rfl) dX11_as_112 ⟨Nat.zero_le _, Nat.zero_le _⟩ ?_
        refine lv_goto (tgt := 120) hx hb dX11_as_115 (by decide) ?_
        exact rt_i hx hb hr hlocks (by rw [a_as, c5, ix6 c17, tk_nI (k := t0) (by omega), tk_nI (k := k0) (by omega), if_neg (by decide), if_neg (by decide), isAs]; first | (rw [decide_eq_true (by omega)]; rfl; done) | (rw [decide_eq_false (by omega)]; rfl)) dX11_as_120
      · refine lv_iload_n hx hb dX11_as_37 rfl (lv_at hl 3 rfl) ?_
        refine lv_iconst (v := nI 1) hx hb dX11_as_38 (by decide) ?_
        refine ln_icmp_ne (tgt := 50) hx hb dX11_as_39 (by decide) (by omega) (by omega) (fun c39 => ?_) (fun c39 => ?_)
        · refine lv_iload_n hx hb dX11_as_50 rfl (lv_at hl 3 rfl) ?_
          refine lv_iconst (v := nI 2) hx hb dX11_as_51 (by decide) ?_
          refine ln_icmp_ne (tgt := 63) hx hb dX11_as_52 (by decide) (by omega) (by omega) (fun c52 => ?_) (fun c52 => ?_)
          · refine lv_iload_n hx hb dX11_as_63 rfl (lv_at hl 3 rfl) ?_
            refine lv_iconst (v := nI 3) hx hb dX11_as_64 (by decide) ?_
            refine ln_icmp_ne (tgt := 76) hx hb dX11_as_65 (by decide) (by omega) (by omega) (fun c65 => ?_) (fun c65 => ?_)
            · refine lv_iload_n hx hb dX11_as_76 rfl (lv_at hl 3 rfl) ?_
              refine lv_iconst (v := nI 4) hx hb dX11_as_77 (by decide) ?_
              refine ln_icmp_ne (tgt := 89) hx hb dX11_as_78 (by decide) (by omega) (by omega) (fun c78 => ?_) (fun c78 => ?_)
              · refine lv_iload_n hx hb dX11_as_89 rfl (lv_at hl 0 rfl) ?_
                refine lv_iconst (v := nI 3) hx hb dX11_as_90 (by decide) ?_
                refine ln_icmp_ne (tgt := 98) hx hb dX11_as_91 (by decide) (by omega) (by omega) (fun c91 => ?_) (fun c91 => ?_)
                · refine lv_iconst (v := nI 0) hx hb dX11_as_98 (by decide) ?_
                  refine lv_istore (lv' := [(4, .int (nI (0))), (3, .int (nI (s_th σ (6 * t0)))), (0, .ref (ad 0)), (1, .int (nI (t0))), (2, .int (nI (k0)))]) hx hb dX11_as_99 hl (by decide) rfl (fun ls hl => ?_)
                  refine lv_iload hx hb dX11_as_101 (lv_at hl 0 rfl) ?_
                  refine lv_if_eq (tgt := 118) hx hb dX11_as_103 (by decide) (fun _ => ?_) (fun c => absurd rfl c)
                  refine lv_bipush (v := -4) hx hb dX11_as_118 (by decide) ?_
                  exact rt_i hx hb hr hlocks (by rw [a_as, c5, ix6 c17, tk_nI (k := t0) (by omega), tk_nI (k := k0) (by omega), if_neg (by decide), if_neg (by decide), isAs]; first | (rw [decide_eq_true (by omega)]; rfl; done) | (rw [decide_eq_false (by omega)]; rfl)) dX11_as_120
                · refine lv_iconst (v := nI 1) hx hb dX11_as_94 (by decide) ?_
                  refine lv_goto (tgt := 99) hx hb dX11_as_95 (by decide) ?_
                  refine lv_istore (lv' := [(4, .int (nI (1))), (3, .int (nI (s_th σ (6 * t0)))), (0, .ref (ad 0)), (1, .int (nI (t0))), (2, .int (nI (k0)))]) hx hb dX11_as_99 hl (by decide) rfl (fun ls hl => ?_)
                  refine lv_iload hx hb dX11_as_101 (lv_at hl 0 rfl) ?_
                  refine lv_if_eq (tgt := 118) hx hb dX11_as_103 (by decide) (fun c => absurd c (by decide)) (fun _ => ?_)
                  refine lv_aload_n hx hb dX11_as_106 rfl (lv_at hl 2 rfl) ?_
                  refine lv_iload_n hx hb dX11_as_107 rfl (lv_at hl 3 rfl) ?_
                  refine lv_aload_n hx hb dX11_as_108 rfl (lv_at hl 2 rfl) ?_
                  refine va_get (D := D) (ci := 10) (v := .int (nI (s_of σ))) (C := RX11) (T := TX11) (N := 31) hx hb hts ni11 hown hK hP 0 (mw_c0 cy ad σ T) rfl 19 (by decide) (hts _ flX11_161) (fun _ h => h) rfl dX11_as_109 ?_
                  refine cr_v (n := 2) (As := [.int (nI (t0)), .int (nI (s_of σ))]) (rest := []) ⟨hx, hb, hml, hown, hts⟩ (k_X11_poundsOf l D cy ad σ T t0 (s_of σ) (by omega) (by omega)) gvX11_180 (by decide +kernel) ⟨Nat.le_of_ble_eq_true rfl, Nat.le_of_ble_eq_true rfl⟩ hK hN hP 0 (mw_c0 cy ad σ T) rfl rfl hl.1 rfl (Nat.le_of_ble_eq_true rfl) dX11_as_112 ⟨Nat.zero_le _, Nat.zero_le _⟩ ?_
                  refine lv_goto (tgt := 120) hx hb dX11_as_115 (by decide) ?_
                  exact rt_i hx hb hr hlocks (by rw [a_as, c5, ix6 c17, tk_nI (k := t0) (by omega), tk_nI (k := k0) (by omega), if_neg (by decide), if_neg (by decide), isAs]; first | (rw [decide_eq_true (by omega)]; rfl; done) | (rw [decide_eq_false (by omega)]; rfl)) dX11_as_120
              · refine lv_iload_n hx hb dX11_as_81 rfl (lv_at hl 0 rfl) ?_
                refine lv_iconst (v := nI 2) hx hb dX11_as_82 (by decide) ?_
                refine ln_icmp_ne (tgt := 98) hx hb dX11_as_83 (by decide) (by omega) (by omega) (fun c83 => ?_) (fun c83 => ?_)
                · refine lv_iconst (v := nI 0) hx hb dX11_as_98 (by decide) ?_
                  refine lv_istore (lv' := [(4, .int (nI (0))), (3, .int (nI (s_th σ (6 * t0)))), (0, .ref (ad 0)), (1, .int (nI (t0))), (2, .int (nI (k0)))]) hx hb dX11_as_99 hl (by decide) rfl (fun ls hl => ?_)
                  refine lv_iload hx hb dX11_as_101 (lv_at hl 0 rfl) ?_
                  refine lv_if_eq (tgt := 118) hx hb dX11_as_103 (by decide) (fun _ => ?_) (fun c => absurd rfl c)
                  refine lv_bipush (v := -4) hx hb dX11_as_118 (by decide) ?_
                  exact rt_i hx hb hr hlocks (by rw [a_as, c5, ix6 c17, tk_nI (k := t0) (by omega), tk_nI (k := k0) (by omega), if_neg (by decide), if_neg (by decide), isAs]; first | (rw [decide_eq_true (by omega)]; rfl; done) | (rw [decide_eq_false (by omega)]; rfl)) dX11_as_120
                · refine lv_goto (tgt := 94) hx hb dX11_as_86 (by decide) ?_
                  refine lv_iconst (v := nI 1) hx hb dX11_as_94 (by decide) ?_
                  refine lv_goto (tgt := 99) hx hb dX11_as_95 (by decide) ?_
                  refine lv_istore (lv' := [(4, .int (nI (1))), (3, .int (nI (s_th σ (6 * t0)))), (0, .ref (ad 0)), (1, .int (nI (t0))), (2, .int (nI (k0)))]) hx hb dX11_as_99 hl (by decide) rfl (fun ls hl => ?_)
                  refine lv_iload hx hb dX11_as_101 (lv_at hl 0 rfl) ?_
                  refine lv_if_eq (tgt := 118) hx hb dX11_as_103 (by decide) (fun c => absurd c (by decide)) (fun _ => ?_)
                  refine lv_aload_n hx hb dX11_as_106 rfl (lv_at hl 2 rfl) ?_
                  refine lv_iload_n hx hb dX11_as_107 rfl (lv_at hl 3 rfl) ?_
                  refine lv_aload_n hx hb dX11_as_108 rfl (lv_at hl 2 rfl) ?_
                  refine va_get (D := D) (ci := 10) (v := .int (nI (s_of σ))) (C := RX11) (T := TX11) (N := 31) hx hb hts ni11 hown hK hP 0 (mw_c0 cy ad σ T) rfl 19 (by decide) (hts _ flX11_161) (fun _ h => h) rfl dX11_as_109 ?_
                  refine cr_v (n := 2) (As := [.int (nI (t0)), .int (nI (s_of σ))]) (rest := []) ⟨hx, hb, hml, hown, hts⟩ (k_X11_poundsOf l D cy ad σ T t0 (s_of σ) (by omega) (by omega)) gvX11_180 (by decide +kernel) ⟨Nat.le_of_ble_eq_true rfl, Nat.le_of_ble_eq_true rfl⟩ hK hN hP 0 (mw_c0 cy ad σ T) rfl rfl hl.1 rfl (Nat.le_of_ble_eq_true rfl) dX11_as_112 ⟨Nat.zero_le _, Nat.zero_le _⟩ ?_
                  refine lv_goto (tgt := 120) hx hb dX11_as_115 (by decide) ?_
                  exact rt_i hx hb hr hlocks (by rw [a_as, c5, ix6 c17, tk_nI (k := t0) (by omega), tk_nI (k := k0) (by omega), if_neg (by decide), if_neg (by decide), isAs]; first | (rw [decide_eq_true (by omega)]; rfl; done) | (rw [decide_eq_false (by omega)]; rfl)) dX11_as_120
            · refine lv_iload_n hx hb dX11_as_68 rfl (lv_at hl 0 rfl) ?_
              refine lv_iconst (v := nI 1) hx hb dX11_as_69 (by decide) ?_
              refine ln_icmp_ne (tgt := 98) hx hb dX11_as_70 (by decide) (by omega) (by omega) (fun c70 => ?_) (fun c70 => ?_)
              · refine lv_iconst (v := nI 0) hx hb dX11_as_98 (by decide) ?_
                refine lv_istore (lv' := [(4, .int (nI (0))), (3, .int (nI (s_th σ (6 * t0)))), (0, .ref (ad 0)), (1, .int (nI (t0))), (2, .int (nI (k0)))]) hx hb dX11_as_99 hl (by decide) rfl (fun ls hl => ?_)
                refine lv_iload hx hb dX11_as_101 (lv_at hl 0 rfl) ?_
                refine lv_if_eq (tgt := 118) hx hb dX11_as_103 (by decide) (fun _ => ?_) (fun c => absurd rfl c)
                refine lv_bipush (v := -4) hx hb dX11_as_118 (by decide) ?_
                exact rt_i hx hb hr hlocks (by rw [a_as, c5, ix6 c17, tk_nI (k := t0) (by omega), tk_nI (k := k0) (by omega), if_neg (by decide), if_neg (by decide), isAs]; first | (rw [decide_eq_true (by omega)]; rfl; done) | (rw [decide_eq_false (by omega)]; rfl)) dX11_as_120
              · refine lv_goto (tgt := 94) hx hb dX11_as_73 (by decide) ?_
                refine lv_iconst (v := nI 1) hx hb dX11_as_94 (by decide) ?_
                refine lv_goto (tgt := 99) hx hb dX11_as_95 (by decide) ?_
                refine lv_istore (lv' := [(4, .int (nI (1))), (3, .int (nI (s_th σ (6 * t0)))), (0, .ref (ad 0)), (1, .int (nI (t0))), (2, .int (nI (k0)))]) hx hb dX11_as_99 hl (by decide) rfl (fun ls hl => ?_)
                refine lv_iload hx hb dX11_as_101 (lv_at hl 0 rfl) ?_
                refine lv_if_eq (tgt := 118) hx hb dX11_as_103 (by decide) (fun c => absurd c (by decide)) (fun _ => ?_)
                refine lv_aload_n hx hb dX11_as_106 rfl (lv_at hl 2 rfl) ?_
                refine lv_iload_n hx hb dX11_as_107 rfl (lv_at hl 3 rfl) ?_
                refine lv_aload_n hx hb dX11_as_108 rfl (lv_at hl 2 rfl) ?_
                refine va_get (D := D) (ci := 10) (v := .int (nI (s_of σ))) (C := RX11) (T := TX11) (N := 31) hx hb hts ni11 hown hK hP 0 (mw_c0 cy ad σ T) rfl 19 (by decide) (hts _ flX11_161) (fun _ h => h) rfl dX11_as_109 ?_
                refine cr_v (n := 2) (As := [.int (nI (t0)), .int (nI (s_of σ))]) (rest := []) ⟨hx, hb, hml, hown, hts⟩ (k_X11_poundsOf l D cy ad σ T t0 (s_of σ) (by omega) (by omega)) gvX11_180 (by decide +kernel) ⟨Nat.le_of_ble_eq_true rfl, Nat.le_of_ble_eq_true rfl⟩ hK hN hP 0 (mw_c0 cy ad σ T) rfl rfl hl.1 rfl (Nat.le_of_ble_eq_true rfl) dX11_as_112 ⟨Nat.zero_le _, Nat.zero_le _⟩ ?_
                refine lv_goto (tgt := 120) hx hb dX11_as_115 (by decide) ?_
                exact rt_i hx hb hr hlocks (by rw [a_as, c5, ix6 c17, tk_nI (k := t0) (by omega), tk_nI (k := k0) (by omega), if_neg (by decide), if_neg (by decide), isAs]; first | (rw [decide_eq_true (by omega)]; rfl; done) | (rw [decide_eq_false (by omega)]; rfl)) dX11_as_120
          · refine lv_iload_n hx hb dX11_as_55 rfl (lv_at hl 0 rfl) ?_
            refine lv_iconst (v := nI 2) hx hb dX11_as_56 (by decide) ?_
            refine ln_icmp_ge (tgt := 98) hx hb dX11_as_57 (by decide) (by omega) (by omega) (fun c57 => ?_) (fun c57 => ?_)
            · refine lv_iconst (v := nI 0) hx hb dX11_as_98 (by decide) ?_
              refine lv_istore (lv' := [(4, .int (nI (0))), (3, .int (nI (s_th σ (6 * t0)))), (0, .ref (ad 0)), (1, .int (nI (t0))), (2, .int (nI (k0)))]) hx hb dX11_as_99 hl (by decide) rfl (fun ls hl => ?_)
              refine lv_iload hx hb dX11_as_101 (lv_at hl 0 rfl) ?_
              refine lv_if_eq (tgt := 118) hx hb dX11_as_103 (by decide) (fun _ => ?_) (fun c => absurd rfl c)
              refine lv_bipush (v := -4) hx hb dX11_as_118 (by decide) ?_
              exact rt_i hx hb hr hlocks (by rw [a_as, c5, ix6 c17, tk_nI (k := t0) (by omega), tk_nI (k := k0) (by omega), if_neg (by decide), if_neg (by decide), isAs]; first | (rw [decide_eq_true (by omega)]; rfl; done) | (rw [decide_eq_false (by omega)]; rfl)) dX11_as_120
            · refine lv_goto (tgt := 94) hx hb dX11_as_60 (by decide) ?_
              refine lv_iconst (v := nI 1) hx hb dX11_as_94 (by decide) ?_
              refine lv_goto (tgt := 99) hx hb dX11_as_95 (by decide) ?_
              refine lv_istore (lv' := [(4, .int (nI (1))), (3, .int (nI (s_th σ (6 * t0)))), (0, .ref (ad 0)), (1, .int (nI (t0))), (2, .int (nI (k0)))]) hx hb dX11_as_99 hl (by decide) rfl (fun ls hl => ?_)
              refine lv_iload hx hb dX11_as_101 (lv_at hl 0 rfl) ?_
              refine lv_if_eq (tgt := 118) hx hb dX11_as_103 (by decide) (fun c => absurd c (by decide)) (fun _ => ?_)
              refine lv_aload_n hx hb dX11_as_106 rfl (lv_at hl 2 rfl) ?_
              refine lv_iload_n hx hb dX11_as_107 rfl (lv_at hl 3 rfl) ?_
              refine lv_aload_n hx hb dX11_as_108 rfl (lv_at hl 2 rfl) ?_
              refine va_get (D := D) (ci := 10) (v := .int (nI (s_of σ))) (C := RX11) (T := TX11) (N := 31) hx hb hts ni11 hown hK hP 0 (mw_c0 cy ad σ T) rfl 19 (by decide) (hts _ flX11_161) (fun _ h => h) rfl dX11_as_109 ?_
              refine cr_v (n := 2) (As := [.int (nI (t0)), .int (nI (s_of σ))]) (rest := []) ⟨hx, hb, hml, hown, hts⟩ (k_X11_poundsOf l D cy ad σ T t0 (s_of σ) (by omega) (by omega)) gvX11_180 (by decide +kernel) ⟨Nat.le_of_ble_eq_true rfl, Nat.le_of_ble_eq_true rfl⟩ hK hN hP 0 (mw_c0 cy ad σ T) rfl rfl hl.1 rfl (Nat.le_of_ble_eq_true rfl) dX11_as_112 ⟨Nat.zero_le _, Nat.zero_le _⟩ ?_
              refine lv_goto (tgt := 120) hx hb dX11_as_115 (by decide) ?_
              exact rt_i hx hb hr hlocks (by rw [a_as, c5, ix6 c17, tk_nI (k := t0) (by omega), tk_nI (k := k0) (by omega), if_neg (by decide), if_neg (by decide), isAs]; first | (rw [decide_eq_true (by omega)]; rfl; done) | (rw [decide_eq_false (by omega)]; rfl)) dX11_as_120
        · refine lv_iload_n hx hb dX11_as_42 rfl (lv_at hl 0 rfl) ?_
          refine lv_iconst (v := nI 3) hx hb dX11_as_43 (by decide) ?_
          refine ln_icmp_ge (tgt := 98) hx hb dX11_as_44 (by decide) (by omega) (by omega) (fun c44 => ?_) (fun c44 => ?_)
          · refine lv_iconst (v := nI 0) hx hb dX11_as_98 (by decide) ?_
            refine lv_istore (lv' := [(4, .int (nI (0))), (3, .int (nI (s_th σ (6 * t0)))), (0, .ref (ad 0)), (1, .int (nI (t0))), (2, .int (nI (k0)))]) hx hb dX11_as_99 hl (by decide) rfl (fun ls hl => ?_)
            refine lv_iload hx hb dX11_as_101 (lv_at hl 0 rfl) ?_
            refine lv_if_eq (tgt := 118) hx hb dX11_as_103 (by decide) (fun _ => ?_) (fun c => absurd rfl c)
            refine lv_bipush (v := -4) hx hb dX11_as_118 (by decide) ?_
            exact rt_i hx hb hr hlocks (by rw [a_as, c5, ix6 c17, tk_nI (k := t0) (by omega), tk_nI (k := k0) (by omega), if_neg (by decide), if_neg (by decide), isAs]; first | (rw [decide_eq_true (by omega)]; rfl; done) | (rw [decide_eq_false (by omega)]; rfl)) dX11_as_120
          · refine lv_goto (tgt := 94) hx hb dX11_as_47 (by decide) ?_
            refine lv_iconst (v := nI 1) hx hb dX11_as_94 (by decide) ?_
            refine lv_goto (tgt := 99) hx hb dX11_as_95 (by decide) ?_
            refine lv_istore (lv' := [(4, .int (nI (1))), (3, .int (nI (s_th σ (6 * t0)))), (0, .ref (ad 0)), (1, .int (nI (t0))), (2, .int (nI (k0)))]) hx hb dX11_as_99 hl (by decide) rfl (fun ls hl => ?_)
            refine lv_iload hx hb dX11_as_101 (lv_at hl 0 rfl) ?_
            refine lv_if_eq (tgt := 118) hx hb dX11_as_103 (by decide) (fun c => absurd c (by decide)) (fun _ => ?_)
            refine lv_aload_n hx hb dX11_as_106 rfl (lv_at hl 2 rfl) ?_
            refine lv_iload_n hx hb dX11_as_107 rfl (lv_at hl 3 rfl) ?_
            refine lv_aload_n hx hb dX11_as_108 rfl (lv_at hl 2 rfl) ?_
            refine va_get (D := D) (ci := 10) (v := .int (nI (s_of σ))) (C := RX11) (T := TX11) (N := 31) hx hb hts ni11 hown hK hP 0 (mw_c0 cy ad σ T) rfl 19 (by decide) (hts _ flX11_161) (fun _ h => h) rfl dX11_as_109 ?_
            refine cr_v (n := 2) (As := [.int (nI (t0)), .int (nI (s_of σ))]) (rest := []) ⟨hx, hb, hml, hown, hts⟩ (k_X11_poundsOf l D cy ad σ T t0 (s_of σ) (by omega) (by omega)) gvX11_180 (by decide +kernel) ⟨Nat.le_of_ble_eq_true rfl, Nat.le_of_ble_eq_true rfl⟩ hK hN hP 0 (mw_c0 cy ad σ T) rfl rfl hl.1 rfl (Nat.le_of_ble_eq_true rfl) dX11_as_112 ⟨Nat.zero_le _, Nat.zero_le _⟩ ?_
            refine lv_goto (tgt := 120) hx hb dX11_as_115 (by decide) ?_
            exact rt_i hx hb hr hlocks (by rw [a_as, c5, ix6 c17, tk_nI (k := t0) (by omega), tk_nI (k := k0) (by omega), if_neg (by decide), if_neg (by decide), isAs]; first | (rw [decide_eq_true (by omega)]; rfl; done) | (rw [decide_eq_false (by omega)]; rfl)) dX11_as_120
    · refine lv_bipush (v := -3) hx hb dX11_as_20 (by decide) ?_
      exact rt_i hx hb hr hlocks (by rw [a_as, c5, ix6 c17]; rfl) dX11_as_22
  · refine lv_bipush (v := -2) hx hb dX11_as_8 (by decide) ?_
    exact rt_i hx hb hr hlocks (by rw [a_as, c5]; rfl) dX11_as_10
