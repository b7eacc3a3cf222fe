theorem fit_abs {a b : Nat} (ha : a < 2 ^ 30) (hb : b < 2 ^ 30) : (if 0 ≤ nI a - nI b then nI a - nI b else 0 - (nI a - nI b)) = nI (adif a b) := by
  by_cases h : 0 ≤ nI a - nI b
  · rw [if_pos h]; exact abs_p ha hb h
  · rw [if_neg h]
    have h2 := abs_n ha hb h
    rw [← h2, Int32.zero_sub]
theorem isHat_t {k : Nat} (h : k = 0) : true = decide (k < 2) := by rw [h]; rfl
theorem bit_lt2 (b : Bool) : b.toNat < 2 := by cases b <;> decide
theorem bit_eq1 (b : Bool) : decide (b.toNat = 1) = b := by cases b <;> rfl
theorem wh_bit {σ : Sg} {t : Nat} (ht : t < s_n σ) : (whN σ).testBit t = decide (s_th σ (6 * t) < 2) := by rw [whN, mask_bit, decide_eq_true ht]; rfl
theorem wh_lt {σ : Sg} (hw : wfS σ) : whN σ < 256 := Nat.lt_of_lt_of_le (mask_lt _ _) (pw_8 hw.1)
theorem pe_lt {σ : Sg} (hw : wfS σ) : peN σ < 256 := Nat.lt_of_lt_of_le (mask_lt _ _) (pw_8 hw.1)
theorem us_lt {σ : Sg} (hw : wfS σ) : usN σ < 256 := Nat.lt_of_lt_of_le (mask_lt _ _) (pw_8 hw.1)
theorem hat_bit {a o t : Nat} (ht : t < 32) : (a &&& (o ^^^ (2 ^ 32 - 1))).testBit t = (a.testBit t && !o.testBit t) := by
  rw [Nat.testBit_and, Nat.testBit_xor, Nat.testBit_two_pow_sub_one, decide_eq_true ht]
  cases a.testBit t <;> cases o.testBit t <;> rfl
theorem sum1 {f : Nat → Nat} {t : Nat} : ∀ {n : Nat}, t < n → (∀ k, k < n → k ≠ t → f k = 0) → sumN f n = f t
  | 0, h, _ => absurd h (by omega)
  | n + 1, h, hz => by
    rw [sumN]
    rcases (show t = n ∨ t < n by omega) with rfl | q
    · have : sumN f t = 0 := by
        have h0 : sumN f t = sumN (fun _ => 0) t := sumN_cong (fun k hk => hz k (by omega) (by omega))
        have h1 : sumN (fun _ => 0) t ≤ t * 0 := sumN_le (fun _ _ => Nat.le_refl 0)
        omega
      omega
    · rw [sum1 q (fun k hk hne => hz k (by omega) hne), hz n (by omega) (by omega)]; rfl
theorem pdA_1 {σ : Sg} {t h : Nat} (ht : t < s_n σ) : pdA σ (2 ^ t) h = pd σ h t := by
  unfold pdA
  rw [sum1 (t := t) ht (fun k _ hne => by rw [Nat.testBit_two_pow, decide_eq_false (by omega)]; rfl)]
  rw [Nat.testBit_two_pow_self]; rfl
theorem pw_lt {t n : Nat} (h : t < n) : 2 ^ t < 2 ^ n := Nat.pow_lt_pow_right (by decide) h
theorem un_bits {σ : Sg} (hw : wfS σ) {x : Nat} (hx : x < 2 ^ s_n σ) : bits (x &&& usN σ) = unA σ x := by
  have h8 := hw.1
  have key : ∀ m, m ≤ 8 → s_n σ ≤ m → sumN (fun k => ((x &&& usN σ).testBit k).toNat) m = unA σ x := by
    intro m
    induction m with
    | zero =>
      intro _ h
      unfold unA
      rw [show s_n σ = 0 by omega]; rfl
    | succ m ih =>
      intro hm h
      rcases (show s_n σ = m + 1 ∨ s_n σ ≤ m by omega) with q | q
      · unfold unA
        rw [q]
        refine sumN_cong (fun k hk => ?_)
        rw [Nat.testBit_and, usN, mask_bit, decide_eq_true (show k < s_n σ by omega)]
        have h5 := (hw.2.2.1 k (by omega)).2.2.2.2.2.1
        rcases (show s_th σ (6 * k + 5) = 0 ∨ s_th σ (6 * k + 5) = 1 by omega) with r | r <;> cases x.testBit k <;> simp [r]
      · rw [sumN, ih (by omega) q]
        have : (x &&& usN σ).testBit m = false := by
          rw [Nat.testBit_and, usN, mask_bit, decide_eq_false (by omega)]; simp
        rw [this]; rfl
  exact key 8 (Nat.le_refl 8) h8
set_option maxHeartbeats 4000000 in
set_option maxRecDepth 100000 in
theorem k_X8_isHatted (l : Launch)  (k : Nat) (h1 : k < 2 ^ 31) : MS l yX8_isHatted qX8_isHatted 0 [.int (nI (k))] (bI (decide (k < 2))) := by
  refine Met.ofW (cc := cX8_isHatted) (maxL := 1) (ret := (some .boolean)) (by decide) rfl ?_
  intro p e s m args below meth c s₁ B hml hv
  obtain ⟨rfl, -⟩ := hv
  have hx := B.exec
  have hb := B.bytes
  have hr := B.returns
  have hlocks := B.notSynchronized
  have hts : ∀ cq ∈ tg, cq.before ([.int (nI (k))] : List Value).toArray s = true := fun cq h => atoms_spec (ws := qX8_isHatted) B.pre cq (List.mem_cons_of_mem _ h)
  have hown : s.vm.findClass RX8 = some m.cls := findClass_of_methodNamed B.named
  have hl := lv_entry ([.int (nI (k))]) (n := 1) (Nat.le_of_ble_eq_true rfl)
  rw [lg_entry_eq]
  generalize (lg_sl ([.int (nI (k))]) ++ List.replicate (1 - (lg_sl ([.int (nI (k))])).length) Slot.unset).toArray = ls at hl ⊢
  have hl : lv_has ls 1 [(0, .int (nI (k)))] := hl
  refine lv_iload_n hx hb dX8_isHatted_0 rfl (lv_at hl 0 rfl) ?_
  refine ln_if_eq (tgt := 9) hx hb dX8_isHatted_1 (by decide) (by omega) (fun c1 => ?_) (fun c1 => ?_)
  · refine lv_iconst (v := nI 1) hx hb dX8_isHatted_9 (by decide) ?_
    refine lv_goto (tgt := 14) hx hb dX8_isHatted_10 (by decide) ?_
    refine ln_eq bI_t.symm ?_
    exact rt_z hx hb hr hlocks (by first | exact (decide_eq_true (by omega)).symm | exact (decide_eq_false (by omega)).symm) dX8_isHatted_14
  · refine lv_iload_n hx hb dX8_isHatted_4 rfl (lv_at hl 0 rfl) ?_
    refine lv_iconst (v := nI 1) hx hb dX8_isHatted_5 (by decide) ?_
    refine ln_icmp_ne (tgt := 13) hx hb dX8_isHatted_6 (by decide) (by omega) (by omega) (fun c6 => ?_) (fun c6 => ?_)
    · refine lv_iconst (v := nI 0) hx hb dX8_isHatted_13 (by decide) ?_
      refine ln_eq bI_f.symm ?_
      exact rt_z hx hb hr hlocks (by first | exact (decide_eq_true (by omega)).symm | exact (decide_eq_false (by omega)).symm) dX8_isHatted_14
    · refine lv_iconst (v := nI 1) hx hb dX8_isHatted_9 (by decide) ?_
      refine lv_goto (tgt := 14) hx hb dX8_isHatted_10 (by decide) ?_
      refine ln_eq bI_t.symm ?_
      exact rt_z hx hb hr hlocks (by first | exact (decide_eq_true (by omega)).symm | exact (decide_eq_false (by omega)).symm) dX8_isHatted_14
set_option maxHeartbeats 4000000 in
set_option maxRecDepth 100000 in
theorem k_X8_hasHat (l : Launch) (D : va_G) (cy : Nat → ClassId) (ad aw : Nat → Nat) (σ : Sg) (J : Js) (t : Nat) (hw : wfS σ) (ht : t < 8) : MR l yX8_hasHat qX8_hasHat 1 [.ref (ad (21 + t))] D cy (cw cy ad aw σ J) (bI (decide (s_th σ (6 * t) < 2))) := by
  refine Met.ofW (cc := cX8_hasHat) (maxL := 1) (ret := (some .boolean)) (by decide) rfl ?_
  intro p e s m args below meth c s₁ B hml hv
  obtain ⟨rfl, hP, hK, hN⟩ := hv
  have hx := B.exec
  have hb := B.bytes
  have hr := B.returns
  have hlocks := B.notSynchronized
  have hts : ∀ cq ∈ tg, cq.before ([.ref (ad (21 + t))] : List Value).toArray s = true := fun cq h => atoms_spec (ws := qX8_hasHat) B.pre cq (List.mem_cons_of_mem _ h)
  have hown : s.vm.findClass RX8 = some m.cls := findClass_of_methodNamed B.named
  have hl := lv_entry ([.ref (ad (21 + t))]) (n := 1) (Nat.le_of_ble_eq_true rfl)
  rw [lg_entry_eq]
  generalize (lg_sl ([.ref (ad (21 + t))]) ++ List.replicate (1 - (lg_sl ([.ref (ad (21 + t))])).length) Slot.unset).toArray = ls at hl ⊢
  have hl : lv_has ls 1 [(0, .ref (ad (21 + t)))] := hl
  have hk := hw.2.2.1 t ht
  refine lv_aload_n hx hb dX8_hasHat_0 rfl (lv_at hl 0 rfl) ?_
  refine va_get (D := D) (ci := 8) (v := .int (nI (s_th σ (6 * t)))) (C := RX8) (T := TX8) (N := 6) hx hb hts ni8 hown hK hP (21 + t) (cw_thing cy ad aw σ J (t := t) (by omega)) rfl 0 (by decide) (hts _ flX8_9) (fun _ h => h) rfl dX8_hasHat_1 ?_
  refine cr_s (n := 1) (As := [.int (nI (s_th σ (6 * t)))]) (rest := []) ⟨hx, hb, hml, hown, hts⟩ (k_X8_isHatted l (s_th σ (6 * t)) (by omega)) gsX8_31 (by decide +kernel) ⟨Nat.le_of_ble_eq_true rfl, Nat.le_of_ble_eq_true rfl⟩ rfl hl.1 rfl (Nat.le_of_ble_eq_true rfl) dX8_hasHat_4 ⟨Nat.zero_le _, Nat.zero_le _⟩ ?_
  exact rt_z hx hb hr hlocks (rfl) dX8_hasHat_7
set_option maxHeartbeats 4000000 in
set_option maxRecDepth 100000 in
theorem k_X0_numberNow (l : Launch) (D : va_G) (cy : Nat → ClassId) (ad aw : Nat → Nat) (σ : Sg) (J : Js) (f : Nat) (hw : wfS σ) (hf : f < 3) : MR l yX0_numberNow qX0_numberNow 0 [.ref (ad (29 + f)), .int (bI (s_la σ))] D cy (cw cy ad aw σ J) (nI (numN σ f)) := by
  refine Met.ofW (cc := cX0_numberNow) (maxL := 5) (ret := (some .int)) (by decide) rfl ?_
  intro p e s m args below meth c s₁ B hml hv
  obtain ⟨rfl, hP, hK, hN⟩ := hv
  have hx := B.exec
  have hb := B.bytes
  have hr := B.returns
  have hlocks := B.notSynchronized
  have hts : ∀ cq ∈ tg, cq.before ([.ref (ad (29 + f)), .int (bI (s_la σ))] : List Value).toArray s = true := fun cq h => atoms_spec (ws := qX0_numberNow) B.pre cq (List.mem_cons_of_mem _ h)
  have hown : s.vm.findClass RX0 = some m.cls := findClass_of_methodNamed B.named
  have hl := lv_entry ([.ref (ad (29 + f)), .int (bI (s_la σ))]) (n := 5) (Nat.le_of_ble_eq_true rfl)
  rw [lg_entry_eq]
  generalize (lg_sl ([.ref (ad (29 + f)), .int (bI (s_la σ))]) ++ List.replicate (5 - (lg_sl ([.ref (ad (29 + f)), .int (bI (s_la σ))])).length) Slot.unset).toArray = ls at hl ⊢
  have hl : lv_has ls 5 [(0, .ref (ad (29 + f))), (1, .int (bI (s_la σ)))] := hl
  have hk := hw.2.2.2.1 f hf
  refine lv_aload_n hx hb dX0_numberNow_0 rfl (lv_at hl 0 rfl) ?_
  refine va_get (D := D) (ci := 0) (v := .int (nI (s_fe σ (5 * f)))) (C := RX0) (T := TX0) (N := 5) hx hb hts ni0 hown hK hP (29 + f) (cw_ferry cy ad aw σ J (t := f) (by omega)) rfl 0 (by decide) (hts _ flX0_9) (fun _ h => h) rfl dX0_numberNow_1 ?_
  refine lv_iconst (v := nI 2) hx hb dX0_numberNow_4 (by decide) ?_
  refine ln_icmp_ne (tgt := 12) hx hb dX0_numberNow_5 (by decide) (by omega) (by omega) (fun c5 => ?_) (fun c5 => ?_)
  · refine lv_aload_n hx hb dX0_numberNow_12 rfl (lv_at hl 0 rfl) ?_
    refine va_get (D := D) (ci := 0) (v := .int (nI (s_fe σ (5 * f + 1)))) (C := RX0) (T := TX0) (N := 5) hx hb hts ni0 hown hK hP (29 + f) (cw_ferry cy ad aw σ J (t := f) (by omega)) rfl 1 (by decide) (hts _ flX0_15) (fun _ h => h) rfl dX0_numberNow_13 ?_
    exact rt_i hx hb hr hlocks (congrArg nI (by unfold numN; first | (rw [if_pos (Or.inl (by omega))]; done) | (rw [if_pos (Or.inr c9)]; done) | (rw [if_neg (by rintro (q | q); omega; rw [q] at c9; cases c9)]; unfold rev3; split; omega; split <;> omega))) dX0_numberNow_16
  · refine lv_iload_n hx hb dX0_numberNow_8 rfl (lv_at hl 1 rfl) ?_
    refine lb_if_ne (tgt := 17) hx hb dX0_numberNow_9 (by decide) (fun c9 => ?_) (fun c9 => ?_)
    · refine lv_iconst (v := nI 0) hx hb dX0_numberNow_17 (by decide) ?_
      refine lv_istore_n (lv' := [(2, .int (nI (0))), (0, .ref (ad (29 + f))), (1, .int (bI (s_la σ)))]) hx hb dX0_numberNow_18 rfl hl (by decide) rfl (fun ls hl => ?_)
      refine lv_aload_n hx hb dX0_numberNow_19 rfl (lv_at hl 1 rfl) ?_
      refine va_get (D := D) (ci := 0) (v := .int (nI (s_fe σ (5 * f + 1)))) (C := RX0) (T := TX0) (N := 5) hx hb hts ni0 hown hK hP (29 + f) (cw_ferry cy ad aw σ J (t := f) (by omega)) rfl 1 (by decide) (hts _ flX0_15) (fun _ h => h) rfl dX0_numberNow_20 ?_
      refine lv_istore_n (lv' := [(3, .int (nI (s_fe σ (5 * f + 1)))), (2, .int (nI (0))), (0, .ref (ad (29 + f))), (1, .int (bI (s_la σ)))]) hx hb dX0_numberNow_23 rfl hl (by decide) rfl (fun ls hl => ?_)
      refine lv_iconst (v := nI 0) hx hb dX0_numberNow_24 (by decide) ?_
      refine lv_istore (lv' := [(4, .int (nI (0))), (3, .int (nI (s_fe σ (5 * f + 1)))), (2, .int (nI (0))), (0, .ref (ad (29 + f))), (1, .int (bI (s_la σ)))]) hx hb dX0_numberNow_25 hl (by decide) rfl (fun ls hl => ?_)
      refine lv_iload hx hb dX0_numberNow_27 (lv_at hl 0 rfl) ?_
      refine lv_iconst (v := nI 3) hx hb dX0_numberNow_29 (by decide) ?_
      refine ln_icmp_ge (tgt := 58) hx hb dX0_numberNow_30 (by decide) (by omega) (by omega) (fun c30 => ?_) (fun c30 => ?_)
      · exact absurd c30 (by omega)
      · refine lv_iload_n hx hb dX0_numberNow_33 rfl (lv_at hl 1 rfl) ?_
        refine ln_if_le (tgt := 58) hx hb dX0_numberNow_34 (by decide) (by omega) (fun c34 => ?_) (fun c34 => ?_)
        · have e0 := c34
          refine lv_iload_n hx hb dX0_numberNow_58 rfl (lv_at hl 2 rfl) ?_
          exact rt_i hx hb hr hlocks (congrArg nI (by unfold numN; first | (rw [if_pos (Or.inl (by omega))]; done) | (rw [if_pos (Or.inr c9)]; done) | (rw [if_neg (by rintro (q | q); omega; rw [q] at c9; cases c9)]; unfold rev3; split; omega; split <;> omega))) dX0_numberNow_59
        · have e0 := c34
          refine lv_iload_n hx hb dX0_numberNow_37 rfl (lv_at hl 2 rfl) ?_
          refine lv_bipush (v := nI 10) hx hb dX0_numberNow_38 (by decide) ?_
          refine ln_imul hx hb dX0_numberNow_40 ?_
          refine lv_iload_n hx hb dX0_numberNow_41 rfl (lv_at hl 1 rfl) ?_
          refine lv_bipush (v := nI 10) hx hb dX0_numberNow_42 (by decide) ?_
          refine ln_irem hx hb dX0_numberNow_44 (by omega) (by omega) (by omega) ?_
          refine ln_iadd hx hb dX0_numberNow_45 ?_
          refine lv_istore_n (lv' := [(2, .int (nI ((0 * 10) + ((s_fe σ (5 * f + 1)) % 10)))), (4, .int (nI (0))), (3, .int (nI (s_fe σ (5 * f + 1)))), (0, .ref (ad (29 + f))), (1, .int (bI (s_la σ)))]) hx hb dX0_numberNow_46 rfl hl (by decide) rfl (fun ls hl => ?_)
          refine lv_iload_n hx hb dX0_numberNow_47 rfl (lv_at hl 2 rfl) ?_
          refine lv_bipush (v := nI 10) hx hb dX0_numberNow_48 (by decide) ?_
          refine ln_idiv hx hb dX0_numberNow_50 (by omega) (by omega) (by omega) ?_
          refine lv_istore_n (lv' := [(3, .int (nI ((s_fe σ (5 * f + 1)) / 10))), (2, .int (nI ((0 * 10) + ((s_fe σ (5 * f + 1)) % 10)))), (4, .int (nI (0))), (0, .ref (ad (29 + f))), (1, .int (bI (s_la σ)))]) hx hb dX0_numberNow_51 rfl hl (by decide) rfl (fun ls hl => ?_)
          refine ln_iinc (lv' := [(4, .int (nI (0 + 1))), (3, .int (nI ((s_fe σ (5 * f + 1)) / 10))), (2, .int (nI ((0 * 10) + ((s_fe σ (5 * f + 1)) % 10)))), (0, .ref (ad (29 + f))), (1, .int (bI (s_la σ)))]) hx hb dX0_numberNow_52 hl (k := 2) (n := 1) rfl (by decide) rfl (fun ls hl => ?_)
          refine lv_goto (tgt := 27) hx hb dX0_numberNow_55 (by decide) ?_
          refine lv_iload hx hb dX0_numberNow_27 (lv_at hl 0 rfl) ?_
          refine lv_iconst (v := nI 3) hx hb dX0_numberNow_29 (by decide) ?_
          refine ln_icmp_ge (tgt := 58) hx hb dX0_numberNow_30 (by decide) (by omega) (by omega) (fun c30 => ?_) (fun c30 => ?_)
          · exact absurd c30 (by omega)
          · refine lv_iload_n hx hb dX0_numberNow_33 rfl (lv_at hl 1 rfl) ?_
            refine ln_if_le (tgt := 58) hx hb dX0_numberNow_34 (by decide) (by omega) (fun c34 => ?_) (fun c34 => ?_)
            · have e1 := c34
              refine lv_iload_n hx hb dX0_numberNow_58 rfl (lv_at hl 2 rfl) ?_
              exact rt_i hx hb hr hlocks (congrArg nI (by unfold numN; first | (rw [if_pos (Or.inl (by omega))]; done) | (rw [if_pos (Or.inr c9)]; done) | (rw [if_neg (by rintro (q | q); omega; rw [q] at c9; cases c9)]; unfold rev3; split; omega; split <;> omega))) dX0_numberNow_59
            · have e1 := c34
              refine lv_iload_n hx hb dX0_numberNow_37 rfl (lv_at hl 2 rfl) ?_
              refine lv_bipush (v := nI 10) hx hb dX0_numberNow_38 (by decide) ?_
              refine ln_imul hx hb dX0_numberNow_40 ?_
              refine lv_iload_n hx hb dX0_numberNow_41 rfl (lv_at hl 1 rfl) ?_
              refine lv_bipush (v := nI 10) hx hb dX0_numberNow_42 (by decide) ?_
              refine ln_irem hx hb dX0_numberNow_44 (by omega) (by omega) (by omega) ?_
              refine ln_iadd hx hb dX0_numberNow_45 ?_
              refine lv_istore_n (lv' := [(2, .int (nI ((((0 * 10) + ((s_fe σ (5 * f + 1)) % 10)) * 10) + (((s_fe σ (5 * f + 1)) / 10) % 10)))), (4, .int (nI (0 + 1))), (3, .int (nI ((s_fe σ (5 * f + 1)) / 10))), (0, .ref (ad (29 + f))), (1, .int (bI (s_la σ)))]) hx hb dX0_numberNow_46 rfl hl (by decide) rfl (fun ls hl => ?_)
              refine lv_iload_n hx hb dX0_numberNow_47 rfl (lv_at hl 2 rfl) ?_
              refine lv_bipush (v := nI 10) hx hb dX0_numberNow_48 (by decide) ?_
              refine ln_idiv hx hb dX0_numberNow_50 (by omega) (by omega) (by omega) ?_
              refine lv_istore_n (lv' := [(3, .int (nI (((s_fe σ (5 * f + 1)) / 10) / 10))), (2, .int (nI ((((0 * 10) + ((s_fe σ (5 * f + 1)) % 10)) * 10) + (((s_fe σ (5 * f + 1)) / 10) % 10)))), (4, .int (nI (0 + 1))), (0, .ref (ad (29 + f))), (1, .int (bI (s_la σ)))]) hx hb dX0_numberNow_51 rfl hl (by decide) rfl (fun ls hl => ?_)
              refine ln_iinc (lv' := [(4, .int (nI ((0 + 1) + 1))), (3, .int (nI (((s_fe σ (5 * f + 1)) / 10) / 10))), (2, .int (nI ((((0 * 10) + ((s_fe σ (5 * f + 1)) % 10)) * 10) + (((s_fe σ (5 * f + 1)) / 10) % 10)))), (0, .ref (ad (29 + f))), (1, .int (bI (s_la σ)))]) hx hb dX0_numberNow_52 hl (k := 2) (n := 1) rfl (by decide) rfl (fun ls hl => ?_)
              refine lv_goto (tgt := 27) hx hb dX0_numberNow_55 (by decide) ?_
              refine lv_iload hx hb dX0_numberNow_27 (lv_at hl 0 rfl) ?_
              refine lv_iconst (v := nI 3) hx hb dX0_numberNow_29 (by decide) ?_
              refine ln_icmp_ge (tgt := 58) hx hb dX0_numberNow_30 (by decide) (by omega) (by omega) (fun c30 => ?_) (fun c30 => ?_)
              · exact absurd c30 (by omega)
              · refine lv_iload_n hx hb dX0_numberNow_33 rfl (lv_at hl 1 rfl) ?_
                refine ln_if_le (tgt := 58) hx hb dX0_numberNow_34 (by decide) (by omega) (fun c34 => ?_) (fun c34 => ?_)
                · have e2 := c34
                  refine lv_iload_n hx hb dX0_numberNow_58 rfl (lv_at hl 2 rfl) ?_
                  exact rt_i hx hb hr hlocks (congrArg nI (by unfold numN; first | (rw [if_pos (Or.inl (by omega))]; done) | (rw [if_pos (Or.inr c9)]; done) | (rw [if_neg (by rintro (q | q); omega; rw [q] at c9; cases c9)]; unfold rev3; split; omega; split <;> omega))) dX0_numberNow_59
                · have e2 := c34
                  refine lv_iload_n hx hb dX0_numberNow_37 rfl (lv_at hl 2 rfl) ?_
                  refine lv_bipush (v := nI 10) hx hb dX0_numberNow_38 (by decide) ?_
                  refine ln_imul hx hb dX0_numberNow_40 ?_
                  refine lv_iload_n hx hb dX0_numberNow_41 rfl (lv_at hl 1 rfl) ?_
                  refine lv_bipush (v := nI 10) hx hb dX0_numberNow_42 (by decide) ?_
                  refine ln_irem hx hb dX0_numberNow_44 (by omega) (by omega) (by omega) ?_
                  refine ln_iadd hx hb dX0_numberNow_45 ?_
                  refine lv_istore_n (lv' := [(2, .int (nI ((((((0 * 10) + ((s_fe σ (5 * f + 1)) % 10)) * 10) + (((s_fe σ (5 * f + 1)) / 10) % 10)) * 10) + ((((s_fe σ (5 * f + 1)) / 10) / 10) % 10)))), (4, .int (nI ((0 + 1) + 1))), (3, .int (nI (((s_fe σ (5 * f + 1)) / 10) / 10))), (0, .ref (ad (29 + f))), (1, .int (bI (s_la σ)))]) hx hb dX0_numberNow_46 rfl hl (by decide) rfl (fun ls hl => ?_)
                  refine lv_iload_n hx hb dX0_numberNow_47 rfl (lv_at hl 2 rfl) ?_
                  refine lv_bipush (v := nI 10) hx hb dX0_numberNow_48 (by decide) ?_
                  refine ln_idiv hx hb dX0_numberNow_50 (by omega) (by omega) (by omega) ?_
                  refine lv_istore_n (lv' := [(3, .int (nI ((((s_fe σ (5 * f + 1)) / 10) / 10) / 10))), (2, .int (nI ((((((0 * 10) + ((s_fe σ (5 * f + 1)) % 10)) * 10) + (((s_fe σ (5 * f + 1)) / 10) % 10)) * 10) + ((((s_fe σ (5 * f + 1)) / 10) / 10) % 10)))), (4, .int (nI ((0 + 1) + 1))), (0, .ref (ad (29 + f))), (1, .int (bI (s_la σ)))]) hx hb dX0_numberNow_51 rfl hl (by decide) rfl (fun ls hl => ?_)
                  refine ln_iinc (lv' := [(4, .int (nI (((0 + 1) + 1) + 1))), (3, .int (nI ((((s_fe σ (5 * f + 1)) / 10) / 10) / 10))), (2, .int (nI ((((((0 * 10) + ((s_fe σ (5 * f + 1)) % 10)) * 10) + (((s_fe σ (5 * f + 1)) / 10) % 10)) * 10) + ((((s_fe σ (5 * f + 1)) / 10) / 10) % 10)))), (0, .ref (ad (29 + f))), (1, .int (bI (s_la σ)))]) hx hb dX0_numberNow_52 hl (k := 2) (n := 1) rfl (by decide) rfl (fun ls hl => ?_)
                  refine lv_goto (tgt := 27) hx hb dX0_numberNow_55 (by decide) ?_
                  refine lv_iload hx hb dX0_numberNow_27 (lv_at hl 0 rfl) ?_
                  refine lv_iconst (v := nI 3) hx hb dX0_numberNow_29 (by decide) ?_
                  refine ln_icmp_ge (tgt := 58) hx hb dX0_numberNow_30 (by decide) (by omega) (by omega) (fun c30 => ?_) (fun c30 => ?_)
                  · refine lv_iload_n hx hb dX0_numberNow_58 rfl (lv_at hl 2 rfl) ?_
                    exact rt_i hx hb hr hlocks (congrArg nI (by unfold numN; first | (rw [if_pos (Or.inl (by omega))]; done) | (rw [if_pos (Or.inr c9)]; done) | (rw [if_neg (by rintro (q | q); omega; rw [q] at c9; cases c9)]; unfold rev3; split; omega; split <;> omega))) dX0_numberNow_59
                  · exact absurd c30 (by omega)
    · refine lv_aload_n hx hb dX0_numberNow_12 rfl (lv_at hl 0 rfl) ?_
      refine va_get (D := D) (ci := 0) (v := .int (nI (s_fe σ (5 * f + 1)))) (C := RX0) (T := TX0) (N := 5) hx hb hts ni0 hown hK hP (29 + f) (cw_ferry cy ad aw σ J (t := f) (by omega)) rfl 1 (by decide) (hts _ flX0_15) (fun _ h => h) rfl dX0_numberNow_13 ?_
      exact rt_i hx hb hr hlocks (congrArg nI (by unfold numN; first | (rw [if_pos (Or.inl (by omega))]; done) | (rw [if_pos (Or.inr c9)]; done) | (rw [if_neg (by rintro (q | q); omega; rw [q] at c9; cases c9)]; unfold rev3; split; omega; split <;> omega))) dX0_numberNow_16
set_option maxHeartbeats 4000000 in
set_option maxRecDepth 100000 in
theorem k_X0_play (l : Launch) (D : va_G) (cy : Nat → ClassId) (ad aw : Nat → Nat) (σ : Sg) (J : Js) (f : Nat) (hw : wfS σ) (hf : f < 3) : MR l yX0_play qX0_play 0 [.ref (ad (29 + f))] D cy (cw cy ad aw σ J) (nI (plN σ f)) := by
  refine Met.ofW (cc := cX0_play) (maxL := 1) (ret := (some .int)) (by decide) rfl ?_
  intro p e s m args below meth c s₁ B hml hv
  obtain ⟨rfl, hP, hK, hN⟩ := hv
  have hx := B.exec
  have hb := B.bytes
  have hr := B.returns
  have hlocks := B.notSynchronized
  have hts : ∀ cq ∈ tg, cq.before ([.ref (ad (29 + f))] : List Value).toArray s = true := fun cq h => atoms_spec (ws := qX0_play) B.pre cq (List.mem_cons_of_mem _ h)
  have hown : s.vm.findClass RX0 = some m.cls := findClass_of_methodNamed B.named
  have hl := lv_entry ([.ref (ad (29 + f))]) (n := 1) (Nat.le_of_ble_eq_true rfl)
  rw [lg_entry_eq]
  generalize (lg_sl ([.ref (ad (29 + f))]) ++ List.replicate (1 - (lg_sl ([.ref (ad (29 + f))])).length) Slot.unset).toArray = ls at hl ⊢
  have hl : lv_has ls 1 [(0, .ref (ad (29 + f)))] := hl
  have hk := hw.2.2.2.1 f hf
  refine lv_aload_n hx hb dX0_play_0 rfl (lv_at hl 0 rfl) ?_
  refine va_get (D := D) (ci := 0) (v := .int (nI (s_fe σ (5 * f)))) (C := RX0) (T := TX0) (N := 5) hx hb hts ni0 hown hK hP (29 + f) (cw_ferry cy ad aw σ J (t := f) (by omega)) rfl 0 (by decide) (hts _ flX0_9) (fun _ h => h) rfl dX0_play_1 ?_
  refine lv_iconst (v := nI 1) hx hb dX0_play_4 (by decide) ?_
  refine ln_icmp_ne (tgt := 12) hx hb dX0_play_5 (by decide) (by omega) (by omega) (fun c5 => ?_) (fun c5 => ?_)
  · refine lv_iconst (v := nI 0) hx hb dX0_play_12 (by decide) ?_
    exact rt_i hx hb hr hlocks (congrArg nI (by unfold plN; first | (rw [if_pos c5]; done) | (rw [if_neg c5]))) dX0_play_13
  · refine lv_iconst (v := nI 1) hx hb dX0_play_8 (by decide) ?_
    refine lv_goto (tgt := 13) hx hb dX0_play_9 (by decide) ?_
    exact rt_i hx hb hr hlocks (congrArg nI (by unfold plN; first | (rw [if_pos c5]; done) | (rw [if_neg c5]))) dX0_play_13
set_option maxHeartbeats 4000000 in
set_option maxRecDepth 100000 in
theorem k_X3_hasThing (l : Launch) (D : va_G) (cy : Nat → ClassId) (ad aw : Nat → Nat) (σ : Sg) (J : Js) (x : Int32) (hw : wfS σ) : MR l yX3_hasThing qX3_hasThing 0 [.ref (ad 3), .int (x)] D cy (cw cy ad aw σ J) (bI (isIx (s_n σ) x)) := by
  refine Met.ofW (cc := cX3_hasThing) (maxL := 2) (ret := (some .boolean)) (by decide) rfl ?_
  intro p e s m args below meth c s₁ B hml hv
  obtain ⟨rfl, hP, hK, hN⟩ := hv
  have hx := B.exec
  have hb := B.bytes
  have hr := B.returns
  have hlocks := B.notSynchronized
  have hts : ∀ cq ∈ tg, cq.before ([.ref (ad 3), .int (x)] : List Value).toArray s = true := fun cq h => atoms_spec (ws := qX3_hasThing) B.pre cq (List.mem_cons_of_mem _ h)
  have hown : s.vm.findClass RX3 = some m.cls := findClass_of_methodNamed B.named
  have hl := lv_entry ([.ref (ad 3), .int (x)]) (n := 2) (Nat.le_of_ble_eq_true rfl)
  rw [lg_entry_eq]
  generalize (lg_sl ([.ref (ad 3), .int (x)]) ++ List.replicate (2 - (lg_sl ([.ref (ad 3), .int (x)])).length) Slot.unset).toArray = ls at hl ⊢
  have hl : lv_has ls 2 [(0, .ref (ad 3)), (1, .int (x))] := hl
  have hw1 := hw.1
  have hw2 := hw.2.1
  refine lv_iload_n hx hb dX3_hasThing_0 rfl (lv_at hl 1 rfl) ?_
  refine lv_if_lt (tgt := 16) hx hb dX3_hasThing_1 (by decide) (fun c1 => ?_) (fun c1 => ?_)
  · refine lv_iconst (v := nI 0) hx hb dX3_hasThing_16 (by decide) ?_
    refine ln_eq bI_f.symm ?_
    exact rt_z hx hb hr hlocks (by unfold isIx; first | (rw [decide_eq_false (fun q => absurd c1 (Int32.not_lt.mpr q.1))]; done) | (rw [decide_eq_false (fun q => absurd q.2 (Int32.not_lt.mpr c9))]; done) | (rw [decide_eq_true ⟨Int32.not_lt.mp c1, Int32.not_le.mp c9⟩])) dX3_hasThing_17
  · refine lv_iload_n hx hb dX3_hasThing_4 rfl (lv_at hl 1 rfl) ?_
    refine lv_aload_n hx hb dX3_hasThing_5 rfl (lv_at hl 0 rfl) ?_
    refine va_get (D := D) (ci := 3) (v := .int (nI (s_n σ))) (C := RX3) (T := TX3) (N := 9) hx hb hts ni3 hown hK hP 3 (cw_c3 cy ad aw σ J) rfl 3 (by decide) (hts _ flX3_30) (fun _ h => h) rfl dX3_hasThing_6 ?_
    refine lv_icmp_ge (tgt := 16) hx hb dX3_hasThing_9 (by decide) (fun c9 => ?_) (fun c9 => ?_)
    · refine lv_iconst (v := nI 0) hx hb dX3_hasThing_16 (by decide) ?_
      refine ln_eq bI_f.symm ?_
      exact rt_z hx hb hr hlocks (by unfold isIx; first | (rw [decide_eq_false (fun q => absurd c1 (Int32.not_lt.mpr q.1))]; done) | (rw [decide_eq_false (fun q => absurd q.2 (Int32.not_lt.mpr c9))]; done) | (rw [decide_eq_true ⟨Int32.not_lt.mp c1, Int32.not_le.mp c9⟩])) dX3_hasThing_17
    · refine lv_iconst (v := nI 1) hx hb dX3_hasThing_12 (by decide) ?_
      refine lv_goto (tgt := 17) hx hb dX3_hasThing_13 (by decide) ?_
      refine ln_eq bI_t.symm ?_
      exact rt_z hx hb hr hlocks (by unfold isIx; first | (rw [decide_eq_false (fun q => absurd c1 (Int32.not_lt.mpr q.1))]; done) | (rw [decide_eq_false (fun q => absurd q.2 (Int32.not_lt.mpr c9))]; done) | (rw [decide_eq_true ⟨Int32.not_lt.mp c1, Int32.not_le.mp c9⟩])) dX3_hasThing_17
set_option maxHeartbeats 4000000 in
set_option maxRecDepth 100000 in
theorem k_X3_hasFerry (l : Launch) (D : va_G) (cy : Nat → ClassId) (ad aw : Nat → Nat) (σ : Sg) (J : Js) (x : Int32) (hw : wfS σ) : MR l yX3_hasFerry qX3_hasFerry 0 [.ref (ad 3), .int (x)] D cy (cw cy ad aw σ J) (bI (isIx (s_m σ) x)) := by
  refine Met.ofW (cc := cX3_hasFerry) (maxL := 2) (ret := (some .boolean)) (by decide) rfl ?_
  intro p e s m args below meth c s₁ B hml hv
  obtain ⟨rfl, hP, hK, hN⟩ := hv
  have hx := B.exec
  have hb := B.bytes
  have hr := B.returns
  have hlocks := B.notSynchronized
  have hts : ∀ cq ∈ tg, cq.before ([.ref (ad 3), .int (x)] : List Value).toArray s = true := fun cq h => atoms_spec (ws := qX3_hasFerry) B.pre cq (List.mem_cons_of_mem _ h)
  have hown : s.vm.findClass RX3 = some m.cls := findClass_of_methodNamed B.named
  have hl := lv_entry ([.ref (ad 3), .int (x)]) (n := 2) (Nat.le_of_ble_eq_true rfl)
  rw [lg_entry_eq]
  generalize (lg_sl ([.ref (ad 3), .int (x)]) ++ List.replicate (2 - (lg_sl ([.ref (ad 3), .int (x)])).length) Slot.unset).toArray = ls at hl ⊢
  have hl : lv_has ls 2 [(0, .ref (ad 3)), (1, .int (x))] := hl
  have hw1 := hw.1
  have hw2 := hw.2.1
  refine lv_iload_n hx hb dX3_hasFerry_0 rfl (lv_at hl 1 rfl) ?_
  refine lv_if_lt (tgt := 16) hx hb dX3_hasFerry_1 (by decide) (fun c1 => ?_) (fun c1 => ?_)
  · refine lv_iconst (v := nI 0) hx hb dX3_hasFerry_16 (by decide) ?_
    refine ln_eq bI_f.symm ?_
    exact rt_z hx hb hr hlocks (by unfold isIx; first | (rw [decide_eq_false (fun q => absurd c1 (Int32.not_lt.mpr q.1))]; done) | (rw [decide_eq_false (fun q => absurd q.2 (Int32.not_lt.mpr c9))]; done) | (rw [decide_eq_true ⟨Int32.not_lt.mp c1, Int32.not_le.mp c9⟩])) dX3_hasFerry_17
  · refine lv_iload_n hx hb dX3_hasFerry_4 rfl (lv_at hl 1 rfl) ?_
    refine lv_aload_n hx hb dX3_hasFerry_5 rfl (lv_at hl 0 rfl) ?_
    refine va_get (D := D) (ci := 3) (v := .int (nI (s_m σ))) (C := RX3) (T := TX3) (N := 9) hx hb hts ni3 hown hK hP 3 (cw_c3 cy ad aw σ J) rfl 4 (by decide) (hts _ flX3_34) (fun _ h => h) rfl dX3_hasFerry_6 ?_
    refine lv_icmp_ge (tgt := 16) hx hb dX3_hasFerry_9 (by decide) (fun c9 => ?_) (fun c9 => ?_)
    · refine lv_iconst (v := nI 0) hx hb dX3_hasFerry_16 (by decide) ?_
      refine ln_eq bI_f.symm ?_
      exact rt_z hx hb hr hlocks (by unfold isIx; first | (rw [decide_eq_false (fun q => absurd c1 (Int32.not_lt.mpr q.1))]; done) | (rw [decide_eq_false (fun q => absurd q.2 (Int32.not_lt.mpr c9))]; done) | (rw [decide_eq_true ⟨Int32.not_lt.mp c1, Int32.not_le.mp c9⟩])) dX3_hasFerry_17
    · refine lv_iconst (v := nI 1) hx hb dX3_hasFerry_12 (by decide) ?_
      refine lv_goto (tgt := 17) hx hb dX3_hasFerry_13 (by decide) ?_
      refine ln_eq bI_t.symm ?_
      exact rt_z hx hb hr hlocks (by unfold isIx; first | (rw [decide_eq_false (fun q => absurd c1 (Int32.not_lt.mpr q.1))]; done) | (rw [decide_eq_false (fun q => absurd q.2 (Int32.not_lt.mpr c9))]; done) | (rw [decide_eq_true ⟨Int32.not_lt.mp c1, Int32.not_le.mp c9⟩])) dX3_hasFerry_17
set_option maxHeartbeats 4000000 in
set_option maxRecDepth 100000 in
theorem k_X3_hasAll (l : Launch) (D : va_G) (cy : Nat → ClassId) (ad aw : Nat → Nat) (σ : Sg) (J : Js) (x : Int32) (hw : wfS σ) : MR l yX3_hasAll qX3_hasAll 0 [.ref (ad 3), .int (x)] D cy (cw cy ad aw σ J) (bI (isIx (2 ^ s_n σ) x)) := by
  refine Met.ofW (cc := cX3_hasAll) (maxL := 2) (ret := (some .boolean)) (by decide) rfl ?_
  intro p e s m args below meth c s₁ B hml hv
  obtain ⟨rfl, hP, hK, hN⟩ := hv
  have hx := B.exec
  have hb := B.bytes
  have hr := B.returns
  have hlocks := B.notSynchronized
  have hts : ∀ cq ∈ tg, cq.before ([.ref (ad 3), .int (x)] : List Value).toArray s = true := fun cq h => atoms_spec (ws := qX3_hasAll) B.pre cq (List.mem_cons_of_mem _ h)
  have hown : s.vm.findClass RX3 = some m.cls := findClass_of_methodNamed B.named
  have hl := lv_entry ([.ref (ad 3), .int (x)]) (n := 2) (Nat.le_of_ble_eq_true rfl)
  rw [lg_entry_eq]
  generalize (lg_sl ([.ref (ad 3), .int (x)]) ++ List.replicate (2 - (lg_sl ([.ref (ad 3), .int (x)])).length) Slot.unset).toArray = ls at hl ⊢
  have hl : lv_has ls 2 [(0, .ref (ad 3)), (1, .int (x))] := hl
  have hw1 := hw.1
  have hw2 := hw.2.1
  have hp8 := pw_8 hw1
  have hpp := pw_pos (s_n σ)
  have hov := ov_lt hw
  have hmo := mo_lt hw
  have hof := of_lt hw
  refine lv_iload_n hx hb dX3_hasAll_0 rfl (lv_at hl 1 rfl) ?_
  refine lv_if_lt (tgt := 18) hx hb dX3_hasAll_1 (by decide) (fun c1 => ?_) (fun c1 => ?_)
  · refine lv_iconst (v := nI 0) hx hb dX3_hasAll_18 (by decide) ?_
    refine ln_eq bI_f.symm ?_
    exact rt_z hx hb hr hlocks (by unfold isIx; first | (rw [decide_eq_false (fun q => absurd c1 (Int32.not_lt.mpr q.1))]; done) | (rw [decide_eq_false (fun q => absurd q.2 (Int32.not_lt.mpr c11))]; done) | (rw [decide_eq_true ⟨Int32.not_lt.mp c1, Int32.not_le.mp c11⟩])) dX3_hasAll_19
  · refine lv_iload_n hx hb dX3_hasAll_4 rfl (lv_at hl 1 rfl) ?_
    refine lv_iconst (v := nI 1) hx hb dX3_hasAll_5 (by decide) ?_
    refine lv_aload_n hx hb dX3_hasAll_6 rfl (lv_at hl 0 rfl) ?_
    refine va_get (D := D) (ci := 3) (v := .int (nI (s_n σ))) (C := RX3) (T := TX3) (N := 9) hx hb hts ni3 hown hK hP 3 (cw_c3 cy ad aw σ J) rfl 3 (by decide) (hts _ flX3_30) (fun _ h => h) rfl dX3_hasAll_7 ?_
    refine ln_ishl hx hb dX3_hasAll_10 (by omega) (by omega) ?_
    refine ln_nat (show 1 * 2 ^ (s_n σ) = 2 ^ s_n σ from Nat.one_mul _) ?_
    refine lv_icmp_ge (tgt := 18) hx hb dX3_hasAll_11 (by decide) (fun c11 => ?_) (fun c11 => ?_)
    · refine lv_iconst (v := nI 0) hx hb dX3_hasAll_18 (by decide) ?_
      refine ln_eq bI_f.symm ?_
      exact rt_z hx hb hr hlocks (by unfold isIx; first | (rw [decide_eq_false (fun q => absurd c1 (Int32.not_lt.mpr q.1))]; done) | (rw [decide_eq_false (fun q => absurd q.2 (Int32.not_lt.mpr c11))]; done) | (rw [decide_eq_true ⟨Int32.not_lt.mp c1, Int32.not_le.mp c11⟩])) dX3_hasAll_19
    · refine lv_iconst (v := nI 1) hx hb dX3_hasAll_14 (by decide) ?_
      refine lv_goto (tgt := 19) hx hb dX3_hasAll_15 (by decide) ?_
      refine ln_eq bI_t.symm ?_
      exact rt_z hx hb hr hlocks (by unfold isIx; first | (rw [decide_eq_false (fun q => absurd c1 (Int32.not_lt.mpr q.1))]; done) | (rw [decide_eq_false (fun q => absurd q.2 (Int32.not_lt.mpr c11))]; done) | (rw [decide_eq_true ⟨Int32.not_lt.mp c1, Int32.not_le.mp c11⟩])) dX3_hasAll_19
