def lexLe (w : Nat → Nat) (a b : Nat) : Prop := w a < w b ∨ (w a = w b ∧ a ≤ b)
theorem lwt_char {p : Nat → Bool} {w : Nat → Nat} : ∀ {n b : Nat}, lwt p w n = some b → p b = true ∧ ∀ j, j < n → p j = true → lexLe w b j
  | 0, b, h => by cases h
  | n + 1, b, h => by
    rw [lwt] at h
    by_cases hp : p n = true
    · rw [if_pos hp] at h
      cases hq : lwt p w n with
      | none =>
        rw [hq] at h
        cases h
        refine ⟨hp, fun j hj hpj => ?_⟩
        rcases (show j = n ∨ j < n by omega) with rfl | q
        · exact Or.inr ⟨rfl, Nat.le_refl _⟩
        · exact absurd hpj (by rw [lwt_no hq j q]; decide)
      | some c =>
        rw [hq] at h
        have ih := lwt_char hq
        dsimp only at h
        by_cases hlt : w n < w c
        · rw [if_pos hlt] at h
          cases h
          refine ⟨hp, fun j hj hpj => ?_⟩
          rcases (show j = n ∨ j < n by omega) with rfl | q
          · exact Or.inr ⟨rfl, Nat.le_refl _⟩
          · rcases ih.2 j q hpj with r | r
            · exact Or.inl (by omega)
            · exact Or.inl (by omega)
        · rw [if_neg hlt] at h
          cases h
          refine ⟨ih.1, fun j hj hpj => ?_⟩
          rcases (show j = n ∨ j < n by omega) with rfl | q
          · have := lwt_lt hq
            unfold lexLe
            omega
          · exact ih.2 j q hpj
    · rw [if_neg hp] at h
      have ih := lwt_char h
      refine ⟨ih.1, fun j hj hpj => ?_⟩
      rcases (show j = n ∨ j < n by omega) with rfl | q
      · exact absurd hpj hp
      · exact ih.2 j q hpj
where
  lwt_no {p : Nat → Bool} {w : Nat → Nat} : ∀ {n : Nat}, lwt p w n = none → ∀ j, j < n → p j = false
    | 0, _, j, hj => absurd hj (by omega)
    | n + 1, h, j, hj => by
      rw [lwt] at h
      by_cases hp : p n = true
      · rw [if_pos hp] at h
        cases hq : lwt p w n with
        | none => rw [hq] at h; cases h
        | some c => rw [hq] at h; dsimp only at h; split at h <;> cases h
      · rw [if_neg hp] at h
        rcases (show j = n ∨ j < n by omega) with rfl | q
        · exact Bool.eq_false_iff.mpr hp
        · exact lwt_no h j q
theorem lwt_ex {p : Nat → Bool} {w : Nat → Nat} {n j : Nat} (hj : j < n) (hp : p j = true) : ∃ b, lwt p w n = some b := by
  cases hq : lwt p w n with
  | none => exact absurd hp (by rw [lwt_char.lwt_no hq j hj]; decide)
  | some b => exact ⟨b, rfl⟩
/-- the same least, where the wider candidates have lesser ones among the narrower -/
theorem lwt_same {p q : Nat → Bool} {w : Nat → Nat} {n : Nat} (h1 : ∀ j, j < n → p j = true → q j = true) (h2 : ∀ j, j < n → q j = true → p j = false → ∃ k, k < n ∧ p k = true ∧ w k < w j) : lwt q w n = lwt p w n := by
  cases hq : lwt q w n with
  | none =>
    cases hp : lwt p w n with
    | none => rfl
    | some b => exact absurd (h1 b (lwt_lt hp) (lwt_char hp).1) (by rw [lwt_char.lwt_no hq b (lwt_lt hp)]; decide)
  | some b =>
    have cq := lwt_char hq
    have hb := lwt_lt hq
    have pb : p b = true := by
      cases hpb : p b with
      | true => rfl
      | false =>
        obtain ⟨k, hk, pk, wk⟩ := h2 b hb cq.1 hpb
        rcases cq.2 k hk (h1 k hk pk) with r | r <;> omega
    obtain ⟨c, hc⟩ := lwt_ex (w := w) hb pb
    rw [hc]
    have cp := lwt_char hc
    have hcn := lwt_lt hc
    have r1 := cq.2 c hcn (h1 c hcn cp.1)
    have r2 := cp.2 b hb pb
    unfold lexLe at r1 r2
    exact congrArg some (by omega)
def clP (σ : Sg) (f x h : Nat) : Bool := decide (h &&& x = h) && fit σ f (pdA σ x 0 - htA σ h) 0
theorem sum_add {f g k : Nat → Nat} : ∀ {n : Nat}, (∀ t, t < n → f t + g t = k t) → sumN f n + sumN g n = sumN k n
  | 0, _ => rfl
  | n + 1, h => by
    have h1 := sum_add (n := n) (fun t ht => h t (by omega))
    have h2 := h n (by omega)
    rw [sumN, sumN, sumN]; omega
theorem pd_ht {σ : Sg} {x h : Nat} (hh : h &&& x = h) : pdA σ x h + htA σ h = pdA σ x 0 := by
  refine sum_add (fun t _ => ?_)
  have hb : (h &&& x).testBit t = h.testBit t := by rw [hh]
  rw [Nat.testBit_and] at hb
  unfold pd
  rw [Nat.zero_testBit]
  cases h1 : h.testBit t <;> cases h2 : x.testBit t <;> simp_all
theorem pd_all {σ : Sg} (x o : Nat) : pdA σ x o + htA σ (x &&& o) = pdA σ x 0 := by
  refine sum_add (fun t _ => ?_)
  unfold pd
  rw [Nat.zero_testBit, Nat.testBit_and]
  cases h1 : o.testBit t <;> cases h2 : x.testBit t <;> simp
theorem allN_iff {p : Nat → Bool} : ∀ {n : Nat}, allN p n = true ↔ ∀ t, t < n → p t = true
  | 0 => ⟨fun _ t h => absurd h (by omega), fun _ => rfl⟩
  | n + 1 => by
    rw [allN, Bool.and_eq_true, allN_iff]
    constructor
    · rintro ⟨h1, h2⟩ t ht
      rcases (show t = n ∨ t < n by omega) with rfl | q
      · exact h2
      · exact h1 t q
    · intro h
      exact ⟨fun t ht => h t (by omega), h n (by omega)⟩
theorem sub_and {h x m : Nat} (hh : h &&& x = h) : (h &&& m) &&& x = h &&& m := by
  rw [Nat.and_assoc, Nat.and_comm m x, ← Nat.and_assoc, hh]
theorem sum_lt {f g : Nat → Nat} {n t : Nat} (hle : ∀ k, k < n → f k ≤ g k) (ht : t < n) (hlt : f t < g t) : sumN f n < sumN g n := by
  induction n with
  | zero => omega
  | succ n ih =>
    rw [sumN, sumN]
    have h1 := hle n (by omega)
    rcases (show t = n ∨ t < n by omega) with rfl | q
    · have h2 : sumN f t ≤ sumN g t := by
        clear ih ht hlt h1
        induction t with
        | zero => exact Nat.le_refl _
        | succ t ih => rw [sumN, sumN]; have := ih (fun k hk => hle k (by omega)); have := hle t (by omega); omega
      omega
    · have := ih (fun k hk => hle k (by omega)) q; omega
theorem hats_eq {σ : Sg} (hw : wfS σ) {f x : Nat} (hx : x < 2 ^ s_n σ) (hb : board σ f x (s_ov σ) (s_mo σ) = true) (hr : bits x ≤ s_fe σ (5 * f + 3)) : lwt (clP σ f x) bits (2 ^ s_n σ) = haB σ f x := by
  have h8 := hw.1
  have hR : ∀ h, isR σ f x (s_ov σ) (s_mo σ) h = fit σ f (pdA σ x h) 0 := fun h => by rw [isR, hb, decide_eq_true hr]; rfl
  have hfit : ∀ h, h &&& x = h → pdA σ x 0 - htA σ h = pdA σ x h := fun h hh => by have := pd_ht (σ := σ) hh; omega
  refine lwt_same (fun j hj hp => ?_) (fun j hj hq hp => ?_)
  · rw [haP, Bool.and_eq_true, hR] at hp
    obtain ⟨h1, h2⟩ := hp
    rw [hatOk, Bool.and_eq_true, decide_eq_true_iff] at h1
    rw [clP, decide_eq_true h1.1, hfit j h1.1, h2]; rfl
  · rw [clP, Bool.and_eq_true, decide_eq_true_iff] at hq
    obtain ⟨hs, hf2⟩ := hq
    rw [hfit j hs] at hf2
    rw [haP, hR, hf2, Bool.and_true, hatOk, decide_eq_true hs, Bool.true_and] at hp
    -- some thing of j has no hat
    have hex : ∃ t, t < s_n σ ∧ j.testBit t = true ∧ ¬ s_th σ (6 * t) < 2 := by
      refine Classical.byContradiction (fun hne => ?_)
      have : allN (fun t => !j.testBit t || decide (s_th σ (6 * t) < 2)) (s_n σ) = true := allN_iff.mpr (fun t ht => by
        cases hjt : j.testBit t with
        | false => rfl
        | true =>
          by_cases q : s_th σ (6 * t) < 2
          · rw [decide_eq_true q]; rfl
          · exact absurd ⟨t, ht, hjt, q⟩ hne)
      rw [this] at hp
      cases hp
    obtain ⟨t, ht, hjt, hk⟩ := hex
    have hs' := sub_and (m := whN σ) hs
    have hpd : pdA σ x (j &&& whN σ) = pdA σ x j := by
      refine sumN_cong (fun u hu => ?_)
      have hwu := hw.2.2.1 u (by omega)
      unfold pd
      rw [Nat.testBit_and, wh_bit hu]
      cases hju : j.testBit u with
      | false => rfl
      | true =>
        by_cases q : s_th σ (6 * u) < 2
        · rw [decide_eq_true q]; rfl
        · rw [decide_eq_false q, hwu.2.2.2.2.2.2 (by omega)]; simp
    refine ⟨j &&& whN σ, and_lt hj, ?_, ?_⟩
    · rw [haP, hR, hpd, hf2, Bool.and_true, hatOk, decide_eq_true hs', Bool.true_and]
      refine allN_iff.mpr (fun u hu => ?_)
      rw [Nat.testBit_and, wh_bit hu]
      by_cases q : s_th σ (6 * u) < 2
      · rw [decide_eq_true q]; simp
      · rw [decide_eq_false q]; simp
    · unfold bits
      refine sum_lt (t := t) (fun u _ => ?_) (by omega) ?_
      · rw [Nat.testBit_and]
        cases j.testBit u <;> cases (whN σ).testBit u <;> decide
      · rw [Nat.testBit_and, wh_bit ht, decide_eq_false hk, hjt]; decide
theorem lwt_none {p : Nat → Bool} {w : Nat → Nat} : ∀ {n : Nat}, (∀ j, p j = false) → lwt p w n = none
  | 0, _ => rfl
  | n + 1, h => by rw [lwt, h n]; exact lwt_none h
theorem hats_no {σ : Sg} {f x : Nat} (h : (onB ((s_mo σ).testBit f) x (s_ov σ) && (decide (bits x ≤ s_fe σ (5 * f + 3)) && hasP σ x)) = false) : haB σ f x = none := by
  refine lwt_none (fun j => ?_)
  rw [haP, isR, board]
  cases h1 : onB ((s_mo σ).testBit f) x (s_ov σ) <;> cases h2 : decide (bits x ≤ s_fe σ (5 * f + 3)) <;> cases h3 : hasP σ x <;> simp_all
theorem hats_go {σ : Sg} {f x : Nat} (h1 : onB ((s_mo σ).testBit f) x (s_ov σ) = true) (h : (decide (bits x ≤ s_fe σ (5 * f + 3)) && hasP σ x) = true) : board σ f x (s_ov σ) (s_mo σ) = true ∧ bits x ≤ s_fe σ (5 * f + 3) := by
  rw [Bool.and_eq_true, decide_eq_true_iff] at h
  exact ⟨by rw [board, h1, h.2]; rfl, h.1⟩
theorem clP_t {σ : Sg} {f x h : Nat} (hh : h < 2 ^ 31) (a : h &&& (x ^^^ (2 ^ 32 - 1)) = 0) (b : fit σ f (pdA σ x 0 - htA σ h) 0 = true) : clP σ f x h = true := by rw [clP, decide_eq_true ((and_not_0 hh).mp a), b]; rfl
theorem clP_f1 {σ : Sg} {f x h : Nat} (hh : h < 2 ^ 31) (a : 0 < h &&& (x ^^^ (2 ^ 32 - 1))) : clP σ f x h = false := by rw [clP, decide_eq_false (fun q => by rw [(and_not_0 hh).mpr q] at a; exact absurd a (by decide))]; rfl
theorem clP_f2 {σ : Sg} {f x h : Nat} (b : fit σ f (pdA σ x 0 - htA σ h) 0 = false) : clP σ f x h = false := by rw [clP, b, Bool.and_false]
set_option maxHeartbeats 4000000 in
set_option maxRecDepth 100000 in
theorem k_X3_fewestHatsOff (l : Launch) (D : va_G) (cy : Nat → ClassId) (ad aw : Nat → Nat) (σ : Sg) (J : Js) (f x : Nat) (hw : wfS σ) (hj : wfJ σ J) (hf : f < 3) (h1 : x < 2 ^ s_n σ) : MR l yX3_fewestHatsOff qX3_fewestHatsOff 4 [.ref (ad 3), .int (nI (f)), .int (nI (x))] D cy (cw cy ad aw σ J) (oI (haB σ f x)) := by
  refine Met.ofW (cc := cX3_fewestHatsOff) (maxL := 6) (ret := (some .int)) (by decide) rfl ?_
  intro p e s m args below meth c s₁ B hml hv
  obtain ⟨rfl, hP, hK, hN⟩ := hv
  have hx := B.exec
  have hb := B.bytes
  have hr := B.returns
  have hlocks := B.notSynchronized
  have hts : ∀ cq ∈ tg, cq.before ([.ref (ad 3), .int (nI (f)), .int (nI (x))] : List Value).toArray s = true := fun cq h => atoms_spec (ws := qX3_fewestHatsOff) B.pre cq (List.mem_cons_of_mem _ h)
  have hown : s.vm.findClass RX3 = some m.cls := findClass_of_methodNamed B.named
  have hl := lv_entry ([.ref (ad 3), .int (nI (f)), .int (nI (x))]) (n := 6) (Nat.le_of_ble_eq_true rfl)
  rw [lg_entry_eq]
  generalize (lg_sl ([.ref (ad 3), .int (nI (f)), .int (nI (x))]) ++ List.replicate (6 - (lg_sl ([.ref (ad 3), .int (nI (f)), .int (nI (x))])).length) Slot.unset).toArray = ls at hl ⊢
  have hl : lv_has ls 6 [(0, .ref (ad 3)), (1, .int (nI (f))), (2, .int (nI (x)))] := hl
  have hw1 := hw.1
  have hw2 := hw.2.1
  have hp8 := pw_8 hw1
  have hpp := pw_pos (s_n σ)
  have hov := ov_lt hw
  have hmo := mo_lt hw
  have hof := of_lt hw
  have hk := hw.2.2.2.1 f hf
  refine lv_aload_n hx hb dX3_fewestHatsOff_0 rfl (lv_at hl 0 rfl) ?_
  refine lv_iload_n hx hb dX3_fewestHatsOff_1 rfl (lv_at hl 1 rfl) ?_
  refine lv_iload_n hx hb dX3_fewestHatsOff_2 rfl (lv_at hl 2 rfl) ?_
  refine lv_aload_n hx hb dX3_fewestHatsOff_3 rfl (lv_at hl 0 rfl) ?_
  refine va_get (D := D) (ci := 3) (v := .ref (ad 6)) (C := RX3) (T := TX3) (N := 9) hx hb hts ni3 hown hK hP 3 (cw_c3 cy ad aw σ J) rfl 2 (by decide) (hts _ flX3_26) (fun _ h => h) rfl dX3_fewestHatsOff_4 ?_
  refine va_get (D := D) (ci := 5) (v := .int (nI (s_ov σ + 256 * s_mo σ))) (C := RX5) (T := TX5) (N := 5) hx hb hts ni5 hown hK hP 6 (cw_c6 cy ad aw σ J) rfl 1 (by decide) (hts _ flX3_112) (fun _ h => h) rfl dX3_fewestHatsOff_7 ?_
  refine cr_v (n := 3) (As := [.int (nI (f)), .int (nI (x)), .int (nI (s_ov σ + 256 * s_mo σ))]) (rest := []) ⟨hx, hb, hml, hown, hts⟩ (k_X3_isOnBankOf l D cy ad aw σ J f x (s_ov σ) (s_mo σ) (by omega) (by omega) (by omega) (by omega)) gvX3_194 (by decide +kernel) ⟨Nat.le_of_ble_eq_true rfl, Nat.le_of_ble_eq_true rfl⟩ hK hN hP 3 (cw_c3 cy ad aw σ J) rfl rfl hl.1 rfl (Nat.le_of_ble_eq_true rfl) dX3_fewestHatsOff_10 ⟨Nat.zero_le _, Nat.zero_le _⟩ ?_
  refine lb_if_eq (tgt := 25) hx hb dX3_fewestHatsOff_13 (by decide) (fun c13 => ?_) (fun c13 => ?_)
  · refine lv_iconst (v := -1) hx hb dX3_fewestHatsOff_25 (by decide) ?_
    exact rt_i hx hb hr hlocks (by first | (rw [hats_no (by rw [c13]; rfl)]; rfl; done) | (rw [hats_no (by rw [c13, c22]; rfl)]; rfl)) dX3_fewestHatsOff_26
  · refine lv_aload_n hx hb dX3_fewestHatsOff_16 rfl (lv_at hl 0 rfl) ?_
    refine lv_iload_n hx hb dX3_fewestHatsOff_17 rfl (lv_at hl 1 rfl) ?_
    refine lv_iload_n hx hb dX3_fewestHatsOff_18 rfl (lv_at hl 2 rfl) ?_
    refine cr_v (n := 2) (As := [.int (nI (f)), .int (nI (x))]) (rest := []) ⟨hx, hb, hml, hown, hts⟩ (k_X3_mayGoAboard l D cy ad aw σ J f x hw hj (by omega) (by omega)) gvX3_184 (by decide +kernel) ⟨Nat.le_of_ble_eq_true rfl, Nat.le_of_ble_eq_true rfl⟩ hK hN hP 3 (cw_c3 cy ad aw σ J) rfl rfl hl.1 rfl (Nat.le_of_ble_eq_true rfl) dX3_fewestHatsOff_19 ⟨Nat.zero_le _, Nat.zero_le _⟩ ?_
    refine lb_if_ne (tgt := 27) hx hb dX3_fewestHatsOff_22 (by decide) (fun c22 => ?_) (fun c22 => ?_)
    · have hgo := hats_go c13 c22
      have hall := pd_all (σ := σ) x (s_of σ)
      have hall2 := pdA_le hw x 0
      have hax : x &&& s_of σ < 256 := and_lt (by omega)
      refine lv_aload_n hx hb dX3_fewestHatsOff_27 rfl (lv_at hl 0 rfl) ?_
      refine lv_iload_n hx hb dX3_fewestHatsOff_28 rfl (lv_at hl 2 rfl) ?_
      refine cr_v (n := 1) (As := [.int (nI (x))]) (rest := []) ⟨hx, hb, hml, hown, hts⟩ (k_X3_poundsOf l D cy ad aw σ J x hw hj (by omega)) gvX3_188 (by decide +kernel) ⟨Nat.le_of_ble_eq_true rfl, Nat.le_of_ble_eq_true rfl⟩ hK hN hP 3 (cw_c3 cy ad aw σ J) rfl rfl hl.1 rfl (Nat.le_of_ble_eq_true rfl) dX3_fewestHatsOff_29 ⟨Nat.zero_le _, Nat.zero_le _⟩ ?_
      refine lv_aload_n hx hb dX3_fewestHatsOff_32 rfl (lv_at hl 0 rfl) ?_
      refine lv_iload_n hx hb dX3_fewestHatsOff_33 rfl (lv_at hl 2 rfl) ?_
      refine lv_aload_n hx hb dX3_fewestHatsOff_34 rfl (lv_at hl 0 rfl) ?_
      refine va_get (D := D) (ci := 3) (v := .ref (ad 6)) (C := RX3) (T := TX3) (N := 9) hx hb hts ni3 hown hK hP 3 (cw_c3 cy ad aw σ J) rfl 2 (by decide) (hts _ flX3_26) (fun _ h => h) rfl dX3_fewestHatsOff_35 ?_
      refine va_get (D := D) (ci := 5) (v := .int (nI (s_of σ))) (C := RX5) (T := TX5) (N := 5) hx hb hts ni5 hown hK hP 6 (cw_c6 cy ad aw σ J) rfl 2 (by decide) (hts _ flX3_126) (fun _ h => h) rfl dX3_fewestHatsOff_38 ?_
      refine ln_iand hx hb dX3_fewestHatsOff_41 ?_
      refine cr_v (n := 1) (As := [.int (nI (x &&& (s_of σ)))]) (rest := [.int (nI (pdA σ x (s_of σ)))]) ⟨hx, hb, hml, hown, hts⟩ (k_X3_hatsOfAll l D cy ad aw σ J (x &&& (s_of σ)) hw (by omega)) gvX3_200 (by decide +kernel) ⟨Nat.le_of_ble_eq_true rfl, Nat.le_of_ble_eq_true rfl⟩ hK hN hP 3 (cw_c3 cy ad aw σ J) rfl rfl hl.1 rfl (Nat.le_of_ble_eq_true rfl) dX3_fewestHatsOff_42 ⟨Nat.zero_le _, Nat.zero_le _⟩ ?_
      refine ln_iadd hx hb dX3_fewestHatsOff_45 ?_
      refine ln_nat (show (pdA σ x (s_of σ)) + (htA σ (x &&& (s_of σ))) = pdA σ x 0 from hall) ?_
      refine lv_istore_n (lv' := [(3, .int (nI (pdA σ x 0))), (0, .ref (ad 3)), (1, .int (nI (f))), (2, .int (nI (x)))]) hx hb dX3_fewestHatsOff_46 rfl hl (by decide) rfl (fun ls hl => ?_)
      refine lv_iconst (v := -1) hx hb dX3_fewestHatsOff_47 (by decide) ?_
      refine lv_istore (lv' := [(4, .int (-1)), (3, .int (nI (pdA σ x 0))), (0, .ref (ad 3)), (1, .int (nI (f))), (2, .int (nI (x)))]) hx hb dX3_fewestHatsOff_48 hl (by decide) rfl (fun ls hl => ?_)
      refine lv_iconst (v := nI 0) hx hb dX3_fewestHatsOff_50 (by decide) ?_
      refine lv_istore (lv' := [(5, .int (nI (0))), (4, .int (-1)), (3, .int (nI (pdA σ x 0))), (0, .ref (ad 3)), (1, .int (nI (f))), (2, .int (nI (x)))]) hx hb dX3_fewestHatsOff_51 hl (by decide) rfl (fun ls hl => ?_)
      have lp : ∀ (k_lp i : Nat) (ls : Array Slot)  , i + k_lp = 2 ^ s_n σ → lv_has ls 6 [(5, .int (nI (i))), (4, .int (oI (lwt (clP σ f x) bits i))), (3, .int (nI (pdA σ x 0))), (0, .ref (ad 3)), (1, .int (nI (f))), (2, .int (nI (x)))] → W p l e (headSpec qX3_fewestHatsOff (rq 4)).room s m ([.ref (ad 3), .int (nI (f)), .int (nI (x))] : List Value).toArray below meth c s.heap [] 0 0 (MQ below (vp_Si (fun r => r = oI (haB σ f x))) ([.ref (ad 3), .int (nI (f)), .int (nI (x))] : List Value).toArray s 0 0 (fun _ => False)) (F0 m 53 ls []) := by
        intro k_lp
        induction k_lp with
        | zero =>
          intro i ls hi_lp hl
          refine lv_iload hx hb dX3_fewestHatsOff_53 (lv_at hl 0 rfl) ?_
          refine lv_iconst (v := nI 1) hx hb dX3_fewestHatsOff_55 (by decide) ?_
          refine lv_aload_n hx hb dX3_fewestHatsOff_56 rfl (lv_at hl 3 rfl) ?_
          refine va_get (D := D) (ci := 3) (v := .int (nI (s_n σ))) (C := RX3) (T := TX3) (N := 9) hx hb hts ni3 hown hK hP 3 (cw_c3 cy ad aw σ J) rfl 3 (by decide) (hts _ flX3_30) (fun _ h => h) rfl dX3_fewestHatsOff_57 ?_
          refine ln_ishl hx hb dX3_fewestHatsOff_60 (by omega) (by omega) ?_
          refine ln_icmp_ge (tgt := 118) hx hb dX3_fewestHatsOff_61 (by decide) (by omega) (by omega) (fun c61 => ?_) (fun c61 => ?_)
          · refine lv_iload hx hb dX3_fewestHatsOff_118 (lv_at hl 1 rfl) ?_
            exact rt_i hx hb hr hlocks (by rw [show i = 2 ^ s_n σ by omega, hats_eq hw h1 hgo.1 hgo.2]) dX3_fewestHatsOff_120
          · exact absurd c61 (by omega)
        | succ k_lp ih_lp =>
          intro i ls hi_lp hl
          refine lv_iload hx hb dX3_fewestHatsOff_53 (lv_at hl 0 rfl) ?_
          refine lv_iconst (v := nI 1) hx hb dX3_fewestHatsOff_55 (by decide) ?_
          refine lv_aload_n hx hb dX3_fewestHatsOff_56 rfl (lv_at hl 3 rfl) ?_
          refine va_get (D := D) (ci := 3) (v := .int (nI (s_n σ))) (C := RX3) (T := TX3) (N := 9) hx hb hts ni3 hown hK hP 3 (cw_c3 cy ad aw σ J) rfl 3 (by decide) (hts _ flX3_30) (fun _ h => h) rfl dX3_fewestHatsOff_57 ?_
          refine ln_ishl hx hb dX3_fewestHatsOff_60 (by omega) (by omega) ?_
          refine ln_icmp_ge (tgt := 118) hx hb dX3_fewestHatsOff_61 (by decide) (by omega) (by omega) (fun c61 => ?_) (fun c61 => ?_)
          · exact absurd c61 (by omega)
          · refine lv_iload hx hb dX3_fewestHatsOff_64 (lv_at hl 0 rfl) ?_
            refine lv_iload_n hx hb dX3_fewestHatsOff_66 rfl (lv_at hl 5 rfl) ?_
            refine lv_iconst (v := -1) hx hb dX3_fewestHatsOff_67 (by decide) ?_
            refine lv_ixor hx hb dX3_fewestHatsOff_68 ?_
            refine ln_eq (show ((nI (x)) ^^^ (-1)) = (nI (x ^^^ (2 ^ 32 - 1))) from xorm1 _ (by omega)) ?_
            refine ln_iand hx hb dX3_fewestHatsOff_69 ?_
            refine ln_if_ne (tgt := 112) hx hb dX3_fewestHatsOff_70 (by decide) (and_lt (by omega)) (fun c70 => ?_) (fun c70 => ?_)
            · refine ln_iinc (lv' := [(5, .int (nI (i + 1))), (4, .int (oI (lwt (clP σ f x) bits i))), (3, .int (nI (pdA σ x 0))), (0, .ref (ad 3)), (1, .int (nI (f))), (2, .int (nI (x)))]) hx hb dX3_fewestHatsOff_112 hl (k := 0) (n := 1) rfl (by decide) rfl (fun ls hl => ?_)
              refine lv_goto (tgt := 53) hx hb dX3_fewestHatsOff_115 (by decide) ?_
              have hl : lv_has ls 6 [(5, .int (nI (i + 1))), (4, .int (oI (lwt (clP σ f x) bits (i + 1)))), (3, .int (nI (pdA σ x 0))), (0, .ref (ad 3)), (1, .int (nI (f))), (2, .int (nI (x)))] := by rw [← (show (oI (lwt (clP σ f x) bits i)) = (oI (lwt (clP σ f x) bits (i + 1))) from by first | exact lwt_n hqb (clP_t (by omega) c70 c86) | exact lwt_g hqb (clP_t (by omega) c70 c86) c105 | exact lwt_l hqb (clP_t (by omega) c70 c86) c105 | exact lwt_f (clP_f1 (by omega) c70) | exact lwt_f (clP_f2 c86))]; exact lv_sub hl [0, 1, 2, 3, 4, 5] rfl
              exact ih_lp (i + 1) ls (by omega)  hl
            · have hht := pd_ht (σ := σ) ((and_not_0 (by omega)).mp c70)
              refine lv_aload_n hx hb dX3_fewestHatsOff_73 rfl (lv_at hl 3 rfl) ?_
              refine lv_iload_n hx hb dX3_fewestHatsOff_74 rfl (lv_at hl 4 rfl) ?_
              refine lv_iload_n hx hb dX3_fewestHatsOff_75 rfl (lv_at hl 2 rfl) ?_
              refine lv_aload_n hx hb dX3_fewestHatsOff_76 rfl (lv_at hl 3 rfl) ?_
              refine lv_iload hx hb dX3_fewestHatsOff_77 (lv_at hl 0 rfl) ?_
              refine cr_v (n := 1) (As := [.int (nI (i))]) (rest := [.int (nI (pdA σ x 0)), .int (nI (f)), .ref (ad 3)]) ⟨hx, hb, hml, hown, hts⟩ (k_X3_hatsOfAll l D cy ad aw σ J i hw (by omega)) gvX3_200 (by decide +kernel) ⟨Nat.le_of_ble_eq_true rfl, Nat.le_of_ble_eq_true rfl⟩ hK hN hP 3 (cw_c3 cy ad aw σ J) rfl rfl hl.1 rfl (Nat.le_of_ble_eq_true rfl) dX3_fewestHatsOff_79 ⟨Nat.zero_le _, Nat.zero_le _⟩ ?_
              refine ln_isub hx hb dX3_fewestHatsOff_82 (by omega) ?_
              refine cr_v (n := 2) (As := [.int (nI (f)), .int (nI ((pdA σ x 0) - (htA σ i)))]) (rest := []) ⟨hx, hb, hml, hown, hts⟩ (k_X3_isNumber l D cy ad aw σ J f ((pdA σ x 0) - (htA σ i)) hw (by omega) (by omega)) gvX3_191 (by decide +kernel) ⟨Nat.le_of_ble_eq_true rfl, Nat.le_of_ble_eq_true rfl⟩ hK hN hP 3 (cw_c3 cy ad aw σ J) rfl rfl hl.1 rfl (Nat.le_of_ble_eq_true rfl) dX3_fewestHatsOff_83 ⟨Nat.zero_le _, Nat.zero_le _⟩ ?_
              refine lb_if_eq (tgt := 112) hx hb dX3_fewestHatsOff_86 (by decide) (fun c86 => ?_) (fun c86 => ?_)
              · refine ln_iinc (lv' := [(5, .int (nI (i + 1))), (4, .int (oI (lwt (clP σ f x) bits i))), (3, .int (nI (pdA σ x 0))), (0, .ref (ad 3)), (1, .int (nI (f))), (2, .int (nI (x)))]) hx hb dX3_fewestHatsOff_112 hl (k := 0) (n := 1) rfl (by decide) rfl (fun ls hl => ?_)
                refine lv_goto (tgt := 53) hx hb dX3_fewestHatsOff_115 (by decide) ?_
                have hl : lv_has ls 6 [(5, .int (nI (i + 1))), (4, .int (oI (lwt (clP σ f x) bits (i + 1)))), (3, .int (nI (pdA σ x 0))), (0, .ref (ad 3)), (1, .int (nI (f))), (2, .int (nI (x)))] := by rw [← (show (oI (lwt (clP σ f x) bits i)) = (oI (lwt (clP σ f x) bits (i + 1))) from by first | exact lwt_n hqb (clP_t (by omega) c70 c86) | exact lwt_g hqb (clP_t (by omega) c70 c86) c105 | exact lwt_l hqb (clP_t (by omega) c70 c86) c105 | exact lwt_f (clP_f1 (by omega) c70) | exact lwt_f (clP_f2 c86))]; exact lv_sub hl [0, 1, 2, 3, 4, 5] rfl
                exact ih_lp (i + 1) ls (by omega)  hl
              · rcases hqb : lwt (clP σ f x) bits i with _ | b
                · rw [hqb] at hl
                  have hl : lv_has ls 6 [(5, .int (nI (i))), (4, .int (-1)), (3, .int (nI (pdA σ x 0))), (0, .ref (ad 3)), (1, .int (nI (f))), (2, .int (nI (x)))] := hl
                  refine lv_iload hx hb dX3_fewestHatsOff_89 (lv_at hl 1 rfl) ?_
                  refine lv_iconst (v := -1) hx hb dX3_fewestHatsOff_91 (by decide) ?_
                  refine lv_icmp_eq (tgt := 108) hx hb dX3_fewestHatsOff_92 (by decide) (fun _ => ?_) (fun c => absurd rfl c)
                  refine lv_iload hx hb dX3_fewestHatsOff_108 (lv_at hl 0 rfl) ?_
                  refine lv_istore (lv' := [(4, .int (nI (i))), (5, .int (nI (i))), (3, .int (nI (pdA σ x 0))), (0, .ref (ad 3)), (1, .int (nI (f))), (2, .int (nI (x)))]) hx hb dX3_fewestHatsOff_110 hl (by decide) rfl (fun ls hl => ?_)
                  refine ln_iinc (lv' := [(5, .int (nI (i + 1))), (4, .int (nI (i))), (3, .int (nI (pdA σ x 0))), (0, .ref (ad 3)), (1, .int (nI (f))), (2, .int (nI (x)))]) hx hb dX3_fewestHatsOff_112 hl (k := 1) (n := 1) rfl (by decide) rfl (fun ls hl => ?_)
                  refine lv_goto (tgt := 53) hx hb dX3_fewestHatsOff_115 (by decide) ?_
                  have hl : lv_has ls 6 [(5, .int (nI (i + 1))), (4, .int (oI (lwt (clP σ f x) bits (i + 1)))), (3, .int (nI (pdA σ x 0))), (0, .ref (ad 3)), (1, .int (nI (f))), (2, .int (nI (x)))] := by rw [← (show (nI (i)) = (oI (lwt (clP σ f x) bits (i + 1))) from by first | exact lwt_n hqb (clP_t (by omega) c70 c86) | exact lwt_g hqb (clP_t (by omega) c70 c86) c105 | exact lwt_l hqb (clP_t (by omega) c70 c86) c105 | exact lwt_f (clP_f1 (by omega) c70) | exact lwt_f (clP_f2 c86))]; exact lv_sub hl [0, 1, 2, 3, 4, 5] rfl
                  exact ih_lp (i + 1) ls (by omega)  hl
                · rw [hqb] at hl
                  have hl : lv_has ls 6 [(5, .int (nI (i))), (4, .int (nI (b))), (3, .int (nI (pdA σ x 0))), (0, .ref (ad 3)), (1, .int (nI (f))), (2, .int (nI (x)))] := hl
                  have hltb := lwt_lt hqb
                  refine lv_iload hx hb dX3_fewestHatsOff_89 (lv_at hl 1 rfl) ?_
                  refine lv_iconst (v := -1) hx hb dX3_fewestHatsOff_91 (by decide) ?_
                  refine lv_icmp_eq (tgt := 108) hx hb dX3_fewestHatsOff_92 (by decide) (fun c => absurd c (m1_ne _ (by omega))) (fun _ => ?_)
                  have hb1 := bits_le i
                  have hb2 := bits_le b
                  refine lv_iload hx hb dX3_fewestHatsOff_95 (lv_at hl 0 rfl) ?_
                  refine cr_so (n := 1) (As := [.int (nI (i))]) (rest := []) ⟨hx, hb, hml, hown, hts⟩ (k_J6_bitCount_0f7a4 l i (by omega)) (hts _ mlX3_159) (hts _ smJ6_bitCount_0f7a4) (hts _ iniJ6) (gc_of cdJ6_bitCount_0f7a4) (by decide +kernel) ⟨Nat.le_of_ble_eq_true rfl, Nat.le_of_ble_eq_true rfl⟩ rfl hl.1 rfl (Nat.le_of_ble_eq_true rfl) dX3_fewestHatsOff_97 ⟨Nat.zero_le _, Nat.zero_le _⟩ ?_
                  refine lv_iload hx hb dX3_fewestHatsOff_100 (lv_at hl 1 rfl) ?_
                  refine cr_so (n := 1) (As := [.int (nI (b))]) (rest := [.int (nI (bits i))]) ⟨hx, hb, hml, hown, hts⟩ (k_J6_bitCount_0f7a4 l b (by omega)) (hts _ mlX3_159) (hts _ smJ6_bitCount_0f7a4) (hts _ iniJ6) (gc_of cdJ6_bitCount_0f7a4) (by decide +kernel) ⟨Nat.le_of_ble_eq_true rfl, Nat.le_of_ble_eq_true rfl⟩ rfl hl.1 rfl (Nat.le_of_ble_eq_true rfl) dX3_fewestHatsOff_102 ⟨Nat.zero_le _, Nat.zero_le _⟩ ?_
                  refine ln_icmp_ge (tgt := 112) hx hb dX3_fewestHatsOff_105 (by decide) (by omega) (by omega) (fun c105 => ?_) (fun c105 => ?_)
                  · refine ln_iinc (lv' := [(5, .int (nI (i + 1))), (4, .int (nI (b))), (3, .int (nI (pdA σ x 0))), (0, .ref (ad 3)), (1, .int (nI (f))), (2, .int (nI (x)))]) hx hb dX3_fewestHatsOff_112 hl (k := 0) (n := 1) rfl (by decide) rfl (fun ls hl => ?_)
                    refine lv_goto (tgt := 53) hx hb dX3_fewestHatsOff_115 (by decide) ?_
                    have hl : lv_has ls 6 [(5, .int (nI (i + 1))), (4, .int (oI (lwt (clP σ f x) bits (i + 1)))), (3, .int (nI (pdA σ x 0))), (0, .ref (ad 3)), (1, .int (nI (f))), (2, .int (nI (x)))] := by rw [← (show (nI (b)) = (oI (lwt (clP σ f x) bits (i + 1))) from by first | exact lwt_n hqb (clP_t (by omega) c70 c86) | exact lwt_g hqb (clP_t (by omega) c70 c86) c105 | exact lwt_l hqb (clP_t (by omega) c70 c86) c105 | exact lwt_f (clP_f1 (by omega) c70) | exact lwt_f (clP_f2 c86))]; exact lv_sub hl [0, 1, 2, 3, 4, 5] rfl
                    exact ih_lp (i + 1) ls (by omega)  hl
                  · refine lv_iload hx hb dX3_fewestHatsOff_108 (lv_at hl 0 rfl) ?_
                    refine lv_istore (lv' := [(4, .int (nI (i))), (5, .int (nI (i))), (3, .int (nI (pdA σ x 0))), (0, .ref (ad 3)), (1, .int (nI (f))), (2, .int (nI (x)))]) hx hb dX3_fewestHatsOff_110 hl (by decide) rfl (fun ls hl => ?_)
                    refine ln_iinc (lv' := [(5, .int (nI (i + 1))), (4, .int (nI (i))), (3, .int (nI (pdA σ x 0))), (0, .ref (ad 3)), (1, .int (nI (f))), (2, .int (nI (x)))]) hx hb dX3_fewestHatsOff_112 hl (k := 1) (n := 1) rfl (by decide) rfl (fun ls hl => ?_)
                    refine lv_goto (tgt := 53) hx hb dX3_fewestHatsOff_115 (by decide) ?_
                    have hl : lv_has ls 6 [(5, .int (nI (i + 1))), (4, .int (oI (lwt (clP σ f x) bits (i + 1)))), (3, .int (nI (pdA σ x 0))), (0, .ref (ad 3)), (1, .int (nI (f))), (2, .int (nI (x)))] := by rw [← (show (nI (i)) = (oI (lwt (clP σ f x) bits (i + 1))) from by first | exact lwt_n hqb (clP_t (by omega) c70 c86) | exact lwt_g hqb (clP_t (by omega) c70 c86) c105 | exact lwt_l hqb (clP_t (by omega) c70 c86) c105 | exact lwt_f (clP_f1 (by omega) c70) | exact lwt_f (clP_f2 c86))]; exact lv_sub hl [0, 1, 2, 3, 4, 5] rfl
                    exact ih_lp (i + 1) ls (by omega)  hl
      have hl : lv_has ls 6 [(5, .int (nI (0))), (4, .int (oI (lwt (clP σ f x) bits 0))), (3, .int (nI (pdA σ x 0))), (0, .ref (ad 3)), (1, .int (nI (f))), (2, .int (nI (x)))] := lv_sub hl [0, 1, 2, 3, 4, 5] rfl
      exact lp (2 ^ s_n σ - 0) 0 ls (by omega)  hl
    · refine lv_iconst (v := -1) hx hb dX3_fewestHatsOff_25 (by decide) ?_
      exact rt_i hx hb hr hlocks (by first | (rw [hats_no (by rw [c13]; rfl)]; rfl; done) | (rw [hats_no (by rw [c13, c22]; rfl)]; rfl)) dX3_fewestHatsOff_26
theorem haB_lt {σ : Sg} {f x b : Nat} (h : haB σ f x = some b) : b < 2 ^ s_n σ := lwt_lt h
set_option maxHeartbeats 4000000 in
set_option maxRecDepth 100000 in
theorem k_X10_hats (l : Launch) (D : va_G) (cy : Nat → ClassId) (ad aw : Nat → Nat) (σ : Sg) (J : Js) (f x w : Int32) (hw : wfS σ) (hj : wfJ σ J) : MR l yX10_hats qX10_hats 5 [.ref (ad 0), .int (f), .int (x), .int (w)] D cy (cw cy ad aw σ J) (a_hats σ f x w) := by
  refine Met.ofW (cc := cX10_hats) (maxL := 5) (ret := (some .int)) (by decide) rfl ?_
  intro p e s m args below meth c s₁ B hml hv
  obtain ⟨rfl, hP, hK, hN⟩ := hv
  have hx := B.exec
  have hb := B.bytes
  have hr := B.returns
  have hlocks := B.notSynchronized
  have hts : ∀ cq ∈ tg, cq.before ([.ref (ad 0), .int (f), .int (x), .int (w)] : List Value).toArray s = true := fun cq h => atoms_spec (ws := qX10_hats) B.pre cq (List.mem_cons_of_mem _ h)
  have hown : s.vm.findClass RX10 = some m.cls := findClass_of_methodNamed B.named
  have hl := lv_entry ([.ref (ad 0), .int (f), .int (x), .int (w)]) (n := 5) (Nat.le_of_ble_eq_true rfl)
  rw [lg_entry_eq]
  generalize (lg_sl ([.ref (ad 0), .int (f), .int (x), .int (w)]) ++ List.replicate (5 - (lg_sl ([.ref (ad 0), .int (f), .int (x), .int (w)])).length) Slot.unset).toArray = ls at hl ⊢
  have hl : lv_has ls 5 [(0, .ref (ad 0)), (1, .int (f)), (2, .int (x)), (3, .int (w))] := hl
  have hw1 := hw.1
  have hw2 := hw.2.1
  have hp8 := pw_8 hw1
  have hpp := pw_pos (s_n σ)
  have hov := ov_lt hw
  have hmo := mo_lt hw
  have hof := of_lt hw
  refine lv_aload_n hx hb dX10_hats_0 rfl (lv_at hl 0 rfl) ?_
  refine va_get (D := D) (ci := 9) (v := .ref (ad 3)) (C := RX10) (T := TX10) (N := 8) hx hb hts ni10 hown hK hP 0 (cw_c0 cy ad aw σ J) rfl 1 (by decide) (hts _ flX10_19) (fun _ h => h) rfl dX10_hats_1 ?_
  refine lv_iload_n hx hb dX10_hats_4 rfl (lv_at hl 1 rfl) ?_
  refine cr_v (n := 1) (As := [.int (f)]) (rest := []) ⟨hx, hb, hml, hown, hts⟩ (k_X3_hasFerry l D cy ad aw σ J (f) hw) gvX10_139 (by decide +kernel) ⟨Nat.le_of_ble_eq_true rfl, Nat.le_of_ble_eq_true rfl⟩ hK hN hP 3 (cw_c3 cy ad aw σ J) rfl rfl hl.1 rfl (Nat.le_of_ble_eq_true rfl) dX10_hats_5 ⟨Nat.zero_le _, Nat.zero_le _⟩ ?_
  refine lb_if_eq (tgt := 22) hx hb dX10_hats_8 (by decide) (fun c8 => ?_) (fun c8 => ?_)
  · refine lv_bipush (v := -2) hx hb dX10_hats_22 (by decide) ?_
    exact rt_i hx hb hr hlocks (by first | (rw [a_hats, c8]; rfl; done) | (rw [a_hats, c8, c19]; rfl)) dX10_hats_24
  · refine lv_aload_n hx hb dX10_hats_11 rfl (lv_at hl 0 rfl) ?_
    refine va_get (D := D) (ci := 9) (v := .ref (ad 3)) (C := RX10) (T := TX10) (N := 8) hx hb hts ni10 hown hK hP 0 (cw_c0 cy ad aw σ J) rfl 1 (by decide) (hts _ flX10_19) (fun _ h => h) rfl dX10_hats_12 ?_
    refine lv_iload_n hx hb dX10_hats_15 rfl (lv_at hl 2 rfl) ?_
    refine cr_v (n := 1) (As := [.int (x)]) (rest := []) ⟨hx, hb, hml, hown, hts⟩ (k_X3_hasAll l D cy ad aw σ J (x) hw) gvX10_172 (by decide +kernel) ⟨Nat.le_of_ble_eq_true rfl, Nat.le_of_ble_eq_true rfl⟩ hK hN hP 3 (cw_c3 cy ad aw σ J) rfl rfl hl.1 rfl (Nat.le_of_ble_eq_true rfl) dX10_hats_16 ⟨Nat.zero_le _, Nat.zero_le _⟩ ?_
    refine lb_if_ne (tgt := 25) hx hb dX10_hats_19 (by decide) (fun c19 => ?_) (fun c19 => ?_)
    · obtain ⟨f0, hf, rfl⟩ := ix_of c8 (by omega)
      have hl : lv_has ls 5 [(0, .ref (ad 0)), (1, .int (nI (f0))), (2, .int (x)), (3, .int (w))] := hl
      obtain ⟨x0, hx0, rfl⟩ := ix_of c19 (by omega)
      have hl : lv_has ls 5 [(0, .ref (ad 0)), (1, .int (nI (f0))), (2, .int (nI (x0))), (3, .int (w))] := hl
      refine lv_iload_n hx hb dX10_hats_25 rfl (lv_at hl 3 rfl) ?_
      refine lv_if_lt (tgt := 34) hx hb dX10_hats_26 (by decide) (fun c26 => ?_) (fun c26 => ?_)
      · refine lv_bipush (v := -3) hx hb dX10_hats_34 (by decide) ?_
        exact rt_i hx hb hr hlocks (by first | (rw [a_hats, c8, c19, ixf1 (by decide) c26]; rfl; done) | (rw [a_hats, c8, c19, ixf2 (k := 1) (by decide) c31]; rfl)) dX10_hats_36
      · refine lv_iload_n hx hb dX10_hats_29 rfl (lv_at hl 3 rfl) ?_
        refine lv_iconst (v := nI 1) hx hb dX10_hats_30 (by decide) ?_
        refine lv_icmp_le (tgt := 37) hx hb dX10_hats_31 (by decide) (fun c31 => ?_) (fun c31 => ?_)
        · obtain ⟨w0, hw0, rfl⟩ := ix_of (ixt (k := 1) (by decide) c26 c31) (by decide)
          have hl : lv_has ls 5 [(0, .ref (ad 0)), (1, .int (nI (f0))), (2, .int (nI (x0))), (3, .int (nI (w0)))] := hl
          refine lv_aload_n hx hb dX10_hats_37 rfl (lv_at hl 0 rfl) ?_
          refine va_get (D := D) (ci := 9) (v := .ref (ad 3)) (C := RX10) (T := TX10) (N := 8) hx hb hts ni10 hown hK hP 0 (cw_c0 cy ad aw σ J) rfl 1 (by decide) (hts _ flX10_19) (fun _ h => h) rfl dX10_hats_38 ?_
          refine lv_iload_n hx hb dX10_hats_41 rfl (lv_at hl 1 rfl) ?_
          refine lv_iload_n hx hb dX10_hats_42 rfl (lv_at hl 2 rfl) ?_
          refine cr_v (n := 2) (As := [.int (nI (f0)), .int (nI (x0))]) (rest := []) ⟨hx, hb, hml, hown, hts⟩ (k_X3_fewestHatsOff l D cy ad aw σ J f0 x0 hw hj (by omega) (by omega)) gvX10_227 (by decide +kernel) ⟨Nat.le_of_ble_eq_true rfl, Nat.le_of_ble_eq_true rfl⟩ hK hN hP 3 (cw_c3 cy ad aw σ J) rfl rfl hl.1 rfl (Nat.le_of_ble_eq_true rfl) dX10_hats_43 ⟨Nat.zero_le _, Nat.zero_le _⟩ ?_
          refine lv_istore (lv' := [(4, .int (oI (haB σ f0 x0))), (0, .ref (ad 0)), (1, .int (nI (f0))), (2, .int (nI (x0))), (3, .int (nI (w0)))]) hx hb dX10_hats_46 hl (by decide) rfl (fun ls hl => ?_)
          rcases hqb : haB σ f0 x0 with _ | b
          · rw [hqb] at hl
            have hl : lv_has ls 5 [(4, .int (-1)), (0, .ref (ad 0)), (1, .int (nI (f0))), (2, .int (nI (x0))), (3, .int (nI (w0)))] := hl
            refine lv_iload hx hb dX10_hats_48 (lv_at hl 0 rfl) ?_
            refine lv_iconst (v := -1) hx hb dX10_hats_50 (by decide) ?_
            refine lv_icmp_eq (tgt := 59) hx hb dX10_hats_51 (by decide) (fun _ => ?_) (fun c => absurd rfl c)
            refine lv_iload hx hb dX10_hats_59 (lv_at hl 0 rfl) ?_
            exact rt_i hx hb hr hlocks (by rw [a_hats, c8, c19, ixt (k := 1) (by decide) c26 c31, tk_nI (k := f0) (by omega), tk_nI (k := x0) (by omega), tk_nI (k := w0) (by omega), if_neg (by decide), if_neg (by decide)]; first | (rw [hqb]; done) | (rw [hqb]; rfl; done) | (rw [hqb]; simp only [if_pos c56]; done) | (rw [hqb]; simp only [if_neg c56]; done)) dX10_hats_61
          · rw [hqb] at hl
            have hl : lv_has ls 5 [(4, .int (nI (b))), (0, .ref (ad 0)), (1, .int (nI (f0))), (2, .int (nI (x0))), (3, .int (nI (w0)))] := hl
            have hltb := haB_lt hqb
            refine lv_iload hx hb dX10_hats_48 (lv_at hl 0 rfl) ?_
            refine lv_iconst (v := -1) hx hb dX10_hats_50 (by decide) ?_
            refine lv_icmp_eq (tgt := 59) hx hb dX10_hats_51 (by decide) (fun c => absurd c (m1_ne _ (by omega))) (fun _ => ?_)
            refine lv_iload_n hx hb dX10_hats_54 rfl (lv_at hl 4 rfl) ?_
            refine lv_iconst (v := nI 1) hx hb dX10_hats_55 (by decide) ?_
            refine ln_icmp_ne (tgt := 62) hx hb dX10_hats_56 (by decide) (by omega) (by omega) (fun c56 => ?_) (fun c56 => ?_)
            · refine lv_iload hx hb dX10_hats_62 (lv_at hl 0 rfl) ?_
              refine cr_so (n := 1) (As := [.int (nI (b))]) (rest := []) ⟨hx, hb, hml, hown, hts⟩ (k_J6_bitCount_0f7a4 l b (by omega)) (hts _ mlX10_230) (hts _ smJ6_bitCount_0f7a4) (hts _ iniJ6) (gc_of cdJ6_bitCount_0f7a4) (by decide +kernel) ⟨Nat.le_of_ble_eq_true rfl, Nat.le_of_ble_eq_true rfl⟩ rfl hl.1 rfl (Nat.le_of_ble_eq_true rfl) dX10_hats_64 ⟨Nat.zero_le _, Nat.zero_le _⟩ ?_
              exact rt_i hx hb hr hlocks (by rw [a_hats, c8, c19, ixt (k := 1) (by decide) c26 c31, tk_nI (k := f0) (by omega), tk_nI (k := x0) (by omega), tk_nI (k := w0) (by omega), if_neg (by decide), if_neg (by decide)]; first | (rw [hqb]; done) | (rw [hqb]; rfl; done) | (rw [hqb]; simp only [if_pos c56]; done) | (rw [hqb]; simp only [if_neg c56]; done)) dX10_hats_67
            · refine lv_iload hx hb dX10_hats_59 (lv_at hl 0 rfl) ?_
              exact rt_i hx hb hr hlocks (by rw [a_hats, c8, c19, ixt (k := 1) (by decide) c26 c31, tk_nI (k := f0) (by omega), tk_nI (k := x0) (by omega), tk_nI (k := w0) (by omega), if_neg (by decide), if_neg (by decide)]; first | (rw [hqb]; done) | (rw [hqb]; rfl; done) | (rw [hqb]; simp only [if_pos c56]; done) | (rw [hqb]; simp only [if_neg c56]; done)) dX10_hats_61
        · refine lv_bipush (v := -3) hx hb dX10_hats_34 (by decide) ?_
          exact rt_i hx hb hr hlocks (by first | (rw [a_hats, c8, c19, ixf1 (by decide) c26]; rfl; done) | (rw [a_hats, c8, c19, ixf2 (k := 1) (by decide) c31]; rfl)) dX10_hats_36
    · refine lv_bipush (v := -2) hx hb dX10_hats_22 (by decide) ?_
      exact rt_i hx hb hr hlocks (by first | (rw [a_hats, c8]; rfl; done) | (rw [a_hats, c8, c19]; rfl)) dX10_hats_24
theorem stones_no {σ : Sg} {f x w : Nat} (c : (decide (bits x ≤ s_fe σ (5 * f + 3)) && hasP σ x) = false) : (-1 : Int32) = v_stones σ f x w := by
  unfold v_stones
  split
  · rename_i h
    rw [board, Bool.and_eq_true] at h
    rw [h.1, Bool.and_true, decide_eq_false_iff_not] at c
    rw [show s_fe σ (5 * f + 3) + 1 - bits x = 0 by omega]; rfl
  · rfl
set_option maxHeartbeats 4000000 in
set_option maxRecDepth 100000 in
theorem k_X3_fewestStones (l : Launch) (D : va_G) (cy : Nat → ClassId) (ad aw : Nat → Nat) (σ : Sg) (J : Js) (f x w : Nat) (hw : wfS σ) (hj : wfJ σ J) (hf : f < 3) (h1 : x < 2 ^ s_n σ) (hw9 : w ≤ 99) : MR l yX3_fewestStones qX3_fewestStones 4 [.ref (ad 3), .int (nI (f)), .int (nI (x)), .int (nI (w))] D cy (cw cy ad aw σ J) (v_stones σ f x w) := by
  refine Met.ofW (cc := cX3_fewestStones) (maxL := 7) (ret := (some .int)) (by decide) rfl ?_
  intro p e s m args below meth c s₁ B hml hv
  obtain ⟨rfl, hP, hK, hN⟩ := hv
  have hx := B.exec
  have hb := B.bytes
  have hr := B.returns
  have hlocks := B.notSynchronized
  have hts : ∀ cq ∈ tg, cq.before ([.ref (ad 3), .int (nI (f)), .int (nI (x)), .int (nI (w))] : List Value).toArray s = true := fun cq h => atoms_spec (ws := qX3_fewestStones) B.pre cq (List.mem_cons_of_mem _ h)
  have hown : s.vm.findClass RX3 = some m.cls := findClass_of_methodNamed B.named
  have hl := lv_entry ([.ref (ad 3), .int (nI (f)), .int (nI (x)), .int (nI (w))]) (n := 7) (Nat.le_of_ble_eq_true rfl)
  rw [lg_entry_eq]
  generalize (lg_sl ([.ref (ad 3), .int (nI (f)), .int (nI (x)), .int (nI (w))]) ++ List.replicate (7 - (lg_sl ([.ref (ad 3), .int (nI (f)), .int (nI (x)), .int (nI (w))])).length) Slot.unset).toArray = ls at hl ⊢
  have hl : lv_has ls 7 [(0, .ref (ad 3)), (1, .int (nI (f))), (2, .int (nI (x))), (3, .int (nI (w)))] := hl
  have hw1 := hw.1
  have hw2 := hw.2.1
  have hp8 := pw_8 hw1
  have hpp := pw_pos (s_n σ)
  have hov := ov_lt hw
  have hmo := mo_lt hw
  have hof := of_lt hw
  have hk := hw.2.2.2.1 f hf
  have hbt := bits_le x
  have hpd := pdA_le hw x (s_of σ)
  refine lv_aload_n hx hb dX3_fewestStones_0 rfl (lv_at hl 0 rfl) ?_
  refine lv_iload_n hx hb dX3_fewestStones_1 rfl (lv_at hl 1 rfl) ?_
  refine lv_iload_n hx hb dX3_fewestStones_2 rfl (lv_at hl 2 rfl) ?_
  refine lv_aload_n hx hb dX3_fewestStones_3 rfl (lv_at hl 0 rfl) ?_
  refine va_get (D := D) (ci := 3) (v := .ref (ad 6)) (C := RX3) (T := TX3) (N := 9) hx hb hts ni3 hown hK hP 3 (cw_c3 cy ad aw σ J) rfl 2 (by decide) (hts _ flX3_26) (fun _ h => h) rfl dX3_fewestStones_4 ?_
  refine va_get (D := D) (ci := 5) (v := .int (nI (s_ov σ + 256 * s_mo σ))) (C := RX5) (T := TX5) (N := 5) hx hb hts ni5 hown hK hP 6 (cw_c6 cy ad aw σ J) rfl 1 (by decide) (hts _ flX3_112) (fun _ h => h) rfl dX3_fewestStones_7 ?_
  refine cr_v (n := 3) (As := [.int (nI (f)), .int (nI (x)), .int (nI (s_ov σ + 256 * s_mo σ))]) (rest := []) ⟨hx, hb, hml, hown, hts⟩ (k_X3_isOnBankOf l D cy ad aw σ J f x (s_ov σ) (s_mo σ) (by omega) (by omega) (by omega) (by omega)) gvX3_194 (by decide +kernel) ⟨Nat.le_of_ble_eq_true rfl, Nat.le_of_ble_eq_true rfl⟩ hK hN hP 3 (cw_c3 cy ad aw σ J) rfl rfl hl.1 rfl (Nat.le_of_ble_eq_true rfl) dX3_fewestStones_10 ⟨Nat.zero_le _, Nat.zero_le _⟩ ?_
  refine lb_if_eq (tgt := 25) hx hb dX3_fewestStones_13 (by decide) (fun c13 => ?_) (fun c13 => ?_)
  · refine lv_iconst (v := -1) hx hb dX3_fewestStones_25 (by decide) ?_
    exact rt_i hx hb hr hlocks (by first | (rw [v_stones, board, c13, Bool.and_false]; rfl; done) | (exact stones_no c22)) dX3_fewestStones_26
  · refine lv_aload_n hx hb dX3_fewestStones_16 rfl (lv_at hl 0 rfl) ?_
    refine lv_iload_n hx hb dX3_fewestStones_17 rfl (lv_at hl 1 rfl) ?_
    refine lv_iload_n hx hb dX3_fewestStones_18 rfl (lv_at hl 2 rfl) ?_
    refine cr_v (n := 2) (As := [.int (nI (f)), .int (nI (x))]) (rest := []) ⟨hx, hb, hml, hown, hts⟩ (k_X3_mayGoAboard l D cy ad aw σ J f x hw hj (by omega) (by omega)) gvX3_184 (by decide +kernel) ⟨Nat.le_of_ble_eq_true rfl, Nat.le_of_ble_eq_true rfl⟩ hK hN hP 3 (cw_c3 cy ad aw σ J) rfl rfl hl.1 rfl (Nat.le_of_ble_eq_true rfl) dX3_fewestStones_19 ⟨Nat.zero_le _, Nat.zero_le _⟩ ?_
    refine lb_if_ne (tgt := 27) hx hb dX3_fewestStones_22 (by decide) (fun c22 => ?_) (fun c22 => ?_)
    · have hgo := hats_go c13 c22
      refine lv_aload_n hx hb dX3_fewestStones_27 rfl (lv_at hl 0 rfl) ?_
      refine lv_iload_n hx hb dX3_fewestStones_28 rfl (lv_at hl 2 rfl) ?_
      refine cr_v (n := 1) (As := [.int (nI (x))]) (rest := []) ⟨hx, hb, hml, hown, hts⟩ (k_X3_poundsOf l D cy ad aw σ J x hw hj (by omega)) gvX3_188 (by decide +kernel) ⟨Nat.le_of_ble_eq_true rfl, Nat.le_of_ble_eq_true rfl⟩ hK hN hP 3 (cw_c3 cy ad aw σ J) rfl rfl hl.1 rfl (Nat.le_of_ble_eq_true rfl) dX3_fewestStones_29 ⟨Nat.zero_le _, Nat.zero_le _⟩ ?_
      refine lv_istore (lv' := [(4, .int (nI (pdA σ x (s_of σ)))), (0, .ref (ad 3)), (1, .int (nI (f))), (2, .int (nI (x))), (3, .int (nI (w)))]) hx hb dX3_fewestStones_32 hl (by decide) rfl (fun ls hl => ?_)
      refine lv_aload_n hx hb dX3_fewestStones_34 rfl (lv_at hl 1 rfl) ?_
      refine va_get (D := D) (ci := 3) (v := .ref (ad 5)) (C := RX3) (T := TX3) (N := 9) hx hb hts ni3 hown hK hP 3 (cw_c3 cy ad aw σ J) rfl 1 (by decide) (hts _ flX3_19) (fun _ h => h) rfl dX3_fewestStones_35 ?_
      refine lv_iload_n hx hb dX3_fewestStones_38 rfl (lv_at hl 2 rfl) ?_
      refine ln_aald (x := ad (29 + f)) hx hb hK hP 5 2 (cw_c5 cy ad aw σ J) rfl (by omega) (by decide) rfl dX3_fewestStones_39 ?_
      refine va_get (D := D) (ci := 0) (v := .int (nI (s_fe σ (5 * f + 3)))) (C := RX0) (T := TX0) (N := 5) hx hb hts ni0 hown hK hP (29 + f) (cw_ferry cy ad aw σ J (t := f) (by omega)) rfl 3 (by decide) (hts _ flX3_165) (fun _ h => h) rfl dX3_fewestStones_40 ?_
      refine lv_iload_n hx hb dX3_fewestStones_43 rfl (lv_at hl 3 rfl) ?_
      refine cr_so (n := 1) (As := [.int (nI (x))]) (rest := [.int (nI (s_fe σ (5 * f + 3)))]) ⟨hx, hb, hml, hown, hts⟩ (k_J6_bitCount_0f7a4 l x (by omega)) (hts _ mlX3_159) (hts _ smJ6_bitCount_0f7a4) (hts _ iniJ6) (gc_of cdJ6_bitCount_0f7a4) (by decide +kernel) ⟨Nat.le_of_ble_eq_true rfl, Nat.le_of_ble_eq_true rfl⟩ rfl hl.1 rfl (Nat.le_of_ble_eq_true rfl) dX3_fewestStones_44 ⟨Nat.zero_le _, Nat.zero_le _⟩ ?_
      refine ln_isub hx hb dX3_fewestStones_47 (by omega) ?_
      refine lv_istore (lv' := [(5, .int (nI ((s_fe σ (5 * f + 3)) - (bits x)))), (4, .int (nI (pdA σ x (s_of σ)))), (0, .ref (ad 3)), (1, .int (nI (f))), (2, .int (nI (x))), (3, .int (nI (w)))]) hx hb dX3_fewestStones_48 hl (by decide) rfl (fun ls hl => ?_)
      refine lv_iconst (v := nI 0) hx hb dX3_fewestStones_50 (by decide) ?_
      refine lv_istore (lv' := [(6, .int (nI (0))), (5, .int (nI ((s_fe σ (5 * f + 3)) - (bits x)))), (4, .int (nI (pdA σ x (s_of σ)))), (0, .ref (ad 3)), (1, .int (nI (f))), (2, .int (nI (x))), (3, .int (nI (w)))]) hx hb dX3_fewestStones_51 hl (by decide) rfl (fun ls hl => ?_)
      have lp : ∀ (k i : Nat) (ls : Array Slot), i + k = s_fe σ (5 * f + 3) + 1 - bits x → fst (stP σ f x w) i = none → lv_has ls 7 [(6, .int (nI (i))), (5, .int (nI ((s_fe σ (5 * f + 3)) - (bits x)))), (4, .int (nI (pdA σ x (s_of σ)))), (0, .ref (ad 3)), (1, .int (nI (f))), (2, .int (nI (x))), (3, .int (nI (w)))] → W p l e (headSpec qX3_fewestStones (rq 4)).room s m ([.ref (ad 3), .int (nI (f)), .int (nI (x)), .int (nI (w))] : List Value).toArray below meth c s.heap [] 0 0 (MQ below (vp_Si (fun r => r = v_stones σ f x w)) ([.ref (ad 3), .int (nI (f)), .int (nI (x)), .int (nI (w))] : List Value).toArray s 0 0 (fun _ => False)) (F0 m 53 ls []) := by
        intro k
        induction k with
        | zero =>
          intro i ls hi hno hl
          have hiw : i * w ≤ 990 := Nat.le_trans (Nat.mul_le_mul (show i ≤ 10 by omega) (show w ≤ 99 by omega)) (by decide)
          refine lv_iload hx hb dX3_fewestStones_53 (lv_at hl 0 rfl) ?_
          refine lv_iload hx hb dX3_fewestStones_55 (lv_at hl 1 rfl) ?_
          refine ln_icmp_gt (tgt := 84) hx hb dX3_fewestStones_57 (by decide) (by omega) (by omega) (fun c57 => ?_) (fun c57 => ?_)
          · refine lv_iconst (v := -1) hx hb dX3_fewestStones_84 (by decide) ?_
            exact rt_i hx hb hr hlocks (by rw [v_stones, hgo.1, if_pos rfl, show s_fe σ (5 * f + 3) + 1 - bits x = i by omega, hno]; rfl) dX3_fewestStones_85
          · exact absurd c57 (by omega)
        | succ k ih =>
          intro i ls hi hno hl
          have hiw : i * w ≤ 990 := Nat.le_trans (Nat.mul_le_mul (show i ≤ 10 by omega) (show w ≤ 99 by omega)) (by decide)
          refine lv_iload hx hb dX3_fewestStones_53 (lv_at hl 0 rfl) ?_
          refine lv_iload hx hb dX3_fewestStones_55 (lv_at hl 1 rfl) ?_
          refine ln_icmp_gt (tgt := 84) hx hb dX3_fewestStones_57 (by decide) (by omega) (by omega) (fun c57 => ?_) (fun c57 => ?_)
          · exact absurd c57 (by omega)
          · refine lv_aload_n hx hb dX3_fewestStones_60 rfl (lv_at hl 3 rfl) ?_
            refine lv_iload_n hx hb dX3_fewestStones_61 rfl (lv_at hl 4 rfl) ?_
            refine lv_iload hx hb dX3_fewestStones_62 (lv_at hl 2 rfl) ?_
            refine lv_iload hx hb dX3_fewestStones_64 (lv_at hl 0 rfl) ?_
            refine lv_iload_n hx hb dX3_fewestStones_66 rfl (lv_at hl 6 rfl) ?_
            refine ln_imul hx hb dX3_fewestStones_67 ?_
            refine ln_iadd hx hb dX3_fewestStones_68 ?_
            refine cr_v (n := 2) (As := [.int (nI (f)), .int (nI ((pdA σ x (s_of σ)) + (i * w)))]) (rest := []) ⟨hx, hb, hml, hown, hts⟩ (k_X3_isNumber l D cy ad aw σ J f ((pdA σ x (s_of σ)) + (i * w)) hw (by omega) (by omega)) gvX3_191 (by decide +kernel) ⟨Nat.le_of_ble_eq_true rfl, Nat.le_of_ble_eq_true rfl⟩ hK hN hP 3 (cw_c3 cy ad aw σ J) rfl rfl hl.1 rfl (Nat.le_of_ble_eq_true rfl) dX3_fewestStones_69 ⟨Nat.zero_le _, Nat.zero_le _⟩ ?_
            refine lb_if_eq (tgt := 78) hx hb dX3_fewestStones_72 (by decide) (fun c72 => ?_) (fun c72 => ?_)
            · refine ln_iinc (lv' := [(6, .int (nI (i + 1))), (5, .int (nI ((s_fe σ (5 * f + 3)) - (bits x)))), (4, .int (nI (pdA σ x (s_of σ)))), (0, .ref (ad 3)), (1, .int (nI (f))), (2, .int (nI (x))), (3, .int (nI (w)))]) hx hb dX3_fewestStones_78 hl (k := 0) (n := 1) rfl (by decide) rfl (fun ls hl => ?_)
              refine lv_goto (tgt := 53) hx hb dX3_fewestStones_81 (by decide) ?_
              exact ih (i + 1) ls (by omega) (fst_none_s hno c72) (lv_sub hl [0, 1, 2, 3, 4, 5, 6] rfl)
            · refine lv_iload hx hb dX3_fewestStones_75 (lv_at hl 0 rfl) ?_
              exact rt_i hx hb hr hlocks (by rw [v_stones, hgo.1, if_pos rfl, fst_hit hno c72 (by omega)]; rfl) dX3_fewestStones_77
      exact lp (s_fe σ (5 * f + 3) + 1 - bits x) 0 ls (by omega) rfl (lv_sub hl [0, 1, 2, 3, 4, 5, 6] rfl)
    · refine lv_iconst (v := -1) hx hb dX3_fewestStones_25 (by decide) ?_
      exact rt_i hx hb hr hlocks (by first | (rw [v_stones, board, c13, Bool.and_false]; rfl; done) | (exact stones_no c22)) dX3_fewestStones_26
set_option maxHeartbeats 4000000 in
set_option maxRecDepth 100000 in
theorem k_X10_stones (l : Launch) (D : va_G) (cy : Nat → ClassId) (ad aw : Nat → Nat) (σ : Sg) (J : Js) (f x w : Int32) (hw : wfS σ) (hj : wfJ σ J) : MR l yX10_stones qX10_stones 5 [.ref (ad 0), .int (f), .int (x), .int (w)] D cy (cw cy ad aw σ J) (a_stones σ f x w) := by
  refine Met.ofW (cc := cX10_stones) (maxL := 4) (ret := (some .int)) (by decide) rfl ?_
  intro p e s m args below meth c s₁ B hml hv
  obtain ⟨rfl, hP, hK, hN⟩ := hv
  have hx := B.exec
  have hb := B.bytes
  have hr := B.returns
  have hlocks := B.notSynchronized
  have hts : ∀ cq ∈ tg, cq.before ([.ref (ad 0), .int (f), .int (x), .int (w)] : List Value).toArray s = true := fun cq h => atoms_spec (ws := qX10_stones) B.pre cq (List.mem_cons_of_mem _ h)
  have hown : s.vm.findClass RX10 = some m.cls := findClass_of_methodNamed B.named
  have hl := lv_entry ([.ref (ad 0), .int (f), .int (x), .int (w)]) (n := 4) (Nat.le_of_ble_eq_true rfl)
  rw [lg_entry_eq]
  generalize (lg_sl ([.ref (ad 0), .int (f), .int (x), .int (w)]) ++ List.replicate (4 - (lg_sl ([.ref (ad 0), .int (f), .int (x), .int (w)])).length) Slot.unset).toArray = ls at hl ⊢
  have hl : lv_has ls 4 [(0, .ref (ad 0)), (1, .int (f)), (2, .int (x)), (3, .int (w))] := hl
  have hw1 := hw.1
  have hw2 := hw.2.1
  have hp8 := pw_8 hw1
  have hpp := pw_pos (s_n σ)
  have hov := ov_lt hw
  have hmo := mo_lt hw
  have hof := of_lt hw
  refine lv_aload_n hx hb dX10_stones_0 rfl (lv_at hl 0 rfl) ?_
  refine va_get (D := D) (ci := 9) (v := .ref (ad 3)) (C := RX10) (T := TX10) (N := 8) hx hb hts ni10 hown hK hP 0 (cw_c0 cy ad aw σ J) rfl 1 (by decide) (hts _ flX10_19) (fun _ h => h) rfl dX10_stones_1 ?_
  refine lv_iload_n hx hb dX10_stones_4 rfl (lv_at hl 1 rfl) ?_
  refine cr_v (n := 1) (As := [.int (f)]) (rest := []) ⟨hx, hb, hml, hown, hts⟩ (k_X3_hasFerry l D cy ad aw σ J (f) hw) gvX10_139 (by decide +kernel) ⟨Nat.le_of_ble_eq_true rfl, Nat.le_of_ble_eq_true rfl⟩ hK hN hP 3 (cw_c3 cy ad aw σ J) rfl rfl hl.1 rfl (Nat.le_of_ble_eq_true rfl) dX10_stones_5 ⟨Nat.zero_le _, Nat.zero_le _⟩ ?_
  refine lb_if_eq (tgt := 22) hx hb dX10_stones_8 (by decide) (fun c8 => ?_) (fun c8 => ?_)
  · refine lv_bipush (v := -2) hx hb dX10_stones_22 (by decide) ?_
    exact rt_i hx hb hr hlocks (by first | (rw [a_stones, c8]; rfl; done) | (rw [a_stones, c8, c19]; rfl)) dX10_stones_24
  · refine lv_aload_n hx hb dX10_stones_11 rfl (lv_at hl 0 rfl) ?_
    refine va_get (D := D) (ci := 9) (v := .ref (ad 3)) (C := RX10) (T := TX10) (N := 8) hx hb hts ni10 hown hK hP 0 (cw_c0 cy ad aw σ J) rfl 1 (by decide) (hts _ flX10_19) (fun _ h => h) rfl dX10_stones_12 ?_
    refine lv_iload_n hx hb dX10_stones_15 rfl (lv_at hl 2 rfl) ?_
    refine cr_v (n := 1) (As := [.int (x)]) (rest := []) ⟨hx, hb, hml, hown, hts⟩ (k_X3_hasAll l D cy ad aw σ J (x) hw) gvX10_172 (by decide +kernel) ⟨Nat.le_of_ble_eq_true rfl, Nat.le_of_ble_eq_true rfl⟩ hK hN hP 3 (cw_c3 cy ad aw σ J) rfl rfl hl.1 rfl (Nat.le_of_ble_eq_true rfl) dX10_stones_16 ⟨Nat.zero_le _, Nat.zero_le _⟩ ?_
    refine lb_if_ne (tgt := 25) hx hb dX10_stones_19 (by decide) (fun c19 => ?_) (fun c19 => ?_)
    · obtain ⟨f0, hf, rfl⟩ := ix_of c8 (by omega)
      have hl : lv_has ls 4 [(0, .ref (ad 0)), (1, .int (nI (f0))), (2, .int (x)), (3, .int (w))] := hl
      obtain ⟨x0, hx0, rfl⟩ := ix_of c19 (by omega)
      have hl : lv_has ls 4 [(0, .ref (ad 0)), (1, .int (nI (f0))), (2, .int (nI (x0))), (3, .int (w))] := hl
      refine lv_iload_n hx hb dX10_stones_25 rfl (lv_at hl 3 rfl) ?_
      refine lv_iconst (v := nI 1) hx hb dX10_stones_26 (by decide) ?_
      refine lv_icmp_lt (tgt := 36) hx hb dX10_stones_27 (by decide) (fun c27 => ?_) (fun c27 => ?_)
      · refine lv_bipush (v := -3) hx hb dX10_stones_36 (by decide) ?_
        exact rt_i hx hb hr hlocks (by first | (rw [a_stones, c8, c19, show okW w = false from okf1 c27]; rfl; done) | (rw [a_stones, c8, c19, show okW w = false from okf2 c33]; rfl)) dX10_stones_38
      · refine lv_iload_n hx hb dX10_stones_30 rfl (lv_at hl 3 rfl) ?_
        refine lv_bipush (v := nI 99) hx hb dX10_stones_31 (by decide) ?_
        refine lv_icmp_le (tgt := 39) hx hb dX10_stones_33 (by decide) (fun c33 => ?_) (fun c33 => ?_)
        · obtain ⟨w0, hw1a, hw1b, rfl⟩ := okW_of (okt c27 c33)
          have hl : lv_has ls 4 [(0, .ref (ad 0)), (1, .int (nI (f0))), (2, .int (nI (x0))), (3, .int (nI (w0)))] := hl
          refine lv_aload_n hx hb dX10_stones_39 rfl (lv_at hl 0 rfl) ?_
          refine va_get (D := D) (ci := 9) (v := .ref (ad 3)) (C := RX10) (T := TX10) (N := 8) hx hb hts ni10 hown hK hP 0 (cw_c0 cy ad aw σ J) rfl 1 (by decide) (hts _ flX10_19) (fun _ h => h) rfl dX10_stones_40 ?_
          refine lv_iload_n hx hb dX10_stones_43 rfl (lv_at hl 1 rfl) ?_
          refine lv_iload_n hx hb dX10_stones_44 rfl (lv_at hl 2 rfl) ?_
          refine lv_iload_n hx hb dX10_stones_45 rfl (lv_at hl 3 rfl) ?_
          refine cr_v (n := 3) (As := [.int (nI (f0)), .int (nI (x0)), .int (nI (w0))]) (rest := []) ⟨hx, hb, hml, hown, hts⟩ (k_X3_fewestStones l D cy ad aw σ J f0 x0 w0 hw hj (by omega) (by omega) (by omega)) gvX10_235 (by decide +kernel) ⟨Nat.le_of_ble_eq_true rfl, Nat.le_of_ble_eq_true rfl⟩ hK hN hP 3 (cw_c3 cy ad aw σ J) rfl rfl hl.1 rfl (Nat.le_of_ble_eq_true rfl) dX10_stones_46 ⟨Nat.zero_le _, Nat.zero_le _⟩ ?_
          exact rt_i hx hb hr hlocks (by rw [a_stones, c8, c19, show okW (nI w0) = true from okt c27 c33, tk_nI (k := f0) (by omega), tk_nI (k := x0) (by omega), tk_nI (k := w0) (by omega)]; rfl) dX10_stones_49
        · refine lv_bipush (v := -3) hx hb dX10_stones_36 (by decide) ?_
          exact rt_i hx hb hr hlocks (by first | (rw [a_stones, c8, c19, show okW w = false from okf1 c27]; rfl; done) | (rw [a_stones, c8, c19, show okW w = false from okf2 c33]; rfl)) dX10_stones_38
    · refine lv_bipush (v := -2) hx hb dX10_stones_22 (by decide) ?_
      exact rt_i hx hb hr hlocks (by first | (rw [a_stones, c8]; rfl; done) | (rw [a_stones, c8, c19]; rfl)) dX10_stones_24
