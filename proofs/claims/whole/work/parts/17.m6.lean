theorem fst_none_s {p : Nat → Bool} {i : Nat} (h : fst p i = none) (c : p i = false) : fst p (i + 1) = none := by rw [fst, h]; simp only [c]; rfl
theorem fst_hit {p : Nat → Bool} {i : Nat} (h : fst p i = none) (c : p i = true) : ∀ {n : Nat}, i < n → fst p n = some i
  | 0, q => absurd q (by omega)
  | n + 1, q => by
    rw [fst]
    rcases (show i = n ∨ i < n by omega) with rfl | r
    · rw [h]; simp only [c]; rfl
    · rw [fst_hit h c r]
theorem suP_t {σ : Sg} {f x : Nat} (c : isR σ f x (s_ov σ) (s_mo σ) (s_of σ) = true) (d : fit σ f (pdA σ x (s_of σ)) (unA σ x) = true) : suP σ f x = true := by rw [suP, riN, c, d]; rfl
theorem suP_f1 {σ : Sg} {f x : Nat} (c : isR σ f x (s_ov σ) (s_mo σ) (s_of σ) = false) : suP σ f x = false := by rw [suP, riN, c]; rfl
theorem suP_f2 {σ : Sg} {f x : Nat} (d : fit σ f (pdA σ x (s_of σ)) (unA σ x) = false) : suP σ f x = false := by rw [suP, d, Bool.and_false]
theorem abP_t {σ : Sg} {f i o x : Nat} (hi : i < 2 ^ 31) (a : i &&& (x ^^^ (2 ^ 32 - 1)) = 0) (b : o &&& x = 0) (c : isR σ f x (s_ov σ) (s_mo σ) (s_of σ) = true) : abP σ f i o x = true := by rw [abP, riN, c, decide_eq_true ((and_not_0 hi).mp a), decide_eq_true b]; rfl
theorem abP_f1 {σ : Sg} {f i o x : Nat} (hi : i < 2 ^ 31) (a : 0 < i &&& (x ^^^ (2 ^ 32 - 1))) : abP σ f i o x = false := by rw [abP, decide_eq_false (fun q => by rw [(and_not_0 hi).mpr q] at a; exact absurd a (by decide))]; rfl
theorem abP_f2 {σ : Sg} {f i o x : Nat} (b : 0 < o &&& x) : abP σ f i o x = false := by rw [abP, decide_eq_false (show ¬ o &&& x = 0 by omega), Bool.and_false]; rfl
theorem abP_f3 {σ : Sg} {f i o x : Nat} (c : isR σ f x (s_ov σ) (s_mo σ) (s_of σ) = false) : abP σ f i o x = false := by rw [abP, riN, c, Bool.and_false]
theorem unT_le {σ : Sg} (hw : wfS σ) (ld : Nat) {i : Nat} (hi : i ≤ s_n σ) : sumN (fun t => if ld.testBit t then s_th σ (6 * t + 5) else 0) i ≤ 864 := sumb (fun t ht => by have h1 := hw.2.2.1 t ht; split <;> omega) hi hw.1
theorem jT_lt {σ : Sg} (hw : wfS σ) : ∀ {k : Nat}, k ≤ s_rn σ → jT σ k < 256
  | 0, _ => ov_lt hw
  | k + 1, h => by
    have h1 := (hw.2.2.2.2.2.2.2.2.2.2.2.1 k (by omega)).2
    have h2 := pw_8 hw.1
    exact xor_lt8 (jT_lt hw (by omega)) (by omega)
theorem jB_lt {σ : Sg} (hw : wfS σ) : ∀ {k : Nat}, k ≤ s_rn σ → jB σ k < 256
  | 0, _ => by have := mo_lt hw; show s_mo σ < 256; omega
  | k + 1, h => by
    have h1 := (hw.2.2.2.2.2.2.2.2.2.2.2.1 k (by omega)).1
    have h2 := hw.2.1
    exact xor_lt8 (jB_lt hw (by omega)) (pw_lt8 (by omega))
set_option maxHeartbeats 4000000 in
set_option maxRecDepth 100000 in
theorem k_X11_stones (l : Launch) (D : va_G) (cy : Nat → ClassId) (ad : Nat → Nat) (σ : Sg) (T : Ms) (f x w : Int32) (hw : wfS σ) : MR l yX11_stones qX11_stones 4 [.ref (ad 0), .int (f), .int (x), .int (w)] D cy (mw cy ad σ T) (a_stones σ f x w) := by
  refine Met.ofW (cc := cX11_stones) (maxL := 6) (ret := (some .int)) (by decide) rfl ?_
  intro p e s m args below meth c s₁ B hml hv
  obtain ⟨rfl, hP, hK, hN⟩ := hv
  have hx := B.exec
  have hb := B.bytes
  have hr := B.returns
  have hlocks := B.notSynchronized
  have hts : ∀ cq ∈ tg, cq.before ([.ref (ad 0), .int (f), .int (x), .int (w)] : List Value).toArray s = true := fun cq h => atoms_spec (ws := qX11_stones) B.pre cq (List.mem_cons_of_mem _ h)
  have hown : s.vm.findClass RX11 = some m.cls := findClass_of_methodNamed B.named
  have hl := lv_entry ([.ref (ad 0), .int (f), .int (x), .int (w)]) (n := 6) (Nat.le_of_ble_eq_true rfl)
  rw [lg_entry_eq]
  generalize (lg_sl ([.ref (ad 0), .int (f), .int (x), .int (w)]) ++ List.replicate (6 - (lg_sl ([.ref (ad 0), .int (f), .int (x), .int (w)])).length) Slot.unset).toArray = ls at hl ⊢
  have hl : lv_has ls 6 [(0, .ref (ad 0)), (1, .int (f)), (2, .int (x)), (3, .int (w))] := hl
  have hw1 := hw.1
  have hw2 := hw.2.1
  have hp8 := pw_8 hw1
  have hov := ov_lt hw
  have hmo := mo_lt hw
  have hof := of_lt hw
  have hpp := pw_pos (s_n σ)
  refine lv_aload_n hx hb dX11_stones_0 rfl (lv_at hl 0 rfl) ?_
  refine lv_iload_n hx hb dX11_stones_1 rfl (lv_at hl 1 rfl) ?_
  refine cr_v (n := 1) (As := [.int (f)]) (rest := []) ⟨hx, hb, hml, hown, hts⟩ (k_X11_isFerry l D cy ad σ T (f) hw) gvX11_184 (by decide +kernel) ⟨Nat.le_of_ble_eq_true rfl, Nat.le_of_ble_eq_true rfl⟩ hK hN hP 0 (mw_c0 cy ad σ T) rfl rfl hl.1 rfl (Nat.le_of_ble_eq_true rfl) dX11_stones_2 ⟨Nat.zero_le _, Nat.zero_le _⟩ ?_
  refine lb_if_eq (tgt := 16) hx hb dX11_stones_5 (by decide) (fun c5 => ?_) (fun c5 => ?_)
  · refine lv_bipush (v := -2) hx hb dX11_stones_16 (by decide) ?_
    exact rt_i hx hb hr hlocks (by first | (rw [a_stones, c5]; rfl; done) | (rw [a_stones, c5, c13]; rfl)) dX11_stones_18
  · refine lv_aload_n hx hb dX11_stones_8 rfl (lv_at hl 0 rfl) ?_
    refine lv_iload_n hx hb dX11_stones_9 rfl (lv_at hl 2 rfl) ?_
    refine cr_v (n := 1) (As := [.int (x)]) (rest := []) ⟨hx, hb, hml, hown, hts⟩ (k_X11_isSet l D cy ad σ T (x) hw) gvX11_204 (by decide +kernel) ⟨Nat.le_of_ble_eq_true rfl, Nat.le_of_ble_eq_true rfl⟩ hK hN hP 0 (mw_c0 cy ad σ T) rfl rfl hl.1 rfl (Nat.le_of_ble_eq_true rfl) dX11_stones_10 ⟨Nat.zero_le _, Nat.zero_le _⟩ ?_
    refine lb_if_ne (tgt := 19) hx hb dX11_stones_13 (by decide) (fun c13 => ?_) (fun c13 => ?_)
    · obtain ⟨f0, hf, rfl⟩ := ix_of c5 (by omega)
      have hl : lv_has ls 6 [(0, .ref (ad 0)), (1, .int (nI (f0))), (2, .int (x)), (3, .int (w))] := hl
      obtain ⟨x0, hx0, rfl⟩ := ix_of c13 (by omega)
      have hl : lv_has ls 6 [(0, .ref (ad 0)), (1, .int (nI (f0))), (2, .int (nI (x0))), (3, .int (w))] := hl
      have hk := hw.2.2.2.1 f0 (by omega)
      refine lv_iload_n hx hb dX11_stones_19 rfl (lv_at hl 3 rfl) ?_
      refine lv_iconst (v := nI 1) hx hb dX11_stones_20 (by decide) ?_
      refine lv_bipush (v := nI 99) hx hb dX11_stones_21 (by decide) ?_
      refine cr_s (n := 3) (As := [.int (w), .int (nI (1)), .int (nI (99))]) (rest := []) ⟨hx, hb, hml, hown, hts⟩ (k_X11_in l (w) (nI (1)) (nI (99))) gsX11_51 (by decide +kernel) ⟨Nat.le_of_ble_eq_true rfl, Nat.le_of_ble_eq_true rfl⟩ rfl hl.1 rfl (Nat.le_of_ble_eq_true rfl) dX11_stones_23 ⟨Nat.zero_le _, Nat.zero_le _⟩ ?_
      refine lb_if_ne (tgt := 32) hx hb dX11_stones_26 (by decide) (fun c26 => ?_) (fun c26 => ?_)
      · obtain ⟨w0, hw1a, hw1b, rfl⟩ := okW_of c26
        have hl : lv_has ls 6 [(0, .ref (ad 0)), (1, .int (nI (f0))), (2, .int (nI (x0))), (3, .int (nI (w0)))] := hl
        have hpd := pdA_le hw x0 (s_of σ)
        have hbt := bits_le x0
        refine lv_aload_n hx hb dX11_stones_32 rfl (lv_at hl 0 rfl) ?_
        refine lv_iload_n hx hb dX11_stones_33 rfl (lv_at hl 1 rfl) ?_
        refine lv_iload_n hx hb dX11_stones_34 rfl (lv_at hl 2 rfl) ?_
        refine lv_aload_n hx hb dX11_stones_35 rfl (lv_at hl 0 rfl) ?_
        refine va_get (D := D) (ci := 10) (v := .int (nI (s_ov σ))) (C := RX11) (T := TX11) (N := 31) hx hb hts ni11 hown hK hP 0 (mw_c0 cy ad σ T) rfl 17 (by decide) (hts _ flX11_155) (fun _ h => h) rfl dX11_stones_36 ?_
        refine lv_aload_n hx hb dX11_stones_39 rfl (lv_at hl 0 rfl) ?_
        refine va_get (D := D) (ci := 10) (v := .int (nI (s_mo σ))) (C := RX11) (T := TX11) (N := 31) hx hb hts ni11 hown hK hP 0 (mw_c0 cy ad σ T) rfl 18 (by decide) (hts _ flX11_158) (fun _ h => h) rfl dX11_stones_40 ?_
        refine cr_v (n := 4) (As := [.int (nI (f0)), .int (nI (x0)), .int (nI (s_ov σ)), .int (nI (s_mo σ))]) (rest := []) ⟨hx, hb, hml, hown, hts⟩ (k_X11_canBoard l D cy ad σ T f0 x0 (s_ov σ) (s_mo σ) hw (by omega) (by omega) (by omega) (by omega)) gvX11_191 (by decide +kernel) ⟨Nat.le_of_ble_eq_true rfl, Nat.le_of_ble_eq_true rfl⟩ hK hN hP 0 (mw_c0 cy ad σ T) rfl rfl hl.1 rfl (Nat.le_of_ble_eq_true rfl) dX11_stones_43 ⟨Nat.zero_le _, Nat.zero_le _⟩ ?_
        refine lb_if_ne (tgt := 51) hx hb dX11_stones_46 (by decide) (fun c46 => ?_) (fun c46 => ?_)
        · refine lv_aload_n hx hb dX11_stones_51 rfl (lv_at hl 0 rfl) ?_
          refine lv_iload_n hx hb dX11_stones_52 rfl (lv_at hl 2 rfl) ?_
          refine lv_aload_n hx hb dX11_stones_53 rfl (lv_at hl 0 rfl) ?_
          refine va_get (D := D) (ci := 10) (v := .int (nI (s_of σ))) (C := RX11) (T := TX11) (N := 31) hx hb hts ni11 hown hK hP 0 (mw_c0 cy ad σ T) rfl 19 (by decide) (hts _ flX11_161) (fun _ h => h) rfl dX11_stones_54 ?_
          refine cr_v (n := 2) (As := [.int (nI (x0)), .int (nI (s_of σ))]) (rest := []) ⟨hx, hb, hml, hown, hts⟩ (k_X11_poundsOfAll l D cy ad σ T x0 (s_of σ) hw (by omega) (by omega)) gvX11_198 (by decide +kernel) ⟨Nat.le_of_ble_eq_true rfl, Nat.le_of_ble_eq_true rfl⟩ hK hN hP 0 (mw_c0 cy ad σ T) rfl rfl hl.1 rfl (Nat.le_of_ble_eq_true rfl) dX11_stones_57 ⟨Nat.zero_le _, Nat.zero_le _⟩ ?_
          refine lv_istore (lv' := [(4, .int (nI (pdA σ x0 (s_of σ)))), (0, .ref (ad 0)), (1, .int (nI (f0))), (2, .int (nI (x0))), (3, .int (nI (w0)))]) hx hb dX11_stones_60 hl (by decide) rfl (fun ls hl => ?_)
          refine lv_iconst (v := nI 0) hx hb dX11_stones_62 (by decide) ?_
          refine lv_istore (lv' := [(5, .int (nI (0))), (4, .int (nI (pdA σ x0 (s_of σ)))), (0, .ref (ad 0)), (1, .int (nI (f0))), (2, .int (nI (x0))), (3, .int (nI (w0)))]) hx hb dX11_stones_63 hl (by decide) rfl (fun ls hl => ?_)
          have lp : ∀ (k i : Nat) (ls : Array Slot), i + k = 10 → (i + bits x0 ≤ s_fe σ (5 * f0 + 3) + 1 ∨ i = 0) → fst (stP σ f0 x0 w0) i = none → lv_has ls 6 [(5, .int (nI (i))), (4, .int (nI (pdA σ x0 (s_of σ)))), (0, .ref (ad 0)), (1, .int (nI (f0))), (2, .int (nI (x0))), (3, .int (nI (w0)))] → W p l e (headSpec qX11_stones (rq 4)).room s m ([.ref (ad 0), .int (nI (f0)), .int (nI (x0)), .int (nI (w0))] : List Value).toArray below meth c s.heap [] 0 0 (MQ below (vp_Si (fun r => r = a_stones σ (nI f0) (nI x0) (nI w0))) ([.ref (ad 0), .int (nI (f0)), .int (nI (x0)), .int (nI (w0))] : List Value).toArray s 0 0 (fun _ => False)) (F0 m 65 ls []) := by
            intro k
            induction k with
            | zero =>
              intro i ls hi hib hno hl
              have hiw : i * w0 ≤ 990 := Nat.le_trans (Nat.mul_le_mul (show i ≤ 10 by omega) (show w0 ≤ 99 by omega)) (by decide)
              refine lv_iload hx hb dX11_stones_65 (lv_at hl 0 rfl) ?_
              refine lv_iload_n hx hb dX11_stones_67 rfl (lv_at hl 4 rfl) ?_
              refine cr_s (n := 1) (As := [.int (nI (x0))]) (rest := [.int (nI (i))]) ⟨hx, hb, hml, hown, hts⟩ (k_X11_bits l x0 (by omega)) gsX11_195 (by decide +kernel) ⟨Nat.le_of_ble_eq_true rfl, Nat.le_of_ble_eq_true rfl⟩ rfl hl.1 rfl (Nat.le_of_ble_eq_true rfl) dX11_stones_68 ⟨Nat.zero_le _, Nat.zero_le _⟩ ?_
              refine ln_iadd hx hb dX11_stones_71 ?_
              refine lv_aload_n hx hb dX11_stones_72 rfl (lv_at hl 2 rfl) ?_
              refine va_get (D := D) (ci := 10) (v := .ref (ad 2)) (C := RX11) (T := TX11) (N := 31) hx hb hts ni11 hown hK hP 0 (mw_c0 cy ad σ T) rfl 3 (by decide) (hts _ flX11_13) (fun _ h => h) rfl dX11_stones_73 ?_
              refine lv_iconst (v := nI 5) hx hb dX11_stones_76 (by decide) ?_
              refine lv_iload_n hx hb dX11_stones_77 rfl (lv_at hl 3 rfl) ?_
              refine ln_imul hx hb dX11_stones_78 ?_
              refine lv_iconst (v := nI 3) hx hb dX11_stones_79 (by decide) ?_
              refine ln_iadd hx hb dX11_stones_80 ?_
              refine ln_iald (v := (nI (s_fe σ ((5 * f0) + 3)))) hx hb hK hP 2 (mw_c2 cy ad σ T) (by omega) (by decide) rfl dX11_stones_81 ?_
              refine ln_icmp_gt (tgt := 110) hx hb dX11_stones_82 (by decide) (by omega) (by omega) (fun c82 => ?_) (fun c82 => ?_)
              · refine lv_iconst (v := -1) hx hb dX11_stones_110 (by decide) ?_
                exact rt_i hx hb hr hlocks (by rw [a_stones, c5, c13, show okW (nI w0) = true from c26, tk_nI (k := f0) (by omega), tk_nI (k := x0) (by omega), tk_nI (k := w0) (by omega), if_neg (by decide), if_neg (by decide), v_stones]; rw [c46, if_pos rfl]; have hq : fst (stP σ f0 x0 w0) (s_fe σ (5 * f0 + 3) + 1 - bits x0) = none := (by rcases (show i = s_fe σ (5 * f0 + 3) + 1 - bits x0 ∨ s_fe σ (5 * f0 + 3) + 1 - bits x0 = 0 by omega) with q | q; rw [← q]; exact hno; rw [q]; rfl); rw [hq]; rfl) dX11_stones_111
              · exact absurd c82 (by omega)
            | succ k ih =>
              intro i ls hi hib hno hl
              have hiw : i * w0 ≤ 990 := Nat.le_trans (Nat.mul_le_mul (show i ≤ 10 by omega) (show w0 ≤ 99 by omega)) (by decide)
              refine lv_iload hx hb dX11_stones_65 (lv_at hl 0 rfl) ?_
              refine lv_iload_n hx hb dX11_stones_67 rfl (lv_at hl 4 rfl) ?_
              refine cr_s (n := 1) (As := [.int (nI (x0))]) (rest := [.int (nI (i))]) ⟨hx, hb, hml, hown, hts⟩ (k_X11_bits l x0 (by omega)) gsX11_195 (by decide +kernel) ⟨Nat.le_of_ble_eq_true rfl, Nat.le_of_ble_eq_true rfl⟩ rfl hl.1 rfl (Nat.le_of_ble_eq_true rfl) dX11_stones_68 ⟨Nat.zero_le _, Nat.zero_le _⟩ ?_
              refine ln_iadd hx hb dX11_stones_71 ?_
              refine lv_aload_n hx hb dX11_stones_72 rfl (lv_at hl 2 rfl) ?_
              refine va_get (D := D) (ci := 10) (v := .ref (ad 2)) (C := RX11) (T := TX11) (N := 31) hx hb hts ni11 hown hK hP 0 (mw_c0 cy ad σ T) rfl 3 (by decide) (hts _ flX11_13) (fun _ h => h) rfl dX11_stones_73 ?_
              refine lv_iconst (v := nI 5) hx hb dX11_stones_76 (by decide) ?_
              refine lv_iload_n hx hb dX11_stones_77 rfl (lv_at hl 3 rfl) ?_
              refine ln_imul hx hb dX11_stones_78 ?_
              refine lv_iconst (v := nI 3) hx hb dX11_stones_79 (by decide) ?_
              refine ln_iadd hx hb dX11_stones_80 ?_
              refine ln_iald (v := (nI (s_fe σ ((5 * f0) + 3)))) hx hb hK hP 2 (mw_c2 cy ad σ T) (by omega) (by decide) rfl dX11_stones_81 ?_
              refine ln_icmp_gt (tgt := 110) hx hb dX11_stones_82 (by decide) (by omega) (by omega) (fun c82 => ?_) (fun c82 => ?_)
              · refine lv_iconst (v := -1) hx hb dX11_stones_110 (by decide) ?_
                exact rt_i hx hb hr hlocks (by rw [a_stones, c5, c13, show okW (nI w0) = true from c26, tk_nI (k := f0) (by omega), tk_nI (k := x0) (by omega), tk_nI (k := w0) (by omega), if_neg (by decide), if_neg (by decide), v_stones]; rw [c46, if_pos rfl]; have hq : fst (stP σ f0 x0 w0) (s_fe σ (5 * f0 + 3) + 1 - bits x0) = none := (by rcases (show i = s_fe σ (5 * f0 + 3) + 1 - bits x0 ∨ s_fe σ (5 * f0 + 3) + 1 - bits x0 = 0 by omega) with q | q; rw [← q]; exact hno; rw [q]; rfl); rw [hq]; rfl) dX11_stones_111
              · refine lv_aload_n hx hb dX11_stones_85 rfl (lv_at hl 2 rfl) ?_
                refine lv_iload_n hx hb dX11_stones_86 rfl (lv_at hl 3 rfl) ?_
                refine lv_iload hx hb dX11_stones_87 (lv_at hl 1 rfl) ?_
                refine lv_iload hx hb dX11_stones_89 (lv_at hl 0 rfl) ?_
                refine lv_iload_n hx hb dX11_stones_91 rfl (lv_at hl 5 rfl) ?_
                refine ln_imul hx hb dX11_stones_92 ?_
                refine ln_iadd hx hb dX11_stones_93 ?_
                refine lv_iconst (v := nI 0) hx hb dX11_stones_94 (by decide) ?_
                refine cr_v (n := 3) (As := [.int (nI (f0)), .int (nI ((pdA σ x0 (s_of σ)) + (i * w0))), .int (nI (0))]) (rest := []) ⟨hx, hb, hml, hown, hts⟩ (k_X11_fitsBy l D cy ad σ T f0 ((pdA σ x0 (s_of σ)) + (i * w0)) 0 hw (by omega) (by omega) (by omega)) gvX11_201 (by decide +kernel) ⟨Nat.le_of_ble_eq_true rfl, Nat.le_of_ble_eq_true rfl⟩ hK hN hP 0 (mw_c0 cy ad σ T) rfl rfl hl.1 rfl (Nat.le_of_ble_eq_true rfl) dX11_stones_95 ⟨Nat.zero_le _, Nat.zero_le _⟩ ?_
                refine lb_if_eq (tgt := 104) hx hb dX11_stones_98 (by decide) (fun c98 => ?_) (fun c98 => ?_)
                · refine ln_iinc (lv' := [(5, .int (nI (i + 1))), (4, .int (nI (pdA σ x0 (s_of σ)))), (0, .ref (ad 0)), (1, .int (nI (f0))), (2, .int (nI (x0))), (3, .int (nI (w0)))]) hx hb dX11_stones_104 hl (k := 0) (n := 1) rfl (by decide) rfl (fun ls hl => ?_)
                  refine lv_goto (tgt := 65) hx hb dX11_stones_107 (by decide) ?_
                  exact ih (i + 1) ls (by omega) (by omega) (fst_none_s hno c98) (lv_sub hl [0, 1, 2, 3, 4, 5] rfl)
                · refine lv_iload hx hb dX11_stones_101 (lv_at hl 0 rfl) ?_
                  exact rt_i hx hb hr hlocks (by rw [a_stones, c5, c13, show okW (nI w0) = true from c26, tk_nI (k := f0) (by omega), tk_nI (k := x0) (by omega), tk_nI (k := w0) (by omega), if_neg (by decide), if_neg (by decide), v_stones]; rw [c46, if_pos rfl, fst_hit hno c98 (by omega)]; rfl) dX11_stones_103
          exact lp 10 0 ls (by omega) (by omega) rfl (lv_sub hl [0, 1, 2, 3, 4, 5] rfl)
        · refine lv_iconst (v := -1) hx hb dX11_stones_49 (by decide) ?_
          exact rt_i hx hb hr hlocks (by rw [a_stones, c5, c13, show okW (nI w0) = true from c26, tk_nI (k := f0) (by omega), tk_nI (k := x0) (by omega), tk_nI (k := w0) (by omega), if_neg (by decide), if_neg (by decide), v_stones]; rw [c46]; rfl) dX11_stones_50
      · refine lv_bipush (v := -3) hx hb dX11_stones_29 (by decide) ?_
        exact rt_i hx hb hr hlocks (by rw [a_stones, c5, c13, show okW w = false from c26]; rfl) dX11_stones_31
    · refine lv_bipush (v := -2) hx hb dX11_stones_16 (by decide) ?_
      exact rt_i hx hb hr hlocks (by first | (rw [a_stones, c5]; rfl; done) | (rw [a_stones, c5, c13]; rfl)) dX11_stones_18
set_option maxHeartbeats 4000000 in
set_option maxRecDepth 100000 in
theorem k_X11_sure (l : Launch) (D : va_G) (cy : Nat → ClassId) (ad : Nat → Nat) (σ : Sg) (T : Ms) (f : Int32) (hw : wfS σ) : MR l yX11_sure qX11_sure 4 [.ref (ad 0), .int (f)] D cy (mw cy ad σ T) (a_sure σ f) := by
  refine Met.ofW (cc := cX11_sure) (maxL := 6) (ret := (some .int)) (by decide) rfl ?_
  intro p e s m args below meth c s₁ B hml hv
  obtain ⟨rfl, hP, hK, hN⟩ := hv
  have hx := B.exec
  have hb := B.bytes
  have hr := B.returns
  have hlocks := B.notSynchronized
  have hts : ∀ cq ∈ tg, cq.before ([.ref (ad 0), .int (f)] : List Value).toArray s = true := fun cq h => atoms_spec (ws := qX11_sure) B.pre cq (List.mem_cons_of_mem _ h)
  have hown : s.vm.findClass RX11 = some m.cls := findClass_of_methodNamed B.named
  have hl := lv_entry ([.ref (ad 0), .int (f)]) (n := 6) (Nat.le_of_ble_eq_true rfl)
  rw [lg_entry_eq]
  generalize (lg_sl ([.ref (ad 0), .int (f)]) ++ List.replicate (6 - (lg_sl ([.ref (ad 0), .int (f)])).length) Slot.unset).toArray = ls at hl ⊢
  have hl : lv_has ls 6 [(0, .ref (ad 0)), (1, .int (f))] := hl
  have hw1 := hw.1
  have hw2 := hw.2.1
  have hp8 := pw_8 hw1
  have hov := ov_lt hw
  have hmo := mo_lt hw
  have hof := of_lt hw
  have hpp := pw_pos (s_n σ)
  refine lv_aload_n hx hb dX11_sure_0 rfl (lv_at hl 0 rfl) ?_
  refine lv_iload_n hx hb dX11_sure_1 rfl (lv_at hl 1 rfl) ?_
  refine cr_v (n := 1) (As := [.int (f)]) (rest := []) ⟨hx, hb, hml, hown, hts⟩ (k_X11_isFerry l D cy ad σ T (f) hw) gvX11_184 (by decide +kernel) ⟨Nat.le_of_ble_eq_true rfl, Nat.le_of_ble_eq_true rfl⟩ hK hN hP 0 (mw_c0 cy ad σ T) rfl rfl hl.1 rfl (Nat.le_of_ble_eq_true rfl) dX11_sure_2 ⟨Nat.zero_le _, Nat.zero_le _⟩ ?_
  refine lb_if_ne (tgt := 11) hx hb dX11_sure_5 (by decide) (fun c5 => ?_) (fun c5 => ?_)
  · obtain ⟨f0, hf, rfl⟩ := ix_of c5 (by omega)
    have hl : lv_has ls 6 [(0, .ref (ad 0)), (1, .int (nI (f0)))] := hl
    refine lv_iconst (v := nI 0) hx hb dX11_sure_11 (by decide) ?_
    refine lv_istore_n (lv' := [(2, .int (nI (0))), (0, .ref (ad 0)), (1, .int (nI (f0)))]) hx hb dX11_sure_12 rfl hl (by decide) rfl (fun ls hl => ?_)
    refine lv_iconst (v := nI 0) hx hb dX11_sure_13 (by decide) ?_
    refine lv_istore_n (lv' := [(3, .int (nI (0))), (2, .int (nI (0))), (0, .ref (ad 0)), (1, .int (nI (f0)))]) hx hb dX11_sure_14 rfl hl (by decide) rfl (fun ls hl => ?_)
    have lp : ∀ (k_lp i : Nat) (ls : Array Slot)  , i + k_lp = 2 ^ s_n σ → lv_has ls 6 [(3, .int (nI (i))), (2, .int (nI (cntN (suP σ f0) i))), (0, .ref (ad 0)), (1, .int (nI (f0)))] → W p l e (headSpec qX11_sure (rq 4)).room s m ([.ref (ad 0), .int (nI (f0))] : List Value).toArray below meth c s.heap [] 0 0 (MQ below (vp_Si (fun r => r = a_sure σ (nI f0))) ([.ref (ad 0), .int (nI (f0))] : List Value).toArray s 0 0 (fun _ => False)) (F0 m 15 ls []) := by
      intro k_lp
      induction k_lp with
      | zero =>
        intro i ls hi_lp hl
        refine lv_iload_n hx hb dX11_sure_15 rfl (lv_at hl 0 rfl) ?_
        refine lv_iconst (v := nI 1) hx hb dX11_sure_16 (by decide) ?_
        refine lv_aload_n hx hb dX11_sure_17 rfl (lv_at hl 2 rfl) ?_
        refine va_get (D := D) (ci := 10) (v := .int (nI (s_n σ))) (C := RX11) (T := TX11) (N := 31) hx hb hts ni11 hown hK hP 0 (mw_c0 cy ad σ T) rfl 0 (by decide) (hts _ flX11_47) (fun _ h => h) rfl dX11_sure_18 ?_
        refine ln_ishl hx hb dX11_sure_21 (by omega) (by omega) ?_
        refine ln_icmp_ge (tgt := 130) hx hb dX11_sure_22 (by decide) (by omega) (by omega) (fun c22 => ?_) (fun c22 => ?_)
        · refine lv_iload_n hx hb dX11_sure_130 rfl (lv_at hl 1 rfl) ?_
          exact rt_i hx hb hr hlocks (by rw [a_sure, c5, tk_nI (k := f0) (by omega), show 2 ^ s_n σ = i by omega]; rfl) dX11_sure_131
        · exact absurd c22 (by omega)
      | succ k_lp ih_lp =>
        intro i ls hi_lp hl
        refine lv_iload_n hx hb dX11_sure_15 rfl (lv_at hl 0 rfl) ?_
        refine lv_iconst (v := nI 1) hx hb dX11_sure_16 (by decide) ?_
        refine lv_aload_n hx hb dX11_sure_17 rfl (lv_at hl 2 rfl) ?_
        refine va_get (D := D) (ci := 10) (v := .int (nI (s_n σ))) (C := RX11) (T := TX11) (N := 31) hx hb hts ni11 hown hK hP 0 (mw_c0 cy ad σ T) rfl 0 (by decide) (hts _ flX11_47) (fun _ h => h) rfl dX11_sure_18 ?_
        refine ln_ishl hx hb dX11_sure_21 (by omega) (by omega) ?_
        refine ln_icmp_ge (tgt := 130) hx hb dX11_sure_22 (by decide) (by omega) (by omega) (fun c22 => ?_) (fun c22 => ?_)
        · exact absurd c22 (by omega)
        · refine lv_iconst (v := nI 0) hx hb dX11_sure_25 (by decide) ?_
          refine lv_istore (lv' := [(4, .int (nI (0))), (3, .int (nI (i))), (2, .int (nI (cntN (suP σ f0) i))), (0, .ref (ad 0)), (1, .int (nI (f0)))]) hx hb dX11_sure_26 hl (by decide) rfl (fun ls hl => ?_)
          refine lv_iconst (v := nI 0) hx hb dX11_sure_28 (by decide) ?_
          refine lv_istore (lv' := [(5, .int (nI (0))), (4, .int (nI (0))), (3, .int (nI (i))), (2, .int (nI (cntN (suP σ f0) i))), (0, .ref (ad 0)), (1, .int (nI (f0)))]) hx hb dX11_sure_29 hl (by decide) rfl (fun ls hl => ?_)
          have lq : ∀ (k_lq j : Nat) (ls : Array Slot)  , j + k_lq = s_n σ → lv_has ls 6 [(5, .int (nI (j))), (4, .int (nI (sumN (fun t => if i.testBit t then s_th σ (6 * t + 5) else 0) j))), (3, .int (nI (i))), (2, .int (nI (cntN (suP σ f0) i))), (0, .ref (ad 0)), (1, .int (nI (f0)))] → W p l e (headSpec qX11_sure (rq 4)).room s m ([.ref (ad 0), .int (nI (f0))] : List Value).toArray below meth c s.heap [] 0 0 (MQ below (vp_Si (fun r => r = a_sure σ (nI f0))) ([.ref (ad 0), .int (nI (f0))] : List Value).toArray s 0 0 (fun _ => False)) (F0 m 31 ls []) := by
            intro k_lq
            induction k_lq with
            | zero =>
              intro j ls hi_lq hl
              refine lv_iload hx hb dX11_sure_31 (lv_at hl 0 rfl) ?_
              refine lv_aload_n hx hb dX11_sure_33 rfl (lv_at hl 4 rfl) ?_
              refine va_get (D := D) (ci := 10) (v := .int (nI (s_n σ))) (C := RX11) (T := TX11) (N := 31) hx hb hts ni11 hown hK hP 0 (mw_c0 cy ad σ T) rfl 0 (by decide) (hts _ flX11_47) (fun _ h => h) rfl dX11_sure_34 ?_
              refine ln_icmp_ge (tgt := 76) hx hb dX11_sure_37 (by decide) (by omega) (by omega) (fun c37 => ?_) (fun c37 => ?_)
              · rw [show j = s_n σ by omega] at hl
                have hua := unA_le hw i
                have hpd := pdA_le hw i (s_of σ)
                have hl : lv_has ls 6 [(4, .int (nI (unA σ i))), (3, .int (nI (i))), (2, .int (nI (cntN (suP σ f0) i))), (0, .ref (ad 0)), (1, .int (nI (f0)))] := lv_sub hl [1, 2, 3, 4, 5] rfl
                refine lv_iload_n hx hb dX11_sure_76 rfl (lv_at hl 2 rfl) ?_
                refine lv_aload_n hx hb dX11_sure_77 rfl (lv_at hl 3 rfl) ?_
                refine lv_iload_n hx hb dX11_sure_78 rfl (lv_at hl 4 rfl) ?_
                refine lv_iload_n hx hb dX11_sure_79 rfl (lv_at hl 1 rfl) ?_
                refine lv_aload_n hx hb dX11_sure_80 rfl (lv_at hl 3 rfl) ?_
                refine va_get (D := D) (ci := 10) (v := .int (nI (s_ov σ))) (C := RX11) (T := TX11) (N := 31) hx hb hts ni11 hown hK hP 0 (mw_c0 cy ad σ T) rfl 17 (by decide) (hts _ flX11_155) (fun _ h => h) rfl dX11_sure_81 ?_
                refine lv_aload_n hx hb dX11_sure_84 rfl (lv_at hl 3 rfl) ?_
                refine va_get (D := D) (ci := 10) (v := .int (nI (s_mo σ))) (C := RX11) (T := TX11) (N := 31) hx hb hts ni11 hown hK hP 0 (mw_c0 cy ad σ T) rfl 18 (by decide) (hts _ flX11_158) (fun _ h => h) rfl dX11_sure_85 ?_
                refine lv_aload_n hx hb dX11_sure_88 rfl (lv_at hl 3 rfl) ?_
                refine va_get (D := D) (ci := 10) (v := .int (nI (s_of σ))) (C := RX11) (T := TX11) (N := 31) hx hb hts ni11 hown hK hP 0 (mw_c0 cy ad σ T) rfl 19 (by decide) (hts _ flX11_161) (fun _ h => h) rfl dX11_sure_89 ?_
                refine cr_v (n := 5) (As := [.int (nI (f0)), .int (nI (i)), .int (nI (s_ov σ)), .int (nI (s_mo σ)), .int (nI (s_of σ))]) (rest := [.int (nI (cntN (suP σ f0) i))]) ⟨hx, hb, hml, hown, hts⟩ (k_X11_isRight l D cy ad σ T f0 i (s_ov σ) (s_mo σ) (s_of σ) hw (by omega) (by omega) (by omega) (by omega) (by omega)) gvX11_207 (by decide +kernel) ⟨Nat.le_of_ble_eq_true rfl, Nat.le_of_ble_eq_true rfl⟩ hK hN hP 0 (mw_c0 cy ad σ T) rfl rfl hl.1 rfl (Nat.le_of_ble_eq_true rfl) dX11_sure_92 ⟨Nat.zero_le _, Nat.zero_le _⟩ ?_
                refine lb_if_eq (tgt := 121) hx hb dX11_sure_95 (by decide) (fun c95 => ?_) (fun c95 => ?_)
                · refine lv_iconst (v := nI 0) hx hb dX11_sure_121 (by decide) ?_
                  refine ln_iadd hx hb dX11_sure_122 ?_
                  refine ln_nat (show (cntN (suP σ f0) i) + 0 = cntN (suP σ f0) (i + 1) from by first | exact cntN_t (suP_t c95 c114) | exact cntN_f (suP_f1 c95) | exact cntN_f (suP_f2 c114)) ?_
                  refine lv_istore_n (lv' := [(2, .int (nI (cntN (suP σ f0) (i + 1)))), (4, .int (nI (unA σ i))), (3, .int (nI (i))), (0, .ref (ad 0)), (1, .int (nI (f0)))]) hx hb dX11_sure_123 rfl hl (by decide) rfl (fun ls hl => ?_)
                  refine ln_iinc (lv' := [(3, .int (nI (i + 1))), (2, .int (nI (cntN (suP σ f0) (i + 1)))), (4, .int (nI (unA σ i))), (0, .ref (ad 0)), (1, .int (nI (f0)))]) hx hb dX11_sure_124 hl (k := 2) (n := 1) rfl (by decide) rfl (fun ls hl => ?_)
                  refine lv_goto (tgt := 15) hx hb dX11_sure_127 (by decide) ?_
                  have hl : lv_has ls 6 [(3, .int (nI (i + 1))), (2, .int (nI (cntN (suP σ f0) (i + 1)))), (0, .ref (ad 0)), (1, .int (nI (f0)))] := lv_sub hl [0, 1, 3, 4] rfl
                  exact ih_lp (i + 1) ls (by omega)  hl
                · refine lv_aload_n hx hb dX11_sure_98 rfl (lv_at hl 3 rfl) ?_
                  refine lv_iload_n hx hb dX11_sure_99 rfl (lv_at hl 4 rfl) ?_
                  refine lv_aload_n hx hb dX11_sure_100 rfl (lv_at hl 3 rfl) ?_
                  refine lv_iload_n hx hb dX11_sure_101 rfl (lv_at hl 1 rfl) ?_
                  refine lv_aload_n hx hb dX11_sure_102 rfl (lv_at hl 3 rfl) ?_
                  refine va_get (D := D) (ci := 10) (v := .int (nI (s_of σ))) (C := RX11) (T := TX11) (N := 31) hx hb hts ni11 hown hK hP 0 (mw_c0 cy ad σ T) rfl 19 (by decide) (hts _ flX11_161) (fun _ h => h) rfl dX11_sure_103 ?_
                  refine cr_v (n := 2) (As := [.int (nI (i)), .int (nI (s_of σ))]) (rest := [.int (nI (f0)), .ref (ad 0), .int (nI (cntN (suP σ f0) i))]) ⟨hx, hb, hml, hown, hts⟩ (k_X11_poundsOfAll l D cy ad σ T i (s_of σ) hw (by omega) (by omega)) gvX11_198 (by decide +kernel) ⟨Nat.le_of_ble_eq_true rfl, Nat.le_of_ble_eq_true rfl⟩ hK hN hP 0 (mw_c0 cy ad σ T) rfl rfl hl.1 rfl (Nat.le_of_ble_eq_true rfl) dX11_sure_106 ⟨Nat.zero_le _, Nat.zero_le _⟩ ?_
                  refine lv_iload hx hb dX11_sure_109 (lv_at hl 0 rfl) ?_
                  refine cr_v (n := 3) (As := [.int (nI (f0)), .int (nI (pdA σ i (s_of σ))), .int (nI (unA σ i))]) (rest := [.int (nI (cntN (suP σ f0) i))]) ⟨hx, hb, hml, hown, hts⟩ (k_X11_fitsBy l D cy ad σ T f0 (pdA σ i (s_of σ)) (unA σ i) hw (by omega) (by omega) (by omega)) gvX11_201 (by decide +kernel) ⟨Nat.le_of_ble_eq_true rfl, Nat.le_of_ble_eq_true rfl⟩ hK hN hP 0 (mw_c0 cy ad σ T) rfl rfl hl.1 rfl (Nat.le_of_ble_eq_true rfl) dX11_sure_111 ⟨Nat.zero_le _, Nat.zero_le _⟩ ?_
                  refine lb_if_eq (tgt := 121) hx hb dX11_sure_114 (by decide) (fun c114 => ?_) (fun c114 => ?_)
                  · refine lv_iconst (v := nI 0) hx hb dX11_sure_121 (by decide) ?_
                    refine ln_iadd hx hb dX11_sure_122 ?_
                    refine ln_nat (show (cntN (suP σ f0) i) + 0 = cntN (suP σ f0) (i + 1) from by first | exact cntN_t (suP_t c95 c114) | exact cntN_f (suP_f1 c95) | exact cntN_f (suP_f2 c114)) ?_
                    refine lv_istore_n (lv' := [(2, .int (nI (cntN (suP σ f0) (i + 1)))), (4, .int (nI (unA σ i))), (3, .int (nI (i))), (0, .ref (ad 0)), (1, .int (nI (f0)))]) hx hb dX11_sure_123 rfl hl (by decide) rfl (fun ls hl => ?_)
                    refine ln_iinc (lv' := [(3, .int (nI (i + 1))), (2, .int (nI (cntN (suP σ f0) (i + 1)))), (4, .int (nI (unA σ i))), (0, .ref (ad 0)), (1, .int (nI (f0)))]) hx hb dX11_sure_124 hl (k := 2) (n := 1) rfl (by decide) rfl (fun ls hl => ?_)
                    refine lv_goto (tgt := 15) hx hb dX11_sure_127 (by decide) ?_
                    have hl : lv_has ls 6 [(3, .int (nI (i + 1))), (2, .int (nI (cntN (suP σ f0) (i + 1)))), (0, .ref (ad 0)), (1, .int (nI (f0)))] := lv_sub hl [0, 1, 3, 4] rfl
                    exact ih_lp (i + 1) ls (by omega)  hl
                  · refine lv_iconst (v := nI 1) hx hb dX11_sure_117 (by decide) ?_
                    refine lv_goto (tgt := 122) hx hb dX11_sure_118 (by decide) ?_
                    refine ln_iadd hx hb dX11_sure_122 ?_
                    refine ln_nat (show (cntN (suP σ f0) i) + 1 = cntN (suP σ f0) (i + 1) from by first | exact cntN_t (suP_t c95 c114) | exact cntN_f (suP_f1 c95) | exact cntN_f (suP_f2 c114)) ?_
                    refine lv_istore_n (lv' := [(2, .int (nI (cntN (suP σ f0) (i + 1)))), (4, .int (nI (unA σ i))), (3, .int (nI (i))), (0, .ref (ad 0)), (1, .int (nI (f0)))]) hx hb dX11_sure_123 rfl hl (by decide) rfl (fun ls hl => ?_)
                    refine ln_iinc (lv' := [(3, .int (nI (i + 1))), (2, .int (nI (cntN (suP σ f0) (i + 1)))), (4, .int (nI (unA σ i))), (0, .ref (ad 0)), (1, .int (nI (f0)))]) hx hb dX11_sure_124 hl (k := 2) (n := 1) rfl (by decide) rfl (fun ls hl => ?_)
                    refine lv_goto (tgt := 15) hx hb dX11_sure_127 (by decide) ?_
                    have hl : lv_has ls 6 [(3, .int (nI (i + 1))), (2, .int (nI (cntN (suP σ f0) (i + 1)))), (0, .ref (ad 0)), (1, .int (nI (f0)))] := lv_sub hl [0, 1, 3, 4] rfl
                    exact ih_lp (i + 1) ls (by omega)  hl
              · exact absurd c37 (by omega)
            | succ k_lq ih_lq =>
              intro j ls hi_lq hl
              refine lv_iload hx hb dX11_sure_31 (lv_at hl 0 rfl) ?_
              refine lv_aload_n hx hb dX11_sure_33 rfl (lv_at hl 4 rfl) ?_
              refine va_get (D := D) (ci := 10) (v := .int (nI (s_n σ))) (C := RX11) (T := TX11) (N := 31) hx hb hts ni11 hown hK hP 0 (mw_c0 cy ad σ T) rfl 0 (by decide) (hts _ flX11_47) (fun _ h => h) rfl dX11_sure_34 ?_
              refine ln_icmp_ge (tgt := 76) hx hb dX11_sure_37 (by decide) (by omega) (by omega) (fun c37 => ?_) (fun c37 => ?_)
              · exact absurd c37 (by omega)
              · refine lv_iload hx hb dX11_sure_40 (lv_at hl 1 rfl) ?_
                refine lv_iload_n hx hb dX11_sure_42 rfl (lv_at hl 2 rfl) ?_
                refine lv_iload hx hb dX11_sure_43 (lv_at hl 0 rfl) ?_
                refine cr_s (n := 2) (As := [.int (nI (i)), .int (nI (j))]) (rest := [.int (nI (sumN (fun t => if i.testBit t then s_th σ (6 * t + 5) else 0) j))]) ⟨hx, hb, hml, hown, hts⟩ (k_X11_has l i j (by omega) (by omega)) gsX11_173 (by decide +kernel) ⟨Nat.le_of_ble_eq_true rfl, Nat.le_of_ble_eq_true rfl⟩ rfl hl.1 rfl (Nat.le_of_ble_eq_true rfl) dX11_sure_45 ⟨Nat.zero_le _, Nat.zero_le _⟩ ?_
                refine lb_if_eq (tgt := 66) hx hb dX11_sure_48 (by decide) (fun c48 => ?_) (fun c48 => ?_)
                · refine lv_iconst (v := nI 0) hx hb dX11_sure_66 (by decide) ?_
                  refine ln_iadd hx hb dX11_sure_67 ?_
                  refine ln_nat (show (sumN (fun t => if i.testBit t then s_th σ (6 * t + 5) else 0) j) + 0 = sumN (fun t => if i.testBit t then s_th σ (6 * t + 5) else 0) (j + 1) from by first | exact sum_t (f := fun _ => 0) (g := fun t => s_th σ (6 * t + 5)) c48 rfl | exact sum_f c48) ?_
                  refine lv_istore (lv' := [(4, .int (nI (sumN (fun t => if i.testBit t then s_th σ (6 * t + 5) else 0) (j + 1)))), (5, .int (nI (j))), (3, .int (nI (i))), (2, .int (nI (cntN (suP σ f0) i))), (0, .ref (ad 0)), (1, .int (nI (f0)))]) hx hb dX11_sure_68 hl (by decide) rfl (fun ls hl => ?_)
                  refine ln_iinc (lv' := [(5, .int (nI (j + 1))), (4, .int (nI (sumN (fun t => if i.testBit t then s_th σ (6 * t + 5) else 0) (j + 1)))), (3, .int (nI (i))), (2, .int (nI (cntN (suP σ f0) i))), (0, .ref (ad 0)), (1, .int (nI (f0)))]) hx hb dX11_sure_70 hl (k := 1) (n := 1) rfl (by decide) rfl (fun ls hl => ?_)
                  refine lv_goto (tgt := 31) hx hb dX11_sure_73 (by decide) ?_
                  have hl : lv_has ls 6 [(5, .int (nI (j + 1))), (4, .int (nI (sumN (fun t => if i.testBit t then s_th σ (6 * t + 5) else 0) (j + 1)))), (3, .int (nI (i))), (2, .int (nI (cntN (suP σ f0) i))), (0, .ref (ad 0)), (1, .int (nI (f0)))] := lv_sub hl [0, 1, 2, 3, 4, 5] rfl
                  exact ih_lq (j + 1) ls (by omega)  hl
                · refine lv_aload_n hx hb dX11_sure_51 rfl (lv_at hl 4 rfl) ?_
                  refine va_get (D := D) (ci := 10) (v := .ref (ad 1)) (C := RX11) (T := TX11) (N := 31) hx hb hts ni11 hown hK hP 0 (mw_c0 cy ad σ T) rfl 1 (by decide) (hts _ flX11_7) (fun _ h => h) rfl dX11_sure_52 ?_
                  refine lv_bipush (v := nI 6) hx hb dX11_sure_55 (by decide) ?_
                  refine lv_iload hx hb dX11_sure_57 (lv_at hl 0 rfl) ?_
                  refine ln_imul hx hb dX11_sure_59 ?_
                  refine lv_iconst (v := nI 5) hx hb dX11_sure_60 (by decide) ?_
                  refine ln_iadd hx hb dX11_sure_61 ?_
                  refine ln_iald (v := (nI (s_th σ ((6 * j) + 5)))) hx hb hK hP 1 (mw_c1 cy ad σ T) (by omega) (by decide) rfl dX11_sure_62 ?_
                  refine lv_goto (tgt := 67) hx hb dX11_sure_63 (by decide) ?_
                  refine ln_iadd hx hb dX11_sure_67 ?_
                  refine ln_nat (show (sumN (fun t => if i.testBit t then s_th σ (6 * t + 5) else 0) j) + (s_th σ ((6 * j) + 5)) = sumN (fun t => if i.testBit t then s_th σ (6 * t + 5) else 0) (j + 1) from by first | exact sum_t (f := fun _ => 0) (g := fun t => s_th σ (6 * t + 5)) c48 rfl | exact sum_f c48) ?_
                  refine lv_istore (lv' := [(4, .int (nI (sumN (fun t => if i.testBit t then s_th σ (6 * t + 5) else 0) (j + 1)))), (5, .int (nI (j))), (3, .int (nI (i))), (2, .int (nI (cntN (suP σ f0) i))), (0, .ref (ad 0)), (1, .int (nI (f0)))]) hx hb dX11_sure_68 hl (by decide) rfl (fun ls hl => ?_)
                  refine ln_iinc (lv' := [(5, .int (nI (j + 1))), (4, .int (nI (sumN (fun t => if i.testBit t then s_th σ (6 * t + 5) else 0) (j + 1)))), (3, .int (nI (i))), (2, .int (nI (cntN (suP σ f0) i))), (0, .ref (ad 0)), (1, .int (nI (f0)))]) hx hb dX11_sure_70 hl (k := 1) (n := 1) rfl (by decide) rfl (fun ls hl => ?_)
                  refine lv_goto (tgt := 31) hx hb dX11_sure_73 (by decide) ?_
                  have hl : lv_has ls 6 [(5, .int (nI (j + 1))), (4, .int (nI (sumN (fun t => if i.testBit t then s_th σ (6 * t + 5) else 0) (j + 1)))), (3, .int (nI (i))), (2, .int (nI (cntN (suP σ f0) i))), (0, .ref (ad 0)), (1, .int (nI (f0)))] := lv_sub hl [0, 1, 2, 3, 4, 5] rfl
                  exact ih_lq (j + 1) ls (by omega)  hl
          have hl : lv_has ls 6 [(5, .int (nI (0))), (4, .int (nI (sumN (fun t => if i.testBit t then s_th σ (6 * t + 5) else 0) 0))), (3, .int (nI (i))), (2, .int (nI (cntN (suP σ f0) i))), (0, .ref (ad 0)), (1, .int (nI (f0)))] := lv_sub hl [0, 1, 2, 3, 4, 5] rfl
          exact lq (s_n σ - 0) 0 ls (by omega)  hl
    have hl : lv_has ls 6 [(3, .int (nI (0))), (2, .int (nI (cntN (suP σ f0) 0))), (0, .ref (ad 0)), (1, .int (nI (f0)))] := lv_sub hl [0, 1, 2, 3] rfl
    exact lp (2 ^ s_n σ - 0) 0 ls (by omega)  hl
  · refine lv_bipush (v := -2) hx hb dX11_sure_8 (by decide) ?_
    exact rt_i hx hb hr hlocks (by rw [a_sure, c5]; rfl) dX11_sure_10
set_option maxHeartbeats 4000000 in
set_option maxRecDepth 100000 in
theorem k_X11_aboard (l : Launch) (D : va_G) (cy : Nat → ClassId) (ad : Nat → Nat) (σ : Sg) (T : Ms) (f ii oo w : Int32) (hw : wfS σ) : MR l yX11_aboard qX11_aboard 4 [.ref (ad 0), .int (f), .int (ii), .int (oo), .int (w)] D cy (mw cy ad σ T) (a_aboard σ f ii oo w) := by
  refine Met.ofW (cc := cX11_aboard) (maxL := 9) (ret := (some .int)) (by decide) rfl ?_
  intro p e s m args below meth c s₁ B hml hv
  obtain ⟨rfl, hP, hK, hN⟩ := hv
  have hx := B.exec
  have hb := B.bytes
  have hr := B.returns
  have hlocks := B.notSynchronized
  have hts : ∀ cq ∈ tg, cq.before ([.ref (ad 0), .int (f), .int (ii), .int (oo), .int (w)] : List Value).toArray s = true := fun cq h => atoms_spec (ws := qX11_aboard) B.pre cq (List.mem_cons_of_mem _ h)
  have hown : s.vm.findClass RX11 = some m.cls := findClass_of_methodNamed B.named
  have hl := lv_entry ([.ref (ad 0), .int (f), .int (ii), .int (oo), .int (w)]) (n := 9) (Nat.le_of_ble_eq_true rfl)
  rw [lg_entry_eq]
  generalize (lg_sl ([.ref (ad 0), .int (f), .int (ii), .int (oo), .int (w)]) ++ List.replicate (9 - (lg_sl ([.ref (ad 0), .int (f), .int (ii), .int (oo), .int (w)])).length) Slot.unset).toArray = ls at hl ⊢
  have hl : lv_has ls 9 [(0, .ref (ad 0)), (1, .int (f)), (2, .int (ii)), (3, .int (oo)), (4, .int (w))] := hl
  have hw1 := hw.1
  have hw2 := hw.2.1
  have hp8 := pw_8 hw1
  have hov := ov_lt hw
  have hmo := mo_lt hw
  have hof := of_lt hw
  have hpp := pw_pos (s_n σ)
  refine lv_aload_n hx hb dX11_aboard_0 rfl (lv_at hl 0 rfl) ?_
  refine lv_iload_n hx hb dX11_aboard_1 rfl (lv_at hl 1 rfl) ?_
  refine cr_v (n := 1) (As := [.int (f)]) (rest := []) ⟨hx, hb, hml, hown, hts⟩ (k_X11_isFerry l D cy ad σ T (f) hw) gvX11_184 (by decide +kernel) ⟨Nat.le_of_ble_eq_true rfl, Nat.le_of_ble_eq_true rfl⟩ hK hN hP 0 (mw_c0 cy ad σ T) rfl rfl hl.1 rfl (Nat.le_of_ble_eq_true rfl) dX11_aboard_2 ⟨Nat.zero_le _, Nat.zero_le _⟩ ?_
  refine lb_if_eq (tgt := 24) hx hb dX11_aboard_5 (by decide) (fun c5 => ?_) (fun c5 => ?_)
  · refine lv_bipush (v := -2) hx hb dX11_aboard_24 (by decide) ?_
    exact rt_i hx hb hr hlocks (by first | (rw [a_aboard, c5]; rfl; done) | (rw [a_aboard, c5, c13]; rfl; done) | (rw [a_aboard, c5, c13, c21]; rfl)) dX11_aboard_26
  · refine lv_aload_n hx hb dX11_aboard_8 rfl (lv_at hl 0 rfl) ?_
    refine lv_iload_n hx hb dX11_aboard_9 rfl (lv_at hl 2 rfl) ?_
    refine cr_v (n := 1) (As := [.int (ii)]) (rest := []) ⟨hx, hb, hml, hown, hts⟩ (k_X11_isSet l D cy ad σ T (ii) hw) gvX11_204 (by decide +kernel) ⟨Nat.le_of_ble_eq_true rfl, Nat.le_of_ble_eq_true rfl⟩ hK hN hP 0 (mw_c0 cy ad σ T) rfl rfl hl.1 rfl (Nat.le_of_ble_eq_true rfl) dX11_aboard_10 ⟨Nat.zero_le _, Nat.zero_le _⟩ ?_
    refine lb_if_eq (tgt := 24) hx hb dX11_aboard_13 (by decide) (fun c13 => ?_) (fun c13 => ?_)
    · refine lv_bipush (v := -2) hx hb dX11_aboard_24 (by decide) ?_
      exact rt_i hx hb hr hlocks (by first | (rw [a_aboard, c5]; rfl; done) | (rw [a_aboard, c5, c13]; rfl; done) | (rw [a_aboard, c5, c13, c21]; rfl)) dX11_aboard_26
    · refine lv_aload_n hx hb dX11_aboard_16 rfl (lv_at hl 0 rfl) ?_
      refine lv_iload_n hx hb dX11_aboard_17 rfl (lv_at hl 3 rfl) ?_
      refine cr_v (n := 1) (As := [.int (oo)]) (rest := []) ⟨hx, hb, hml, hown, hts⟩ (k_X11_isSet l D cy ad σ T (oo) hw) gvX11_204 (by decide +kernel) ⟨Nat.le_of_ble_eq_true rfl, Nat.le_of_ble_eq_true rfl⟩ hK hN hP 0 (mw_c0 cy ad σ T) rfl rfl hl.1 rfl (Nat.le_of_ble_eq_true rfl) dX11_aboard_18 ⟨Nat.zero_le _, Nat.zero_le _⟩ ?_
      refine lb_if_ne (tgt := 27) hx hb dX11_aboard_21 (by decide) (fun c21 => ?_) (fun c21 => ?_)
      · obtain ⟨f0, hf, rfl⟩ := ix_of c5 (by omega)
        have hl : lv_has ls 9 [(0, .ref (ad 0)), (1, .int (nI (f0))), (2, .int (ii)), (3, .int (oo)), (4, .int (w))] := hl
        obtain ⟨i0, hi0, rfl⟩ := ix_of c13 (by omega)
        have hl : lv_has ls 9 [(0, .ref (ad 0)), (1, .int (nI (f0))), (2, .int (nI (i0))), (3, .int (oo)), (4, .int (w))] := hl
        obtain ⟨o0, ho0, rfl⟩ := ix_of c21 (by omega)
        have hl : lv_has ls 9 [(0, .ref (ad 0)), (1, .int (nI (f0))), (2, .int (nI (i0))), (3, .int (nI (o0))), (4, .int (w))] := hl
        refine lv_iload hx hb dX11_aboard_27 (lv_at hl 4 rfl) ?_
        refine lv_iconst (v := nI 0) hx hb dX11_aboard_29 (by decide) ?_
        refine lv_iconst (v := nI 2) hx hb dX11_aboard_30 (by decide) ?_
        refine cr_s (n := 3) (As := [.int (w), .int (nI (0)), .int (nI (2))]) (rest := []) ⟨hx, hb, hml, hown, hts⟩ (k_X11_in l (w) (nI (0)) (nI (2))) gsX11_51 (by decide +kernel) ⟨Nat.le_of_ble_eq_true rfl, Nat.le_of_ble_eq_true rfl⟩ rfl hl.1 rfl (Nat.le_of_ble_eq_true rfl) dX11_aboard_31 ⟨Nat.zero_le _, Nat.zero_le _⟩ ?_
        refine lb_if_ne (tgt := 40) hx hb dX11_aboard_34 (by decide) (fun c34 => ?_) (fun c34 => ?_)
        · obtain ⟨w0, hw0, rfl⟩ := ix_of (ix3 c34) (by omega)
          have hl : lv_has ls 9 [(0, .ref (ad 0)), (1, .int (nI (f0))), (2, .int (nI (i0))), (3, .int (nI (o0))), (4, .int (nI (w0)))] := hl
          refine lv_iconst (v := nI 0) hx hb dX11_aboard_40 (by decide) ?_
          refine lv_istore (lv' := [(5, .int (nI (0))), (0, .ref (ad 0)), (1, .int (nI (f0))), (2, .int (nI (i0))), (3, .int (nI (o0))), (4, .int (nI (w0)))]) hx hb dX11_aboard_41 hl (by decide) rfl (fun ls hl => ?_)
          refine lv_iconst (v := nI 0) hx hb dX11_aboard_43 (by decide) ?_
          refine lv_istore (lv' := [(6, .int (nI (0))), (5, .int (nI (0))), (0, .ref (ad 0)), (1, .int (nI (f0))), (2, .int (nI (i0))), (3, .int (nI (o0))), (4, .int (nI (w0)))]) hx hb dX11_aboard_44 hl (by decide) rfl (fun ls hl => ?_)
          refine lv_iconst (v := nI 1) hx hb dX11_aboard_46 (by decide) ?_
          refine lv_aload_n hx hb dX11_aboard_47 rfl (lv_at hl 2 rfl) ?_
          refine va_get (D := D) (ci := 10) (v := .int (nI (s_n σ))) (C := RX11) (T := TX11) (N := 31) hx hb hts ni11 hown hK hP 0 (mw_c0 cy ad σ T) rfl 0 (by decide) (hts _ flX11_47) (fun _ h => h) rfl dX11_aboard_48 ?_
          refine ln_ishl hx hb dX11_aboard_51 (by omega) (by omega) ?_
          refine lv_iconst (v := nI 1) hx hb dX11_aboard_52 (by decide) ?_
          refine ln_isub hx hb dX11_aboard_53 (by omega) ?_
          refine ln_nat (show (1 * 2 ^ (s_n σ)) - 1 = 2 ^ s_n σ - 1 from by rw [Nat.one_mul]) ?_
          refine lv_istore (lv' := [(7, .int (nI (2 ^ s_n σ - 1))), (6, .int (nI (0))), (5, .int (nI (0))), (0, .ref (ad 0)), (1, .int (nI (f0))), (2, .int (nI (i0))), (3, .int (nI (o0))), (4, .int (nI (w0)))]) hx hb dX11_aboard_54 hl (by decide) rfl (fun ls hl => ?_)
          refine lv_iconst (v := nI 0) hx hb dX11_aboard_56 (by decide) ?_
          refine lv_istore (lv' := [(8, .int (nI (0))), (7, .int (nI (2 ^ s_n σ - 1))), (6, .int (nI (0))), (5, .int (nI (0))), (0, .ref (ad 0)), (1, .int (nI (f0))), (2, .int (nI (i0))), (3, .int (nI (o0))), (4, .int (nI (w0)))]) hx hb dX11_aboard_57 hl (by decide) rfl (fun ls hl => ?_)
          have lp : ∀ (k_lp i : Nat) (ls : Array Slot)  , i + k_lp = 2 ^ s_n σ → lv_has ls 9 [(8, .int (nI (i))), (5, .int (nI (cntN (abP σ f0 i0 o0) i))), (6, .int (nI (orN (abP σ f0 i0 o0) i))), (7, .int (nI (andN (abP σ f0 i0 o0) (2 ^ s_n σ - 1) i))), (0, .ref (ad 0)), (1, .int (nI (f0))), (2, .int (nI (i0))), (3, .int (nI (o0))), (4, .int (nI (w0)))] → W p l e (headSpec qX11_aboard (rq 4)).room s m ([.ref (ad 0), .int (nI (f0)), .int (nI (i0)), .int (nI (o0)), .int (nI (w0))] : List Value).toArray below meth c s.heap [] 0 0 (MQ below (vp_Si (fun r => r = a_aboard σ (nI f0) (nI i0) (nI o0) (nI w0))) ([.ref (ad 0), .int (nI (f0)), .int (nI (i0)), .int (nI (o0)), .int (nI (w0))] : List Value).toArray s 0 0 (fun _ => False)) (F0 m 59 ls []) := by
            intro k_lp
            induction k_lp with
            | zero =>
              intro i ls hi_lp hl
              have hcl := cntN_le (abP σ f0 i0 o0) i
              refine lv_iload hx hb dX11_aboard_59 (lv_at hl 0 rfl) ?_
              refine lv_iconst (v := nI 1) hx hb dX11_aboard_61 (by decide) ?_
              refine lv_aload_n hx hb dX11_aboard_62 rfl (lv_at hl 4 rfl) ?_
              refine va_get (D := D) (ci := 10) (v := .int (nI (s_n σ))) (C := RX11) (T := TX11) (N := 31) hx hb hts ni11 hown hK hP 0 (mw_c0 cy ad σ T) rfl 0 (by decide) (hts _ flX11_47) (fun _ h => h) rfl dX11_aboard_63 ?_
              refine ln_ishl hx hb dX11_aboard_66 (by omega) (by omega) ?_
              refine ln_icmp_ge (tgt := 131) hx hb dX11_aboard_67 (by decide) (by omega) (by omega) (fun c67 => ?_) (fun c67 => ?_)
              · refine lv_iload hx hb dX11_aboard_131 (lv_at hl 8 rfl) ?_
                refine ln_if_ne (tgt := 141) hx hb dX11_aboard_133 (by decide) (by omega) (fun c133 => ?_) (fun c133 => ?_)
                · refine lv_iload hx hb dX11_aboard_141 (lv_at hl 1 rfl) ?_
                  refine ln_if_ne (tgt := 150) hx hb dX11_aboard_143 (by decide) (by omega) (fun c143 => ?_) (fun c143 => ?_)
                  · refine lv_iload hx hb dX11_aboard_150 (lv_at hl 8 rfl) ?_
                    refine lv_iconst (v := nI 1) hx hb dX11_aboard_152 (by decide) ?_
                    refine ln_icmp_ne (tgt := 161) hx hb dX11_aboard_153 (by decide) (by omega) (by omega) (fun c153 => ?_) (fun c153 => ?_)
                    · refine lv_iload hx hb dX11_aboard_161 (lv_at hl 3 rfl) ?_
                      exact rt_i hx hb hr hlocks (by rw [a_aboard, c5, c13, c21, ix3 c34, tk_nI (k := f0) (by omega), tk_nI (k := i0) (by omega), tk_nI (k := o0) (by omega), tk_nI (k := w0) (by omega), if_neg (by decide), if_neg (by decide), v_aboard, show 2 ^ s_n σ = i by omega]; first | (rw [if_pos c133]; done) | (rw [if_neg (by omega), if_pos c143]; done) | (rw [if_neg (by omega), if_neg (by omega), if_pos c153]; done) | (rw [if_neg (by omega), if_neg (by omega), if_neg c153])) dX11_aboard_163
                    · refine lv_iload hx hb dX11_aboard_156 (lv_at hl 2 rfl) ?_
                      refine lv_goto (tgt := 163) hx hb dX11_aboard_158 (by decide) ?_
                      exact rt_i hx hb hr hlocks (by rw [a_aboard, c5, c13, c21, ix3 c34, tk_nI (k := f0) (by omega), tk_nI (k := i0) (by omega), tk_nI (k := o0) (by omega), tk_nI (k := w0) (by omega), if_neg (by decide), if_neg (by decide), v_aboard, show 2 ^ s_n σ = i by omega]; first | (rw [if_pos c133]; done) | (rw [if_neg (by omega), if_pos c143]; done) | (rw [if_neg (by omega), if_neg (by omega), if_pos c153]; done) | (rw [if_neg (by omega), if_neg (by omega), if_neg c153])) dX11_aboard_163
                  · refine lv_iconst (v := -1) hx hb dX11_aboard_146 (by decide) ?_
                    refine lv_goto (tgt := 163) hx hb dX11_aboard_147 (by decide) ?_
                    exact rt_i hx hb hr hlocks (by rw [a_aboard, c5, c13, c21, ix3 c34, tk_nI (k := f0) (by omega), tk_nI (k := i0) (by omega), tk_nI (k := o0) (by omega), tk_nI (k := w0) (by omega), if_neg (by decide), if_neg (by decide), v_aboard, show 2 ^ s_n σ = i by omega]; first | (rw [if_pos c133]; done) | (rw [if_neg (by omega), if_pos c143]; done) | (rw [if_neg (by omega), if_neg (by omega), if_pos c153]; done) | (rw [if_neg (by omega), if_neg (by omega), if_neg c153])) dX11_aboard_163
                · refine lv_iload hx hb dX11_aboard_136 (lv_at hl 1 rfl) ?_
                  refine lv_goto (tgt := 163) hx hb dX11_aboard_138 (by decide) ?_
                  exact rt_i hx hb hr hlocks (by rw [a_aboard, c5, c13, c21, ix3 c34, tk_nI (k := f0) (by omega), tk_nI (k := i0) (by omega), tk_nI (k := o0) (by omega), tk_nI (k := w0) (by omega), if_neg (by decide), if_neg (by decide), v_aboard, show 2 ^ s_n σ = i by omega]; first | (rw [if_pos c133]; done) | (rw [if_neg (by omega), if_pos c143]; done) | (rw [if_neg (by omega), if_neg (by omega), if_pos c153]; done) | (rw [if_neg (by omega), if_neg (by omega), if_neg c153])) dX11_aboard_163
              · exact absurd c67 (by omega)
            | succ k_lp ih_lp =>
              intro i ls hi_lp hl
              have hcl := cntN_le (abP σ f0 i0 o0) i
              refine lv_iload hx hb dX11_aboard_59 (lv_at hl 0 rfl) ?_
              refine lv_iconst (v := nI 1) hx hb dX11_aboard_61 (by decide) ?_
              refine lv_aload_n hx hb dX11_aboard_62 rfl (lv_at hl 4 rfl) ?_
              refine va_get (D := D) (ci := 10) (v := .int (nI (s_n σ))) (C := RX11) (T := TX11) (N := 31) hx hb hts ni11 hown hK hP 0 (mw_c0 cy ad σ T) rfl 0 (by decide) (hts _ flX11_47) (fun _ h => h) rfl dX11_aboard_63 ?_
              refine ln_ishl hx hb dX11_aboard_66 (by omega) (by omega) ?_
              refine ln_icmp_ge (tgt := 131) hx hb dX11_aboard_67 (by decide) (by omega) (by omega) (fun c67 => ?_) (fun c67 => ?_)
              · exact absurd c67 (by omega)
              · refine lv_iload_n hx hb dX11_aboard_70 rfl (lv_at hl 6 rfl) ?_
                refine lv_iload hx hb dX11_aboard_71 (lv_at hl 0 rfl) ?_
                refine lv_iconst (v := -1) hx hb dX11_aboard_73 (by decide) ?_
                refine lv_ixor hx hb dX11_aboard_74 ?_
                refine ln_eq (show ((nI (i)) ^^^ (-1)) = (nI (i ^^^ (2 ^ 32 - 1))) from xorm1 _ (by omega)) ?_
                refine ln_iand hx hb dX11_aboard_75 ?_
                refine ln_if_ne (tgt := 125) hx hb dX11_aboard_76 (by decide) (and_lt (by omega)) (fun c76 => ?_) (fun c76 => ?_)
                · refine ln_iinc (lv' := [(8, .int (nI (i + 1))), (5, .int (nI (cntN (abP σ f0 i0 o0) i))), (6, .int (nI (orN (abP σ f0 i0 o0) i))), (7, .int (nI (andN (abP σ f0 i0 o0) (2 ^ s_n σ - 1) i))), (0, .ref (ad 0)), (1, .int (nI (f0))), (2, .int (nI (i0))), (3, .int (nI (o0))), (4, .int (nI (w0)))]) hx hb dX11_aboard_125 hl (k := 0) (n := 1) rfl (by decide) rfl (fun ls hl => ?_)
                  refine lv_goto (tgt := 59) hx hb dX11_aboard_128 (by decide) ?_
                  have hl : lv_has ls 9 [(8, .int (nI (i + 1))), (5, .int (nI (cntN (abP σ f0 i0 o0) (i + 1)))), (6, .int (nI (orN (abP σ f0 i0 o0) (i + 1)))), (7, .int (nI (andN (abP σ f0 i0 o0) (2 ^ s_n σ - 1) (i + 1)))), (0, .ref (ad 0)), (1, .int (nI (f0))), (2, .int (nI (i0))), (3, .int (nI (o0))), (4, .int (nI (w0)))] := by rw [← (show (nI (cntN (abP σ f0 i0 o0) i)) = (nI (cntN (abP σ f0 i0 o0) (i + 1))) from congrArg nI (by first | exact cntN_t (abP_t (by omega) c76 c83 c105) | exact cntN_f (abP_f1 (by omega) c76) | exact cntN_f (abP_f2 c83) | exact cntN_f (abP_f3 c105))), ← (show (nI (orN (abP σ f0 i0 o0) i)) = (nI (orN (abP σ f0 i0 o0) (i + 1))) from congrArg nI (by first | exact or_t (abP_t (by omega) c76 c83 c105) | exact or_f (abP_f1 (by omega) c76) | exact or_f (abP_f2 c83) | exact or_f (abP_f3 c105))), ← (show (nI (andN (abP σ f0 i0 o0) (2 ^ s_n σ - 1) i)) = (nI (andN (abP σ f0 i0 o0) (2 ^ s_n σ - 1) (i + 1))) from congrArg nI (by first | exact an_t (abP_t (by omega) c76 c83 c105) | exact an_f (abP_f1 (by omega) c76) | exact an_f (abP_f2 c83) | exact an_f (abP_f3 c105)))]; exact lv_sub hl [0, 1, 2, 3, 4, 5, 6, 7, 8] rfl
                  exact ih_lp (i + 1) ls (by omega)  hl
                · refine lv_iload_n hx hb dX11_aboard_79 rfl (lv_at hl 7 rfl) ?_
                  refine lv_iload hx hb dX11_aboard_80 (lv_at hl 0 rfl) ?_
                  refine ln_iand hx hb dX11_aboard_82 ?_
                  refine ln_if_ne (tgt := 125) hx hb dX11_aboard_83 (by decide) (and_lt (by omega)) (fun c83 => ?_) (fun c83 => ?_)
                  · refine ln_iinc (lv' := [(8, .int (nI (i + 1))), (5, .int (nI (cntN (abP σ f0 i0 o0) i))), (6, .int (nI (orN (abP σ f0 i0 o0) i))), (7, .int (nI (andN (abP σ f0 i0 o0) (2 ^ s_n σ - 1) i))), (0, .ref (ad 0)), (1, .int (nI (f0))), (2, .int (nI (i0))), (3, .int (nI (o0))), (4, .int (nI (w0)))]) hx hb dX11_aboard_125 hl (k := 0) (n := 1) rfl (by decide) rfl (fun ls hl => ?_)
                    refine lv_goto (tgt := 59) hx hb dX11_aboard_128 (by decide) ?_
                    have hl : lv_has ls 9 [(8, .int (nI (i + 1))), (5, .int (nI (cntN (abP σ f0 i0 o0) (i + 1)))), (6, .int (nI (orN (abP σ f0 i0 o0) (i + 1)))), (7, .int (nI (andN (abP σ f0 i0 o0) (2 ^ s_n σ - 1) (i + 1)))), (0, .ref (ad 0)), (1, .int (nI (f0))), (2, .int (nI (i0))), (3, .int (nI (o0))), (4, .int (nI (w0)))] := by rw [← (show (nI (cntN (abP σ f0 i0 o0) i)) = (nI (cntN (abP σ f0 i0 o0) (i + 1))) from congrArg nI (by first | exact cntN_t (abP_t (by omega) c76 c83 c105) | exact cntN_f (abP_f1 (by omega) c76) | exact cntN_f (abP_f2 c83) | exact cntN_f (abP_f3 c105))), ← (show (nI (orN (abP σ f0 i0 o0) i)) = (nI (orN (abP σ f0 i0 o0) (i + 1))) from congrArg nI (by first | exact or_t (abP_t (by omega) c76 c83 c105) | exact or_f (abP_f1 (by omega) c76) | exact or_f (abP_f2 c83) | exact or_f (abP_f3 c105))), ← (show (nI (andN (abP σ f0 i0 o0) (2 ^ s_n σ - 1) i)) = (nI (andN (abP σ f0 i0 o0) (2 ^ s_n σ - 1) (i + 1))) from congrArg nI (by first | exact an_t (abP_t (by omega) c76 c83 c105) | exact an_f (abP_f1 (by omega) c76) | exact an_f (abP_f2 c83) | exact an_f (abP_f3 c105)))]; exact lv_sub hl [0, 1, 2, 3, 4, 5, 6, 7, 8] rfl
                    exact ih_lp (i + 1) ls (by omega)  hl
                  · refine lv_aload_n hx hb dX11_aboard_86 rfl (lv_at hl 4 rfl) ?_
                    refine lv_iload_n hx hb dX11_aboard_87 rfl (lv_at hl 5 rfl) ?_
                    refine lv_iload hx hb dX11_aboard_88 (lv_at hl 0 rfl) ?_
                    refine lv_aload_n hx hb dX11_aboard_90 rfl (lv_at hl 4 rfl) ?_
                    refine va_get (D := D) (ci := 10) (v := .int (nI (s_ov σ))) (C := RX11) (T := TX11) (N := 31) hx hb hts ni11 hown hK hP 0 (mw_c0 cy ad σ T) rfl 17 (by decide) (hts _ flX11_155) (fun _ h => h) rfl dX11_aboard_91 ?_
                    refine lv_aload_n hx hb dX11_aboard_94 rfl (lv_at hl 4 rfl) ?_
                    refine va_get (D := D) (ci := 10) (v := .int (nI (s_mo σ))) (C := RX11) (T := TX11) (N := 31) hx hb hts ni11 hown hK hP 0 (mw_c0 cy ad σ T) rfl 18 (by decide) (hts _ flX11_158) (fun _ h => h) rfl dX11_aboard_95 ?_
                    refine lv_aload_n hx hb dX11_aboard_98 rfl (lv_at hl 4 rfl) ?_
                    refine va_get (D := D) (ci := 10) (v := .int (nI (s_of σ))) (C := RX11) (T := TX11) (N := 31) hx hb hts ni11 hown hK hP 0 (mw_c0 cy ad σ T) rfl 19 (by decide) (hts _ flX11_161) (fun _ h => h) rfl dX11_aboard_99 ?_
                    refine cr_v (n := 5) (As := [.int (nI (f0)), .int (nI (i)), .int (nI (s_ov σ)), .int (nI (s_mo σ)), .int (nI (s_of σ))]) (rest := []) ⟨hx, hb, hml, hown, hts⟩ (k_X11_isRight l D cy ad σ T f0 i (s_ov σ) (s_mo σ) (s_of σ) hw (by omega) (by omega) (by omega) (by omega) (by omega)) gvX11_207 (by decide +kernel) ⟨Nat.le_of_ble_eq_true rfl, Nat.le_of_ble_eq_true rfl⟩ hK hN hP 0 (mw_c0 cy ad σ T) rfl rfl hl.1 rfl (Nat.le_of_ble_eq_true rfl) dX11_aboard_102 ⟨Nat.zero_le _, Nat.zero_le _⟩ ?_
                    refine lb_if_eq (tgt := 125) hx hb dX11_aboard_105 (by decide) (fun c105 => ?_) (fun c105 => ?_)
                    · refine ln_iinc (lv' := [(8, .int (nI (i + 1))), (5, .int (nI (cntN (abP σ f0 i0 o0) i))), (6, .int (nI (orN (abP σ f0 i0 o0) i))), (7, .int (nI (andN (abP σ f0 i0 o0) (2 ^ s_n σ - 1) i))), (0, .ref (ad 0)), (1, .int (nI (f0))), (2, .int (nI (i0))), (3, .int (nI (o0))), (4, .int (nI (w0)))]) hx hb dX11_aboard_125 hl (k := 0) (n := 1) rfl (by decide) rfl (fun ls hl => ?_)
                      refine lv_goto (tgt := 59) hx hb dX11_aboard_128 (by decide) ?_
                      have hl : lv_has ls 9 [(8, .int (nI (i + 1))), (5, .int (nI (cntN (abP σ f0 i0 o0) (i + 1)))), (6, .int (nI (orN (abP σ f0 i0 o0) (i + 1)))), (7, .int (nI (andN (abP σ f0 i0 o0) (2 ^ s_n σ - 1) (i + 1)))), (0, .ref (ad 0)), (1, .int (nI (f0))), (2, .int (nI (i0))), (3, .int (nI (o0))), (4, .int (nI (w0)))] := by rw [← (show (nI (cntN (abP σ f0 i0 o0) i)) = (nI (cntN (abP σ f0 i0 o0) (i + 1))) from congrArg nI (by first | exact cntN_t (abP_t (by omega) c76 c83 c105) | exact cntN_f (abP_f1 (by omega) c76) | exact cntN_f (abP_f2 c83) | exact cntN_f (abP_f3 c105))), ← (show (nI (orN (abP σ f0 i0 o0) i)) = (nI (orN (abP σ f0 i0 o0) (i + 1))) from congrArg nI (by first | exact or_t (abP_t (by omega) c76 c83 c105) | exact or_f (abP_f1 (by omega) c76) | exact or_f (abP_f2 c83) | exact or_f (abP_f3 c105))), ← (show (nI (andN (abP σ f0 i0 o0) (2 ^ s_n σ - 1) i)) = (nI (andN (abP σ f0 i0 o0) (2 ^ s_n σ - 1) (i + 1))) from congrArg nI (by first | exact an_t (abP_t (by omega) c76 c83 c105) | exact an_f (abP_f1 (by omega) c76) | exact an_f (abP_f2 c83) | exact an_f (abP_f3 c105)))]; exact lv_sub hl [0, 1, 2, 3, 4, 5, 6, 7, 8] rfl
                      exact ih_lp (i + 1) ls (by omega)  hl
                    · refine ln_iinc (lv' := [(5, .int (nI ((cntN (abP σ f0 i0 o0) i) + 1))), (8, .int (nI (i))), (6, .int (nI (orN (abP σ f0 i0 o0) i))), (7, .int (nI (andN (abP σ f0 i0 o0) (2 ^ s_n σ - 1) i))), (0, .ref (ad 0)), (1, .int (nI (f0))), (2, .int (nI (i0))), (3, .int (nI (o0))), (4, .int (nI (w0)))]) hx hb dX11_aboard_108 hl (k := 1) (n := 1) rfl (by decide) rfl (fun ls hl => ?_)
                      refine lv_iload hx hb dX11_aboard_111 (lv_at hl 2 rfl) ?_
                      refine lv_iload hx hb dX11_aboard_113 (lv_at hl 1 rfl) ?_
                      refine ln_ior hx hb dX11_aboard_115 ?_
                      refine lv_istore (lv' := [(6, .int (nI ((orN (abP σ f0 i0 o0) i) ||| i))), (5, .int (nI ((cntN (abP σ f0 i0 o0) i) + 1))), (8, .int (nI (i))), (7, .int (nI (andN (abP σ f0 i0 o0) (2 ^ s_n σ - 1) i))), (0, .ref (ad 0)), (1, .int (nI (f0))), (2, .int (nI (i0))), (3, .int (nI (o0))), (4, .int (nI (w0)))]) hx hb dX11_aboard_116 hl (by decide) rfl (fun ls hl => ?_)
                      refine lv_iload hx hb dX11_aboard_118 (lv_at hl 3 rfl) ?_
                      refine lv_iload hx hb dX11_aboard_120 (lv_at hl 2 rfl) ?_
                      refine ln_iand hx hb dX11_aboard_122 ?_
                      refine lv_istore (lv' := [(7, .int (nI ((andN (abP σ f0 i0 o0) (2 ^ s_n σ - 1) i) &&& i))), (6, .int (nI ((orN (abP σ f0 i0 o0) i) ||| i))), (5, .int (nI ((cntN (abP σ f0 i0 o0) i) + 1))), (8, .int (nI (i))), (0, .ref (ad 0)), (1, .int (nI (f0))), (2, .int (nI (i0))), (3, .int (nI (o0))), (4, .int (nI (w0)))]) hx hb dX11_aboard_123 hl (by decide) rfl (fun ls hl => ?_)
                      refine ln_iinc (lv' := [(8, .int (nI (i + 1))), (7, .int (nI ((andN (abP σ f0 i0 o0) (2 ^ s_n σ - 1) i) &&& i))), (6, .int (nI ((orN (abP σ f0 i0 o0) i) ||| i))), (5, .int (nI ((cntN (abP σ f0 i0 o0) i) + 1))), (0, .ref (ad 0)), (1, .int (nI (f0))), (2, .int (nI (i0))), (3, .int (nI (o0))), (4, .int (nI (w0)))]) hx hb dX11_aboard_125 hl (k := 3) (n := 1) rfl (by decide) rfl (fun ls hl => ?_)
                      refine lv_goto (tgt := 59) hx hb dX11_aboard_128 (by decide) ?_
                      have hl : lv_has ls 9 [(8, .int (nI (i + 1))), (5, .int (nI (cntN (abP σ f0 i0 o0) (i + 1)))), (6, .int (nI (orN (abP σ f0 i0 o0) (i + 1)))), (7, .int (nI (andN (abP σ f0 i0 o0) (2 ^ s_n σ - 1) (i + 1)))), (0, .ref (ad 0)), (1, .int (nI (f0))), (2, .int (nI (i0))), (3, .int (nI (o0))), (4, .int (nI (w0)))] := by rw [← (show (nI ((cntN (abP σ f0 i0 o0) i) + 1)) = (nI (cntN (abP σ f0 i0 o0) (i + 1))) from congrArg nI (by first | exact cntN_t (abP_t (by omega) c76 c83 c105) | exact cntN_f (abP_f1 (by omega) c76) | exact cntN_f (abP_f2 c83) | exact cntN_f (abP_f3 c105))), ← (show (nI ((orN (abP σ f0 i0 o0) i) ||| i)) = (nI (orN (abP σ f0 i0 o0) (i + 1))) from congrArg nI (by first | exact or_t (abP_t (by omega) c76 c83 c105) | exact or_f (abP_f1 (by omega) c76) | exact or_f (abP_f2 c83) | exact or_f (abP_f3 c105))), ← (show (nI ((andN (abP σ f0 i0 o0) (2 ^ s_n σ - 1) i) &&& i)) = (nI (andN (abP σ f0 i0 o0) (2 ^ s_n σ - 1) (i + 1))) from congrArg nI (by first | exact an_t (abP_t (by omega) c76 c83 c105) | exact an_f (abP_f1 (by omega) c76) | exact an_f (abP_f2 c83) | exact an_f (abP_f3 c105)))]; exact lv_sub hl [0, 3, 2, 1, 4, 5, 6, 7, 8] rfl
                      exact ih_lp (i + 1) ls (by omega)  hl
          have hl : lv_has ls 9 [(8, .int (nI (0))), (5, .int (nI (cntN (abP σ f0 i0 o0) 0))), (6, .int (nI (orN (abP σ f0 i0 o0) 0))), (7, .int (nI (andN (abP σ f0 i0 o0) (2 ^ s_n σ - 1) 0))), (0, .ref (ad 0)), (1, .int (nI (f0))), (2, .int (nI (i0))), (3, .int (nI (o0))), (4, .int (nI (w0)))] := lv_sub hl [0, 3, 2, 1, 4, 5, 6, 7, 8] rfl
          exact lp (2 ^ s_n σ - 0) 0 ls (by omega)  hl
        · refine lv_bipush (v := -3) hx hb dX11_aboard_37 (by decide) ?_
          exact rt_i hx hb hr hlocks (by rw [a_aboard, c5, c13, c21, ix3 c34]; rfl) dX11_aboard_39
      · refine lv_bipush (v := -2) hx hb dX11_aboard_24 (by decide) ?_
        exact rt_i hx hb hr hlocks (by first | (rw [a_aboard, c5]; rfl; done) | (rw [a_aboard, c5, c13]; rfl; done) | (rw [a_aboard, c5, c13, c21]; rfl)) dX11_aboard_26
