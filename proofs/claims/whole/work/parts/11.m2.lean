theorem bits_step (x i : Nat) : sumN (fun k => (x.testBit k).toNat) i + (x / 2 ^ i &&& 1) = sumN (fun k => (x.testBit k).toNat) (i + 1) := by rw [bit_and]; rfl
theorem sum_t {f g : Nat → Nat} {p : Nat → Bool} {i a : Nat} (c : p i = true) (h : g i = a) : sumN (fun t => if p t then g t else 0) i + a = sumN (fun t => if p t then g t else 0) (i + 1) := by rw [sumN, if_pos c, h]
theorem sum_f {g : Nat → Nat} {p : Nat → Bool} {i : Nat} (c : p i = false) : sumN (fun t => if p t then g t else 0) i + 0 = sumN (fun t => if p t then g t else 0) (i + 1) := by rw [sumN, c]; rfl
theorem sumb {n i : Nat} {f : Nat → Nat} (h : ∀ k, k < 8 → f k ≤ 108) (hi : i ≤ n) (hn : n ≤ 8) : sumN f i ≤ 864 := by
  have h1 : sumN f i ≤ i * 108 := sumN_le (fun k hk => h k (by omega))
  omega
theorem xorm1 (x : Nat) (h : x < 2 ^ 31) : nI x ^^^ (-1) = nI (x ^^^ (2 ^ 32 - 1)) := nI_xor x (2 ^ 32 - 1)
theorem and_not_0 {a b : Nat} (ha : a < 2 ^ 31) : (a &&& (b ^^^ (2 ^ 32 - 1)) = 0) ↔ (a &&& b = a) := by
  constructor
  · intro h
    apply Nat.eq_of_testBit_eq
    intro i
    have h1 : (a &&& (b ^^^ (2 ^ 32 - 1))).testBit i = false := by rw [h]; exact Nat.zero_testBit i
    rw [Nat.testBit_and, Nat.testBit_xor, Nat.testBit_two_pow_sub_one] at h1
    rw [Nat.testBit_and]
    by_cases hi : i < 32
    · rw [decide_eq_true hi] at h1
      cases ha2 : a.testBit i <;> cases hb2 : b.testBit i <;> simp_all
    · have : a.testBit i = false := Nat.testBit_lt_two_pow (Nat.lt_of_lt_of_le ha (Nat.pow_le_pow_right (by decide) (by omega)))
      rw [this]; rfl
  · intro h
    apply Nat.eq_of_testBit_eq
    intro i
    have h1 : (a &&& b).testBit i = a.testBit i := by rw [h]
    rw [Nat.testBit_and] at h1
    rw [Nat.zero_testBit, Nat.testBit_and, Nat.testBit_xor, Nat.testBit_two_pow_sub_one]
    by_cases hi : i < 32
    · rw [decide_eq_true hi]
      cases ha2 : a.testBit i <;> cases hb2 : b.testBit i <;> simp_all
    · have : a.testBit i = false := Nat.testBit_lt_two_pow (Nat.lt_of_lt_of_le ha (Nat.pow_le_pow_right (by decide) (by omega)))
      rw [this]; rfl
theorem and_lt {a b n : Nat} (h : a < n) : a &&& b < n := Nat.lt_of_le_of_lt Nat.and_le_left h
set_option maxHeartbeats 4000000 in
set_option maxRecDepth 100000 in
theorem k_X11_bits (l : Launch)  (x : Nat) (h1 : x < 2 ^ 31) : MS l yX11_bits qX11_bits 0 [.int (nI (x))] (nI (bits x)) := by
  refine Met.ofW (cc := cX11_bits) (maxL := 3) (ret := (some .int)) (by decide) rfl ?_
  intro p e s m args below meth c s₁ B hml hv
  obtain ⟨rfl, -⟩ := hv
  have hx := B.exec
  have hb := B.bytes
  have hr := B.returns
  have hlocks := B.notSynchronized
  have hts : ∀ cq ∈ tg, cq.before ([.int (nI (x))] : List Value).toArray s = true := fun cq h => atoms_spec (ws := qX11_bits) B.pre cq (List.mem_cons_of_mem _ h)
  have hown : s.vm.findClass RX11 = some m.cls := findClass_of_methodNamed B.named
  have hl := lv_entry ([.int (nI (x))]) (n := 3) (Nat.le_of_ble_eq_true rfl)
  rw [lg_entry_eq]
  generalize (lg_sl ([.int (nI (x))]) ++ List.replicate (3 - (lg_sl ([.int (nI (x))])).length) Slot.unset).toArray = ls at hl ⊢
  have hl : lv_has ls 3 [(0, .int (nI (x)))] := hl
  refine lv_iconst (v := nI 0) hx hb dX11_bits_0 (by decide) ?_
  refine lv_istore_n (lv' := [(1, .int (nI (0))), (0, .int (nI (x)))]) hx hb dX11_bits_1 rfl hl (by decide) rfl (fun ls hl => ?_)
  refine lv_iconst (v := nI 0) hx hb dX11_bits_2 (by decide) ?_
  refine lv_istore_n (lv' := [(2, .int (nI (0))), (1, .int (nI (0))), (0, .int (nI (x)))]) hx hb dX11_bits_3 rfl hl (by decide) rfl (fun ls hl => ?_)
  have loop : ∀ (k i : Nat) (ls : Array Slot), i + k = 8 →  lv_has ls 3 [(2, .int (nI (i))), (1, .int (nI (sumN (fun k => (x.testBit k).toNat) i))), (0, .int (nI (x)))] → W p l e (headSpec qX11_bits (rq 0)).room s m ([.int (nI (x))] : List Value).toArray below meth c s.heap [] 0 0 (MQ below (vp_Si (fun r => r = nI (bits x))) ([.int (nI (x))] : List Value).toArray s 0 0 (fun _ => False)) (F0 m 4 ls []) := by
    intro k
    induction k with
    | zero =>
      intro i ls hi hl
      refine lv_iload_n hx hb dX11_bits_4 rfl (lv_at hl 0 rfl) ?_
      refine lv_bipush (v := nI 8) hx hb dX11_bits_5 (by decide) ?_
      refine ln_icmp_ge (tgt := 24) hx hb dX11_bits_7 (by decide) (by omega) (by omega) (fun c7 => ?_) (fun c7 => ?_)
      · refine lv_iload_n hx hb dX11_bits_24 rfl (lv_at hl 1 rfl) ?_
        exact rt_i hx hb hr hlocks (by rw [show i = 8 by omega]; rfl) dX11_bits_25
      · exact absurd c7 (by omega)
    | succ k ih =>
      intro i ls hi hl
      refine lv_iload_n hx hb dX11_bits_4 rfl (lv_at hl 0 rfl) ?_
      refine lv_bipush (v := nI 8) hx hb dX11_bits_5 (by decide) ?_
      refine ln_icmp_ge (tgt := 24) hx hb dX11_bits_7 (by decide) (by omega) (by omega) (fun c7 => ?_) (fun c7 => ?_)
      · exact absurd c7 (by omega)
      · refine lv_iload_n hx hb dX11_bits_10 rfl (lv_at hl 1 rfl) ?_
        refine lv_iload_n hx hb dX11_bits_11 rfl (lv_at hl 2 rfl) ?_
        refine lv_iload_n hx hb dX11_bits_12 rfl (lv_at hl 0 rfl) ?_
        refine ln_ishr hx hb dX11_bits_13 (by omega) (by omega) ?_
        refine lv_iconst (v := nI 1) hx hb dX11_bits_14 (by decide) ?_
        refine ln_iand hx hb dX11_bits_15 ?_
        refine ln_iadd hx hb dX11_bits_16 ?_
        refine ln_nat (show (sumN (fun k => (x.testBit k).toNat) i) + ((x / 2 ^ i) &&& 1) = sumN (fun k => (x.testBit k).toNat) (i + 1) from bits_step x i) ?_
        refine lv_istore_n (lv' := [(1, .int (nI (sumN (fun k => (x.testBit k).toNat) (i + 1)))), (2, .int (nI (i))), (0, .int (nI (x)))]) hx hb dX11_bits_17 rfl hl (by decide) rfl (fun ls hl => ?_)
        refine ln_iinc (lv' := [(2, .int (nI (i + 1))), (1, .int (nI (sumN (fun k => (x.testBit k).toNat) (i + 1)))), (0, .int (nI (x)))]) hx hb dX11_bits_18 hl (k := 1) (n := 1) rfl (by decide) rfl (fun ls hl => ?_)
        refine lv_goto (tgt := 4) hx hb dX11_bits_21 (by decide) ?_
        exact ih (i + 1) ls (by omega)  (lv_sub hl [0, 1, 2] rfl)
  exact loop (8 - 0) 0 ls (by omega)  (lv_sub hl [0, 1, 2] rfl)
set_option maxHeartbeats 4000000 in
set_option maxRecDepth 100000 in
theorem k_X11_poundsOfAll (l : Launch) (D : va_G) (cy : Nat → ClassId) (ad : Nat → Nat) (σ : Sg) (T : Ms) (x h : Nat) (hw : wfS σ) (h1 : x < 2 ^ 31) (h2 : h < 2 ^ 31) : MR l yX11_poundsOfAll qX11_poundsOfAll 2 [.ref (ad 0), .int (nI (x)), .int (nI (h))] D cy (mw cy ad σ T) (nI (pdA σ x h)) := by
  refine Met.ofW (cc := cX11_poundsOfAll) (maxL := 5) (ret := (some .int)) (by decide) rfl ?_
  intro p e s m args below meth c s₁ B hml hv
  obtain ⟨rfl, hP, hK, hN⟩ := hv
  have hx := B.exec
  have hb := B.bytes
  have hr := B.returns
  have hlocks := B.notSynchronized
  have hts : ∀ cq ∈ tg, cq.before ([.ref (ad 0), .int (nI (x)), .int (nI (h))] : List Value).toArray s = true := fun cq h => atoms_spec (ws := qX11_poundsOfAll) B.pre cq (List.mem_cons_of_mem _ h)
  have hown : s.vm.findClass RX11 = some m.cls := findClass_of_methodNamed B.named
  have hl := lv_entry ([.ref (ad 0), .int (nI (x)), .int (nI (h))]) (n := 5) (Nat.le_of_ble_eq_true rfl)
  rw [lg_entry_eq]
  generalize (lg_sl ([.ref (ad 0), .int (nI (x)), .int (nI (h))]) ++ List.replicate (5 - (lg_sl ([.ref (ad 0), .int (nI (x)), .int (nI (h))])).length) Slot.unset).toArray = ls at hl ⊢
  have hl : lv_has ls 5 [(0, .ref (ad 0)), (1, .int (nI (x))), (2, .int (nI (h)))] := hl
  have hw1 := hw.1
  refine lv_iconst (v := nI 0) hx hb dX11_poundsOfAll_0 (by decide) ?_
  refine lv_istore_n (lv' := [(3, .int (nI (0))), (0, .ref (ad 0)), (1, .int (nI (x))), (2, .int (nI (h)))]) hx hb dX11_poundsOfAll_1 rfl hl (by decide) rfl (fun ls hl => ?_)
  refine lv_iconst (v := nI 0) hx hb dX11_poundsOfAll_2 (by decide) ?_
  refine lv_istore (lv' := [(4, .int (nI (0))), (3, .int (nI (0))), (0, .ref (ad 0)), (1, .int (nI (x))), (2, .int (nI (h)))]) hx hb dX11_poundsOfAll_3 hl (by decide) rfl (fun ls hl => ?_)
  have loop : ∀ (k i : Nat) (ls : Array Slot), i + k = s_n σ →  lv_has ls 5 [(4, .int (nI (i))), (3, .int (nI (sumN (fun t => if x.testBit t then pd σ h t else 0) i))), (0, .ref (ad 0)), (1, .int (nI (x))), (2, .int (nI (h)))] → W p l e (headSpec qX11_poundsOfAll (rq 2)).room s m ([.ref (ad 0), .int (nI (x)), .int (nI (h))] : List Value).toArray below meth c s.heap [] 0 0 (MQ below (vp_Si (fun r => r = nI (pdA σ x h))) ([.ref (ad 0), .int (nI (x)), .int (nI (h))] : List Value).toArray s 0 0 (fun _ => False)) (F0 m 5 ls []) := by
    intro k
    induction k with
    | zero =>
      intro i ls hi hl
      refine lv_iload hx hb dX11_poundsOfAll_5 (lv_at hl 0 rfl) ?_
      refine lv_aload_n hx hb dX11_poundsOfAll_7 rfl (lv_at hl 2 rfl) ?_
      refine va_get (D := D) (ci := 10) (v := .int (nI (s_n σ))) (C := RX11) (T := TX11) (N := 31) hx hb hts ni11 hown hK hP 0 (mw_c0 cy ad σ T) rfl 0 (by decide) (hts _ flX11_47) (fun _ h => h) rfl dX11_poundsOfAll_8 ?_
      refine ln_icmp_ge (tgt := 43) hx hb dX11_poundsOfAll_11 (by decide) (by omega) (by omega) (fun c11 => ?_) (fun c11 => ?_)
      · refine lv_iload_n hx hb dX11_poundsOfAll_43 rfl (lv_at hl 1 rfl) ?_
        exact rt_i hx hb hr hlocks (by rw [show i = s_n σ by omega]; rfl) dX11_poundsOfAll_44
      · exact absurd c11 (by omega)
    | succ k ih =>
      intro i ls hi hl
      refine lv_iload hx hb dX11_poundsOfAll_5 (lv_at hl 0 rfl) ?_
      refine lv_aload_n hx hb dX11_poundsOfAll_7 rfl (lv_at hl 2 rfl) ?_
      refine va_get (D := D) (ci := 10) (v := .int (nI (s_n σ))) (C := RX11) (T := TX11) (N := 31) hx hb hts ni11 hown hK hP 0 (mw_c0 cy ad σ T) rfl 0 (by decide) (hts _ flX11_47) (fun _ h => h) rfl dX11_poundsOfAll_8 ?_
      refine ln_icmp_ge (tgt := 43) hx hb dX11_poundsOfAll_11 (by decide) (by omega) (by omega) (fun c11 => ?_) (fun c11 => ?_)
      · exact absurd c11 (by omega)
      · refine lv_iload_n hx hb dX11_poundsOfAll_14 rfl (lv_at hl 1 rfl) ?_
        refine lv_iload_n hx hb dX11_poundsOfAll_15 rfl (lv_at hl 3 rfl) ?_
        refine lv_iload hx hb dX11_poundsOfAll_16 (lv_at hl 0 rfl) ?_
        refine cr_s (n := 2) (As := [.int (nI (x)), .int (nI (i))]) (rest := [.int (nI (sumN (fun t => if x.testBit t then pd σ h t else 0) i))]) ⟨hx, hb, hml, hown, hts⟩ (k_X11_has l x i (by omega) (by omega)) gsX11_173 (by decide +kernel) ⟨Nat.le_of_ble_eq_true rfl, Nat.le_of_ble_eq_true rfl⟩ rfl hl.1 rfl (Nat.le_of_ble_eq_true rfl) dX11_poundsOfAll_18 ⟨Nat.zero_le _, Nat.zero_le _⟩ ?_
        refine lb_if_eq (tgt := 34) hx hb dX11_poundsOfAll_21 (by decide) (fun c21 => ?_) (fun c21 => ?_)
        · refine lv_iconst (v := nI 0) hx hb dX11_poundsOfAll_34 (by decide) ?_
          refine ln_iadd hx hb dX11_poundsOfAll_35 ?_
          refine ln_nat (show (sumN (fun t => if x.testBit t then pd σ h t else 0) i) + 0 = sumN (fun t => if x.testBit t then pd σ h t else 0) (i + 1) from by first | exact sum_t (f := fun _ => 0) c21 rfl | exact sum_f c21) ?_
          refine lv_istore_n (lv' := [(3, .int (nI (sumN (fun t => if x.testBit t then pd σ h t else 0) (i + 1)))), (4, .int (nI (i))), (0, .ref (ad 0)), (1, .int (nI (x))), (2, .int (nI (h)))]) hx hb dX11_poundsOfAll_36 rfl hl (by decide) rfl (fun ls hl => ?_)
          refine ln_iinc (lv' := [(4, .int (nI (i + 1))), (3, .int (nI (sumN (fun t => if x.testBit t then pd σ h t else 0) (i + 1)))), (0, .ref (ad 0)), (1, .int (nI (x))), (2, .int (nI (h)))]) hx hb dX11_poundsOfAll_37 hl (k := 1) (n := 1) rfl (by decide) rfl (fun ls hl => ?_)
          refine lv_goto (tgt := 5) hx hb dX11_poundsOfAll_40 (by decide) ?_
          exact ih (i + 1) ls (by omega)  (lv_sub hl [0, 1, 2, 3, 4] rfl)
        · refine lv_aload_n hx hb dX11_poundsOfAll_24 rfl (lv_at hl 2 rfl) ?_
          refine lv_iload hx hb dX11_poundsOfAll_25 (lv_at hl 0 rfl) ?_
          refine lv_iload_n hx hb dX11_poundsOfAll_27 rfl (lv_at hl 4 rfl) ?_
          refine cr_v (n := 2) (As := [.int (nI (i)), .int (nI (h))]) (rest := [.int (nI (sumN (fun t => if x.testBit t then pd σ h t else 0) i))]) ⟨hx, hb, hml, hown, hts⟩ (k_X11_poundsOf l D cy ad σ T i h (by omega) (by omega)) gvX11_180 (by decide +kernel) ⟨Nat.le_of_ble_eq_true rfl, Nat.le_of_ble_eq_true rfl⟩ hK hN hP 0 (mw_c0 cy ad σ T) rfl rfl hl.1 rfl (Nat.le_of_ble_eq_true rfl) dX11_poundsOfAll_28 ⟨Nat.zero_le _, Nat.zero_le _⟩ ?_
          refine lv_goto (tgt := 35) hx hb dX11_poundsOfAll_31 (by decide) ?_
          refine ln_iadd hx hb dX11_poundsOfAll_35 ?_
          refine ln_nat (show (sumN (fun t => if x.testBit t then pd σ h t else 0) i) + (pd σ h i) = sumN (fun t => if x.testBit t then pd σ h t else 0) (i + 1) from by first | exact sum_t (f := fun _ => 0) c21 rfl | exact sum_f c21) ?_
          refine lv_istore_n (lv' := [(3, .int (nI (sumN (fun t => if x.testBit t then pd σ h t else 0) (i + 1)))), (4, .int (nI (i))), (0, .ref (ad 0)), (1, .int (nI (x))), (2, .int (nI (h)))]) hx hb dX11_poundsOfAll_36 rfl hl (by decide) rfl (fun ls hl => ?_)
          refine ln_iinc (lv' := [(4, .int (nI (i + 1))), (3, .int (nI (sumN (fun t => if x.testBit t then pd σ h t else 0) (i + 1)))), (0, .ref (ad 0)), (1, .int (nI (x))), (2, .int (nI (h)))]) hx hb dX11_poundsOfAll_37 hl (k := 1) (n := 1) rfl (by decide) rfl (fun ls hl => ?_)
          refine lv_goto (tgt := 5) hx hb dX11_poundsOfAll_40 (by decide) ?_
          exact ih (i + 1) ls (by omega)  (lv_sub hl [0, 1, 2, 3, 4] rfl)
  exact loop (s_n σ - 0) 0 ls (by omega)  (lv_sub hl [0, 1, 2, 3, 4] rfl)
theorem any_t1 {p : Nat → Bool} {i : Nat} (h : anyN p i = true) : nI 1 = bI (anyN p (i + 1)) := by rw [anyN, h]; rfl
theorem any_t2 {p : Nat → Bool} {i : Nat} (h : p i = true) : nI 1 = bI (anyN p (i + 1)) := by rw [anyN, h, Bool.or_true]; rfl
theorem any_f {p : Nat → Bool} {i : Nat} (h : anyN p i = false) (h2 : p i = false) : nI 0 = bI (anyN p (i + 1)) := by rw [anyN, h, h2]; rfl
theorem board_f0 {σ : Sg} {f x th bo i : Nat} (hi : i = s_n σ) (h : anyN (fun t => x.testBit t && decide (s_th σ (6 * t) = 0)) i = false) : false = board σ f x th bo := by
  subst hi
  have h2 : hasP σ x = false := h
  rw [board, h2]; rfl
theorem board_1 {σ : Sg} {f x th bo i : Nat} (hi : i = s_n σ) (h : anyN (fun t => x.testBit t && decide (s_th σ (6 * t) = 0)) i = true) (c : bo.testBit f = true) (h1 : x < 2 ^ 31) (h3 : x &&& (th ^^^ (2 ^ 32 - 1)) = 0) : true = board σ f x th bo := by
  subst hi
  have h2 : hasP σ x = true := h
  rw [board, h2, onB, c, (and_not_0 h1).mp h3]; simp
theorem board_2 {σ : Sg} {f x th bo : Nat} (c : bo.testBit f = true) (h1 : x < 2 ^ 31) (h3 : 0 < x &&& (th ^^^ (2 ^ 32 - 1))) : false = board σ f x th bo := by
  have h4 : ¬ x &&& th = x := fun q => by rw [(and_not_0 h1).mpr q] at h3; exact absurd h3 (by decide)
  rw [board, onB, c]; simp [h4]
theorem board_3 {σ : Sg} {f x th bo i : Nat} (hi : i = s_n σ) (h : anyN (fun t => x.testBit t && decide (s_th σ (6 * t) = 0)) i = true) (c : bo.testBit f = false) (h3 : x &&& th = 0) : true = board σ f x th bo := by
  subst hi
  have h2 : hasP σ x = true := h
  rw [board, h2, onB, c, h3]; simp
theorem board_4 {σ : Sg} {f x th bo : Nat} (c : bo.testBit f = false) (h3 : 0 < x &&& th) : false = board σ f x th bo := by
  have h4 : ¬ x &&& th = 0 := by omega
  rw [board, onB, c]; simp [h4]
theorem sub_toInt {a b : Nat} (ha : a < 2 ^ 30) (hb : b < 2 ^ 30) : (nI a - nI b).toInt = (a : Int) - b := pk_sub_toInt ha hb
theorem abs_p {a b : Nat} (ha : a < 2 ^ 30) (hb : b < 2 ^ 30) (h : 0 ≤ nI a - nI b) : nI a - nI b = nI (adif a b) := by
  rw [Int32.le_iff_toInt_le, sub_toInt ha hb] at h
  have h0 : (0 : Int32).toInt = 0 := rfl
  rw [h0] at h
  rw [pk_sub (by omega), adif, if_neg (by omega)]
theorem abs_n {a b : Nat} (ha : a < 2 ^ 30) (hb : b < 2 ^ 30) (h : ¬ 0 ≤ nI a - nI b) : -(nI a - nI b) = nI (adif a b) := by
  rw [Int32.le_iff_toInt_le, sub_toInt ha hb] at h
  have h0 : (0 : Int32).toInt = 0 := rfl
  rw [h0] at h
  rw [Int32.neg_sub, pk_sub (by omega), adif, if_pos (by omega)]
theorem adif_lt {a b c : Nat} (ha : a < c) (hb : b < c) : adif a b < c := by unfold adif; split <;> omega
theorem rev3_lt {x : Nat} (h : x ≤ 999) : rev3 x ≤ 999 := by unfold rev3; split; omega; split <;> omega
theorem numN_lt {σ : Sg} (hw : wfS σ) {f : Nat} (hf : f < 3) : numN σ f ≤ 999 := by
  have h := hw.2.2.2.1 f hf
  unfold numN
  split
  · omega
  · exact rev3_lt h.2.1
set_option maxHeartbeats 4000000 in
set_option maxRecDepth 100000 in
theorem k_X11_numberOf (l : Launch) (D : va_G) (cy : Nat → ClassId) (ad : Nat → Nat) (σ : Sg) (T : Ms) (f : Nat) (hw : wfS σ) (hf : f < 3) : MR l yX11_numberOf qX11_numberOf 0 [.ref (ad 0), .int (nI (f))] D cy (mw cy ad σ T) (nI (numN σ f)) := by
  refine Met.ofW (cc := cX11_numberOf) (maxL := 4) (ret := (some .int)) (by decide) rfl ?_
  intro p e s m args below meth c s₁ B hml hv
  obtain ⟨rfl, hP, hK, hN⟩ := hv
  have hx := B.exec
  have hb := B.bytes
  have hr := B.returns
  have hlocks := B.notSynchronized
  have hts : ∀ cq ∈ tg, cq.before ([.ref (ad 0), .int (nI (f))] : List Value).toArray s = true := fun cq h => atoms_spec (ws := qX11_numberOf) B.pre cq (List.mem_cons_of_mem _ h)
  have hown : s.vm.findClass RX11 = some m.cls := findClass_of_methodNamed B.named
  have hl := lv_entry ([.ref (ad 0), .int (nI (f))]) (n := 4) (Nat.le_of_ble_eq_true rfl)
  rw [lg_entry_eq]
  generalize (lg_sl ([.ref (ad 0), .int (nI (f))]) ++ List.replicate (4 - (lg_sl ([.ref (ad 0), .int (nI (f))])).length) Slot.unset).toArray = ls at hl ⊢
  have hl : lv_has ls 4 [(0, .ref (ad 0)), (1, .int (nI (f)))] := hl
  have hk := hw.2.2.2.1 f hf
  refine lv_aload_n hx hb dX11_numberOf_0 rfl (lv_at hl 0 rfl) ?_
  refine va_get (D := D) (ci := 10) (v := .ref (ad 2)) (C := RX11) (T := TX11) (N := 31) hx hb hts ni11 hown hK hP 0 (mw_c0 cy ad σ T) rfl 3 (by decide) (hts _ flX11_13) (fun _ h => h) rfl dX11_numberOf_1 ?_
  refine lv_iconst (v := nI 5) hx hb dX11_numberOf_4 (by decide) ?_
  refine lv_iload_n hx hb dX11_numberOf_5 rfl (lv_at hl 1 rfl) ?_
  refine ln_imul hx hb dX11_numberOf_6 ?_
  refine lv_iconst (v := nI 1) hx hb dX11_numberOf_7 (by decide) ?_
  refine ln_iadd hx hb dX11_numberOf_8 ?_
  refine ln_iald (v := (nI (s_fe σ ((5 * f) + 1)))) hx hb hK hP 2 (mw_c2 cy ad σ T) (by omega) (by decide) rfl dX11_numberOf_9 ?_
  refine lv_istore_n (lv' := [(2, .int (nI (s_fe σ ((5 * f) + 1)))), (0, .ref (ad 0)), (1, .int (nI (f)))]) hx hb dX11_numberOf_10 rfl hl (by decide) rfl (fun ls hl => ?_)
  refine lv_aload_n hx hb dX11_numberOf_11 rfl (lv_at hl 1 rfl) ?_
  refine va_get (D := D) (ci := 10) (v := .ref (ad 2)) (C := RX11) (T := TX11) (N := 31) hx hb hts ni11 hown hK hP 0 (mw_c0 cy ad σ T) rfl 3 (by decide) (hts _ flX11_13) (fun _ h => h) rfl dX11_numberOf_12 ?_
  refine lv_iconst (v := nI 5) hx hb dX11_numberOf_15 (by decide) ?_
  refine lv_iload_n hx hb dX11_numberOf_16 rfl (lv_at hl 2 rfl) ?_
  refine ln_imul hx hb dX11_numberOf_17 ?_
  refine ln_iald (v := (nI (s_fe σ (5 * f)))) hx hb hK hP 2 (mw_c2 cy ad σ T) (by omega) (by decide) rfl dX11_numberOf_18 ?_
  refine lv_iconst (v := nI 2) hx hb dX11_numberOf_19 (by decide) ?_
  refine ln_icmp_lt (tgt := 30) hx hb dX11_numberOf_20 (by decide) (by omega) (by omega) (fun c20 => ?_) (fun c20 => ?_)
  · refine lv_iload_n hx hb dX11_numberOf_30 rfl (lv_at hl 0 rfl) ?_
    exact rt_i hx hb hr hlocks (congrArg nI (by unfold numN; first | (rw [if_pos (Or.inl c20)]; done) | (rw [if_pos (Or.inr c27)]; done) | (rw [if_neg (by rintro (q | q); omega; rw [q] at c27; cases c27)]; unfold rev3; split; omega; split <;> omega))) dX11_numberOf_31
  · refine lv_aload_n hx hb dX11_numberOf_23 rfl (lv_at hl 1 rfl) ?_
    refine va_get (D := D) (ci := 10) (v := .int (bI (s_la σ))) (C := RX11) (T := TX11) (N := 31) hx hb hts ni11 hown hK hP 0 (mw_c0 cy ad σ T) rfl 20 (by decide) (hts _ flX11_164) (fun _ h => h) rfl dX11_numberOf_24 ?_
    refine lb_if_ne (tgt := 32) hx hb dX11_numberOf_27 (by decide) (fun c27 => ?_) (fun c27 => ?_)
    · refine lv_iconst (v := nI 0) hx hb dX11_numberOf_32 (by decide) ?_
      refine lv_istore_n (lv' := [(3, .int (nI (0))), (2, .int (nI (s_fe σ ((5 * f) + 1)))), (0, .ref (ad 0)), (1, .int (nI (f)))]) hx hb dX11_numberOf_33 rfl hl (by decide) rfl (fun ls hl => ?_)
      refine lv_iload_n hx hb dX11_numberOf_34 rfl (lv_at hl 1 rfl) ?_
      refine ln_if_le (tgt := 56) hx hb dX11_numberOf_35 (by decide) (by omega) (fun c35 => ?_) (fun c35 => ?_)
      · have e0 := c35
        refine lv_iload_n hx hb dX11_numberOf_56 rfl (lv_at hl 0 rfl) ?_
        exact rt_i hx hb hr hlocks (congrArg nI (by unfold numN; first | (rw [if_pos (Or.inl c20)]; done) | (rw [if_pos (Or.inr c27)]; done) | (rw [if_neg (by rintro (q | q); omega; rw [q] at c27; cases c27)]; unfold rev3; split; omega; split <;> omega))) dX11_numberOf_57
      · have e0 := c35
        refine lv_bipush (v := nI 10) hx hb dX11_numberOf_38 (by decide) ?_
        refine lv_iload_n hx hb dX11_numberOf_40 rfl (lv_at hl 0 rfl) ?_
        refine ln_imul hx hb dX11_numberOf_41 ?_
        refine lv_iload_n hx hb dX11_numberOf_42 rfl (lv_at hl 1 rfl) ?_
        refine lv_bipush (v := nI 10) hx hb dX11_numberOf_43 (by decide) ?_
        refine ln_irem hx hb dX11_numberOf_45 (by omega) (by omega) (by omega) ?_
        refine ln_iadd hx hb dX11_numberOf_46 ?_
        refine lv_istore_n (lv' := [(3, .int (nI ((10 * 0) + ((s_fe σ ((5 * f) + 1)) % 10)))), (2, .int (nI (s_fe σ ((5 * f) + 1)))), (0, .ref (ad 0)), (1, .int (nI (f)))]) hx hb dX11_numberOf_47 rfl hl (by decide) rfl (fun ls hl => ?_)
        refine lv_iload_n hx hb dX11_numberOf_48 rfl (lv_at hl 1 rfl) ?_
        refine lv_bipush (v := nI 10) hx hb dX11_numberOf_49 (by decide) ?_
        refine ln_idiv hx hb dX11_numberOf_51 (by omega) (by omega) (by omega) ?_
        refine lv_istore_n (lv' := [(2, .int (nI ((s_fe σ ((5 * f) + 1)) / 10))), (3, .int (nI ((10 * 0) + ((s_fe σ ((5 * f) + 1)) % 10)))), (0, .ref (ad 0)), (1, .int (nI (f)))]) hx hb dX11_numberOf_52 rfl hl (by decide) rfl (fun ls hl => ?_)
        refine lv_goto (tgt := 34) hx hb dX11_numberOf_53 (by decide) ?_
        refine lv_iload_n hx hb dX11_numberOf_34 rfl (lv_at hl 0 rfl) ?_
        refine ln_if_le (tgt := 56) hx hb dX11_numberOf_35 (by decide) (by omega) (fun c35 => ?_) (fun c35 => ?_)
        · have e1 := c35
          refine lv_iload_n hx hb dX11_numberOf_56 rfl (lv_at hl 1 rfl) ?_
          exact rt_i hx hb hr hlocks (congrArg nI (by unfold numN; first | (rw [if_pos (Or.inl c20)]; done) | (rw [if_pos (Or.inr c27)]; done) | (rw [if_neg (by rintro (q | q); omega; rw [q] at c27; cases c27)]; unfold rev3; split; omega; split <;> omega))) dX11_numberOf_57
        · have e1 := c35
          refine lv_bipush (v := nI 10) hx hb dX11_numberOf_38 (by decide) ?_
          refine lv_iload_n hx hb dX11_numberOf_40 rfl (lv_at hl 1 rfl) ?_
          refine ln_imul hx hb dX11_numberOf_41 ?_
          refine lv_iload_n hx hb dX11_numberOf_42 rfl (lv_at hl 0 rfl) ?_
          refine lv_bipush (v := nI 10) hx hb dX11_numberOf_43 (by decide) ?_
          refine ln_irem hx hb dX11_numberOf_45 (by omega) (by omega) (by omega) ?_
          refine ln_iadd hx hb dX11_numberOf_46 ?_
          refine lv_istore_n (lv' := [(3, .int (nI ((10 * ((10 * 0) + ((s_fe σ ((5 * f) + 1)) % 10))) + (((s_fe σ ((5 * f) + 1)) / 10) % 10)))), (2, .int (nI ((s_fe σ ((5 * f) + 1)) / 10))), (0, .ref (ad 0)), (1, .int (nI (f)))]) hx hb dX11_numberOf_47 rfl hl (by decide) rfl (fun ls hl => ?_)
          refine lv_iload_n hx hb dX11_numberOf_48 rfl (lv_at hl 1 rfl) ?_
          refine lv_bipush (v := nI 10) hx hb dX11_numberOf_49 (by decide) ?_
          refine ln_idiv hx hb dX11_numberOf_51 (by omega) (by omega) (by omega) ?_
          refine lv_istore_n (lv' := [(2, .int (nI (((s_fe σ ((5 * f) + 1)) / 10) / 10))), (3, .int (nI ((10 * ((10 * 0) + ((s_fe σ ((5 * f) + 1)) % 10))) + (((s_fe σ ((5 * f) + 1)) / 10) % 10)))), (0, .ref (ad 0)), (1, .int (nI (f)))]) hx hb dX11_numberOf_52 rfl hl (by decide) rfl (fun ls hl => ?_)
          refine lv_goto (tgt := 34) hx hb dX11_numberOf_53 (by decide) ?_
          refine lv_iload_n hx hb dX11_numberOf_34 rfl (lv_at hl 0 rfl) ?_
          refine ln_if_le (tgt := 56) hx hb dX11_numberOf_35 (by decide) (by omega) (fun c35 => ?_) (fun c35 => ?_)
          · have e2 := c35
            refine lv_iload_n hx hb dX11_numberOf_56 rfl (lv_at hl 1 rfl) ?_
            exact rt_i hx hb hr hlocks (congrArg nI (by unfold numN; first | (rw [if_pos (Or.inl c20)]; done) | (rw [if_pos (Or.inr c27)]; done) | (rw [if_neg (by rintro (q | q); omega; rw [q] at c27; cases c27)]; unfold rev3; split; omega; split <;> omega))) dX11_numberOf_57
          · have e2 := c35
            refine lv_bipush (v := nI 10) hx hb dX11_numberOf_38 (by decide) ?_
            refine lv_iload_n hx hb dX11_numberOf_40 rfl (lv_at hl 1 rfl) ?_
            refine ln_imul hx hb dX11_numberOf_41 ?_
            refine lv_iload_n hx hb dX11_numberOf_42 rfl (lv_at hl 0 rfl) ?_
            refine lv_bipush (v := nI 10) hx hb dX11_numberOf_43 (by decide) ?_
            refine ln_irem hx hb dX11_numberOf_45 (by omega) (by omega) (by omega) ?_
            refine ln_iadd hx hb dX11_numberOf_46 ?_
            refine lv_istore_n (lv' := [(3, .int (nI ((10 * ((10 * ((10 * 0) + ((s_fe σ ((5 * f) + 1)) % 10))) + (((s_fe σ ((5 * f) + 1)) / 10) % 10))) + ((((s_fe σ ((5 * f) + 1)) / 10) / 10) % 10)))), (2, .int (nI (((s_fe σ ((5 * f) + 1)) / 10) / 10))), (0, .ref (ad 0)), (1, .int (nI (f)))]) hx hb dX11_numberOf_47 rfl hl (by decide) rfl (fun ls hl => ?_)
            refine lv_iload_n hx hb dX11_numberOf_48 rfl (lv_at hl 1 rfl) ?_
            refine lv_bipush (v := nI 10) hx hb dX11_numberOf_49 (by decide) ?_
            refine ln_idiv hx hb dX11_numberOf_51 (by omega) (by omega) (by omega) ?_
            refine lv_istore_n (lv' := [(2, .int (nI ((((s_fe σ ((5 * f) + 1)) / 10) / 10) / 10))), (3, .int (nI ((10 * ((10 * ((10 * 0) + ((s_fe σ ((5 * f) + 1)) % 10))) + (((s_fe σ ((5 * f) + 1)) / 10) % 10))) + ((((s_fe σ ((5 * f) + 1)) / 10) / 10) % 10)))), (0, .ref (ad 0)), (1, .int (nI (f)))]) hx hb dX11_numberOf_52 rfl hl (by decide) rfl (fun ls hl => ?_)
            refine lv_goto (tgt := 34) hx hb dX11_numberOf_53 (by decide) ?_
            refine lv_iload_n hx hb dX11_numberOf_34 rfl (lv_at hl 0 rfl) ?_
            refine ln_if_le (tgt := 56) hx hb dX11_numberOf_35 (by decide) (by omega) (fun c35 => ?_) (fun c35 => ?_)
            · refine lv_iload_n hx hb dX11_numberOf_56 rfl (lv_at hl 1 rfl) ?_
              exact rt_i hx hb hr hlocks (congrArg nI (by unfold numN; first | (rw [if_pos (Or.inl c20)]; done) | (rw [if_pos (Or.inr c27)]; done) | (rw [if_neg (by rintro (q | q); omega; rw [q] at c27; cases c27)]; unfold rev3; split; omega; split <;> omega))) dX11_numberOf_57
            · exact absurd c35 (by omega)
    · refine lv_iload_n hx hb dX11_numberOf_30 rfl (lv_at hl 0 rfl) ?_
      exact rt_i hx hb hr hlocks (congrArg nI (by unfold numN; first | (rw [if_pos (Or.inl c20)]; done) | (rw [if_pos (Or.inr c27)]; done) | (rw [if_neg (by rintro (q | q); omega; rw [q] at c27; cases c27)]; unfold rev3; split; omega; split <;> omega))) dX11_numberOf_31
set_option maxHeartbeats 4000000 in
set_option maxRecDepth 100000 in
theorem k_X11_canBoard (l : Launch) (D : va_G) (cy : Nat → ClassId) (ad : Nat → Nat) (σ : Sg) (T : Ms) (f x th bo : Nat) (hw : wfS σ) (hf : f < 3) (h1 : x < 2 ^ 31) (h2 : th < 2 ^ 31) (h3 : bo < 2 ^ 31) : MR l yX11_canBoard qX11_canBoard 1 [.ref (ad 0), .int (nI (f)), .int (nI (x)), .int (nI (th)), .int (nI (bo))] D cy (mw cy ad σ T) (bI (board σ f x th bo)) := by
  refine Met.ofW (cc := cX11_canBoard) (maxL := 7) (ret := (some .boolean)) (by decide) rfl ?_
  intro p e s m args below meth c s₁ B hml hv
  obtain ⟨rfl, hP, hK, hN⟩ := hv
  have hx := B.exec
  have hb := B.bytes
  have hr := B.returns
  have hlocks := B.notSynchronized
  have hts : ∀ cq ∈ tg, cq.before ([.ref (ad 0), .int (nI (f)), .int (nI (x)), .int (nI (th)), .int (nI (bo))] : List Value).toArray s = true := fun cq h => atoms_spec (ws := qX11_canBoard) B.pre cq (List.mem_cons_of_mem _ h)
  have hown : s.vm.findClass RX11 = some m.cls := findClass_of_methodNamed B.named
  have hl := lv_entry ([.ref (ad 0), .int (nI (f)), .int (nI (x)), .int (nI (th)), .int (nI (bo))]) (n := 7) (Nat.le_of_ble_eq_true rfl)
  rw [lg_entry_eq]
  generalize (lg_sl ([.ref (ad 0), .int (nI (f)), .int (nI (x)), .int (nI (th)), .int (nI (bo))]) ++ List.replicate (7 - (lg_sl ([.ref (ad 0), .int (nI (f)), .int (nI (x)), .int (nI (th)), .int (nI (bo))])).length) Slot.unset).toArray = ls at hl ⊢
  have hl : lv_has ls 7 [(0, .ref (ad 0)), (1, .int (nI (f))), (2, .int (nI (x))), (3, .int (nI (th))), (4, .int (nI (bo)))] := hl
  have hw1 := hw.1
  refine lv_iconst (v := nI 0) hx hb dX11_canBoard_0 (by decide) ?_
  refine ln_eq (show (nI (0)) = (bI (anyN (fun t => x.testBit t && decide (s_th σ (6 * t) = 0)) 0)) from rfl) ?_
  refine lv_istore (lv' := [(5, .int (bI (anyN (fun t => x.testBit t && decide (s_th σ (6 * t) = 0)) 0))), (0, .ref (ad 0)), (1, .int (nI (f))), (2, .int (nI (x))), (3, .int (nI (th))), (4, .int (nI (bo)))]) hx hb dX11_canBoard_1 hl (by decide) rfl (fun ls hl => ?_)
  refine lv_iconst (v := nI 0) hx hb dX11_canBoard_3 (by decide) ?_
  refine lv_istore (lv' := [(6, .int (nI (0))), (5, .int (bI (anyN (fun t => x.testBit t && decide (s_th σ (6 * t) = 0)) 0))), (0, .ref (ad 0)), (1, .int (nI (f))), (2, .int (nI (x))), (3, .int (nI (th))), (4, .int (nI (bo)))]) hx hb dX11_canBoard_4 hl (by decide) rfl (fun ls hl => ?_)
  have loop : ∀ (k i : Nat) (ls : Array Slot), i + k = s_n σ →  lv_has ls 7 [(6, .int (nI (i))), (5, .int (bI (anyN (fun t => x.testBit t && decide (s_th σ (6 * t) = 0)) i))), (0, .ref (ad 0)), (1, .int (nI (f))), (2, .int (nI (x))), (3, .int (nI (th))), (4, .int (nI (bo)))] → W p l e (headSpec qX11_canBoard (rq 1)).room s m ([.ref (ad 0), .int (nI (f)), .int (nI (x)), .int (nI (th)), .int (nI (bo))] : List Value).toArray below meth c s.heap [] 0 0 (MQ below (vp_Si (fun r => r = bI (board σ f x th bo))) ([.ref (ad 0), .int (nI (f)), .int (nI (x)), .int (nI (th)), .int (nI (bo))] : List Value).toArray s 0 0 (fun _ => False)) (F0 m 6 ls []) := by
    intro k
    induction k with
    | zero =>
      intro i ls hi hl
      refine lv_iload hx hb dX11_canBoard_6 (lv_at hl 0 rfl) ?_
      refine lv_aload_n hx hb dX11_canBoard_8 rfl (lv_at hl 2 rfl) ?_
      refine va_get (D := D) (ci := 10) (v := .int (nI (s_n σ))) (C := RX11) (T := TX11) (N := 31) hx hb hts ni11 hown hK hP 0 (mw_c0 cy ad σ T) rfl 0 (by decide) (hts _ flX11_47) (fun _ h => h) rfl dX11_canBoard_9 ?_
      refine ln_icmp_ge (tgt := 55) hx hb dX11_canBoard_12 (by decide) (by omega) (by omega) (fun c12 => ?_) (fun c12 => ?_)
      · refine lv_iload hx hb dX11_canBoard_55 (lv_at hl 1 rfl) ?_
        refine lb_if_eq (tgt := 90) hx hb dX11_canBoard_57 (by decide) (fun c57 => ?_) (fun c57 => ?_)
        · refine lv_iconst (v := nI 0) hx hb dX11_canBoard_90 (by decide) ?_
          refine ln_eq bI_f.symm ?_
          exact rt_z hx hb hr hlocks (by first | exact board_f0 (by omega) c57 | exact board_1 (by omega) c57 c66 h1 c74 | exact board_2 c66 h1 c74 | exact board_3 (by omega) c57 c66 c83 | exact board_4 c66 c83) dX11_canBoard_91
        · refine lv_iload hx hb dX11_canBoard_60 (lv_at hl 6 rfl) ?_
          refine lv_iload_n hx hb dX11_canBoard_62 rfl (lv_at hl 3 rfl) ?_
          refine cr_s (n := 2) (As := [.int (nI (bo)), .int (nI (f))]) (rest := []) ⟨hx, hb, hml, hown, hts⟩ (k_X11_has l bo f (by omega) (by omega)) gsX11_173 (by decide +kernel) ⟨Nat.le_of_ble_eq_true rfl, Nat.le_of_ble_eq_true rfl⟩ rfl hl.1 rfl (Nat.le_of_ble_eq_true rfl) dX11_canBoard_63 ⟨Nat.zero_le _, Nat.zero_le _⟩ ?_
          refine lb_if_eq (tgt := 80) hx hb dX11_canBoard_66 (by decide) (fun c66 => ?_) (fun c66 => ?_)
          · refine lv_iload_n hx hb dX11_canBoard_80 rfl (lv_at hl 4 rfl) ?_
            refine lv_iload_n hx hb dX11_canBoard_81 rfl (lv_at hl 5 rfl) ?_
            refine ln_iand hx hb dX11_canBoard_82 ?_
            refine ln_if_ne (tgt := 90) hx hb dX11_canBoard_83 (by decide) (and_lt h1) (fun c83 => ?_) (fun c83 => ?_)
            · refine lv_iconst (v := nI 0) hx hb dX11_canBoard_90 (by decide) ?_
              refine ln_eq bI_f.symm ?_
              exact rt_z hx hb hr hlocks (by first | exact board_f0 (by omega) c57 | exact board_1 (by omega) c57 c66 h1 c74 | exact board_2 c66 h1 c74 | exact board_3 (by omega) c57 c66 c83 | exact board_4 c66 c83) dX11_canBoard_91
            · refine lv_iconst (v := nI 1) hx hb dX11_canBoard_86 (by decide) ?_
              refine lv_goto (tgt := 91) hx hb dX11_canBoard_87 (by decide) ?_
              refine ln_eq bI_t.symm ?_
              exact rt_z hx hb hr hlocks (by first | exact board_f0 (by omega) c57 | exact board_1 (by omega) c57 c66 h1 c74 | exact board_2 c66 h1 c74 | exact board_3 (by omega) c57 c66 c83 | exact board_4 c66 c83) dX11_canBoard_91
          · refine lv_iload_n hx hb dX11_canBoard_69 rfl (lv_at hl 4 rfl) ?_
            refine lv_iload_n hx hb dX11_canBoard_70 rfl (lv_at hl 5 rfl) ?_
            refine lv_iconst (v := -1) hx hb dX11_canBoard_71 (by decide) ?_
            refine lv_ixor hx hb dX11_canBoard_72 ?_
            refine ln_eq (show ((nI (th)) ^^^ (-1)) = (nI (th ^^^ (2 ^ 32 - 1))) from xorm1 th h2) ?_
            refine ln_iand hx hb dX11_canBoard_73 ?_
            refine ln_if_ne (tgt := 90) hx hb dX11_canBoard_74 (by decide) (and_lt h1) (fun c74 => ?_) (fun c74 => ?_)
            · refine lv_iconst (v := nI 0) hx hb dX11_canBoard_90 (by decide) ?_
              refine ln_eq bI_f.symm ?_
              exact rt_z hx hb hr hlocks (by first | exact board_f0 (by omega) c57 | exact board_1 (by omega) c57 c66 h1 c74 | exact board_2 c66 h1 c74 | exact board_3 (by omega) c57 c66 c83 | exact board_4 c66 c83) dX11_canBoard_91
            · refine lv_goto (tgt := 86) hx hb dX11_canBoard_77 (by decide) ?_
              refine lv_iconst (v := nI 1) hx hb dX11_canBoard_86 (by decide) ?_
              refine lv_goto (tgt := 91) hx hb dX11_canBoard_87 (by decide) ?_
              refine ln_eq bI_t.symm ?_
              exact rt_z hx hb hr hlocks (by first | exact board_f0 (by omega) c57 | exact board_1 (by omega) c57 c66 h1 c74 | exact board_2 c66 h1 c74 | exact board_3 (by omega) c57 c66 c83 | exact board_4 c66 c83) dX11_canBoard_91
      · exact absurd c12 (by omega)
    | succ k ih =>
      intro i ls hi hl
      refine lv_iload hx hb dX11_canBoard_6 (lv_at hl 0 rfl) ?_
      refine lv_aload_n hx hb dX11_canBoard_8 rfl (lv_at hl 2 rfl) ?_
      refine va_get (D := D) (ci := 10) (v := .int (nI (s_n σ))) (C := RX11) (T := TX11) (N := 31) hx hb hts ni11 hown hK hP 0 (mw_c0 cy ad σ T) rfl 0 (by decide) (hts _ flX11_47) (fun _ h => h) rfl dX11_canBoard_9 ?_
      refine ln_icmp_ge (tgt := 55) hx hb dX11_canBoard_12 (by decide) (by omega) (by omega) (fun c12 => ?_) (fun c12 => ?_)
      · exact absurd c12 (by omega)
      · refine lv_iload hx hb dX11_canBoard_15 (lv_at hl 1 rfl) ?_
        refine lb_if_ne (tgt := 42) hx hb dX11_canBoard_17 (by decide) (fun c17 => ?_) (fun c17 => ?_)
        · refine lv_iconst (v := nI 1) hx hb dX11_canBoard_42 (by decide) ?_
          refine lv_goto (tgt := 47) hx hb dX11_canBoard_43 (by decide) ?_
          refine ln_eq (show (nI (1)) = (bI (anyN (fun t => x.testBit t && decide (s_th σ (6 * t) = 0)) (i + 1))) from by first | exact any_t1 c17 | exact any_t2 (by simp [c26, c39]) | exact any_f c17 (by first | (simp [c26]; done) | (simp [c26]; omega))) ?_
          refine lv_istore (lv' := [(5, .int (bI (anyN (fun t => x.testBit t && decide (s_th σ (6 * t) = 0)) (i + 1)))), (6, .int (nI (i))), (0, .ref (ad 0)), (1, .int (nI (f))), (2, .int (nI (x))), (3, .int (nI (th))), (4, .int (nI (bo)))]) hx hb dX11_canBoard_47 hl (by decide) rfl (fun ls hl => ?_)
          refine ln_iinc (lv' := [(6, .int (nI (i + 1))), (5, .int (bI (anyN (fun t => x.testBit t && decide (s_th σ (6 * t) = 0)) (i + 1)))), (0, .ref (ad 0)), (1, .int (nI (f))), (2, .int (nI (x))), (3, .int (nI (th))), (4, .int (nI (bo)))]) hx hb dX11_canBoard_49 hl (k := 1) (n := 1) rfl (by decide) rfl (fun ls hl => ?_)
          refine lv_goto (tgt := 6) hx hb dX11_canBoard_52 (by decide) ?_
          exact ih (i + 1) ls (by omega)  (lv_sub hl [0, 1, 2, 3, 4, 5, 6] rfl)
        · refine lv_iload_n hx hb dX11_canBoard_20 rfl (lv_at hl 4 rfl) ?_
          refine lv_iload hx hb dX11_canBoard_21 (lv_at hl 0 rfl) ?_
          refine cr_s (n := 2) (As := [.int (nI (x)), .int (nI (i))]) (rest := []) ⟨hx, hb, hml, hown, hts⟩ (k_X11_has l x i (by omega) (by omega)) gsX11_173 (by decide +kernel) ⟨Nat.le_of_ble_eq_true rfl, Nat.le_of_ble_eq_true rfl⟩ rfl hl.1 rfl (Nat.le_of_ble_eq_true rfl) dX11_canBoard_23 ⟨Nat.zero_le _, Nat.zero_le _⟩ ?_
          refine lb_if_eq (tgt := 46) hx hb dX11_canBoard_26 (by decide) (fun c26 => ?_) (fun c26 => ?_)
          · refine lv_iconst (v := nI 0) hx hb dX11_canBoard_46 (by decide) ?_
            refine ln_eq (show (nI (0)) = (bI (anyN (fun t => x.testBit t && decide (s_th σ (6 * t) = 0)) (i + 1))) from by first | exact any_t1 c17 | exact any_t2 (by simp [c26, c39]) | exact any_f c17 (by first | (simp [c26]; done) | (simp [c26]; omega))) ?_
            refine lv_istore (lv' := [(5, .int (bI (anyN (fun t => x.testBit t && decide (s_th σ (6 * t) = 0)) (i + 1)))), (6, .int (nI (i))), (0, .ref (ad 0)), (1, .int (nI (f))), (2, .int (nI (x))), (3, .int (nI (th))), (4, .int (nI (bo)))]) hx hb dX11_canBoard_47 hl (by decide) rfl (fun ls hl => ?_)
            refine ln_iinc (lv' := [(6, .int (nI (i + 1))), (5, .int (bI (anyN (fun t => x.testBit t && decide (s_th σ (6 * t) = 0)) (i + 1)))), (0, .ref (ad 0)), (1, .int (nI (f))), (2, .int (nI (x))), (3, .int (nI (th))), (4, .int (nI (bo)))]) hx hb dX11_canBoard_49 hl (k := 1) (n := 1) rfl (by decide) rfl (fun ls hl => ?_)
            refine lv_goto (tgt := 6) hx hb dX11_canBoard_52 (by decide) ?_
            exact ih (i + 1) ls (by omega)  (lv_sub hl [0, 1, 2, 3, 4, 5, 6] rfl)
          · refine lv_aload_n hx hb dX11_canBoard_29 rfl (lv_at hl 2 rfl) ?_
            refine va_get (D := D) (ci := 10) (v := .ref (ad 1)) (C := RX11) (T := TX11) (N := 31) hx hb hts ni11 hown hK hP 0 (mw_c0 cy ad σ T) rfl 1 (by decide) (hts _ flX11_7) (fun _ h => h) rfl dX11_canBoard_30 ?_
            refine lv_bipush (v := nI 6) hx hb dX11_canBoard_33 (by decide) ?_
            refine lv_iload hx hb dX11_canBoard_35 (lv_at hl 0 rfl) ?_
            refine ln_imul hx hb dX11_canBoard_37 ?_
            refine ln_iald (v := (nI (s_th σ (6 * i)))) hx hb hK hP 1 (mw_c1 cy ad σ T) (by omega) (by decide) rfl dX11_canBoard_38 ?_
            have hk := hw.2.2.1 i (by omega)
            refine ln_if_ne (tgt := 46) hx hb dX11_canBoard_39 (by decide) (by omega) (fun c39 => ?_) (fun c39 => ?_)
            · refine lv_iconst (v := nI 0) hx hb dX11_canBoard_46 (by decide) ?_
              refine ln_eq (show (nI (0)) = (bI (anyN (fun t => x.testBit t && decide (s_th σ (6 * t) = 0)) (i + 1))) from by first | exact any_t1 c17 | exact any_t2 (by simp [c26, c39]) | exact any_f c17 (by first | (simp [c26]; done) | (simp [c26]; omega))) ?_
              refine lv_istore (lv' := [(5, .int (bI (anyN (fun t => x.testBit t && decide (s_th σ (6 * t) = 0)) (i + 1)))), (6, .int (nI (i))), (0, .ref (ad 0)), (1, .int (nI (f))), (2, .int (nI (x))), (3, .int (nI (th))), (4, .int (nI (bo)))]) hx hb dX11_canBoard_47 hl (by decide) rfl (fun ls hl => ?_)
              refine ln_iinc (lv' := [(6, .int (nI (i + 1))), (5, .int (bI (anyN (fun t => x.testBit t && decide (s_th σ (6 * t) = 0)) (i + 1)))), (0, .ref (ad 0)), (1, .int (nI (f))), (2, .int (nI (x))), (3, .int (nI (th))), (4, .int (nI (bo)))]) hx hb dX11_canBoard_49 hl (k := 1) (n := 1) rfl (by decide) rfl (fun ls hl => ?_)
              refine lv_goto (tgt := 6) hx hb dX11_canBoard_52 (by decide) ?_
              exact ih (i + 1) ls (by omega)  (lv_sub hl [0, 1, 2, 3, 4, 5, 6] rfl)
            · refine lv_iconst (v := nI 1) hx hb dX11_canBoard_42 (by decide) ?_
              refine lv_goto (tgt := 47) hx hb dX11_canBoard_43 (by decide) ?_
              refine ln_eq (show (nI (1)) = (bI (anyN (fun t => x.testBit t && decide (s_th σ (6 * t) = 0)) (i + 1))) from by first | exact any_t1 c17 | exact any_t2 (by simp [c26, c39]) | exact any_f c17 (by first | (simp [c26]; done) | (simp [c26]; omega))) ?_
              refine lv_istore (lv' := [(5, .int (bI (anyN (fun t => x.testBit t && decide (s_th σ (6 * t) = 0)) (i + 1)))), (6, .int (nI (i))), (0, .ref (ad 0)), (1, .int (nI (f))), (2, .int (nI (x))), (3, .int (nI (th))), (4, .int (nI (bo)))]) hx hb dX11_canBoard_47 hl (by decide) rfl (fun ls hl => ?_)
              refine ln_iinc (lv' := [(6, .int (nI (i + 1))), (5, .int (bI (anyN (fun t => x.testBit t && decide (s_th σ (6 * t) = 0)) (i + 1)))), (0, .ref (ad 0)), (1, .int (nI (f))), (2, .int (nI (x))), (3, .int (nI (th))), (4, .int (nI (bo)))]) hx hb dX11_canBoard_49 hl (k := 1) (n := 1) rfl (by decide) rfl (fun ls hl => ?_)
              refine lv_goto (tgt := 6) hx hb dX11_canBoard_52 (by decide) ?_
              exact ih (i + 1) ls (by omega)  (lv_sub hl [0, 1, 2, 3, 4, 5, 6] rfl)
  exact loop (s_n σ - 0) 0 ls (by omega)  (lv_sub hl [0, 1, 2, 3, 4, 5, 6] rfl)
set_option maxHeartbeats 4000000 in
set_option maxRecDepth 100000 in
theorem k_X11_fitsBy (l : Launch) (D : va_G) (cy : Nat → ClassId) (ad : Nat → Nat) (σ : Sg) (T : Ms) (f x mo : Nat) (hw : wfS σ) (hf : f < 3) (h1 : x < 2 ^ 29) (h2 : mo < 2 ^ 29) : MR l yX11_fitsBy qX11_fitsBy 1 [.ref (ad 0), .int (nI (f)), .int (nI (x)), .int (nI (mo))] D cy (mw cy ad σ T) (bI (fit σ f x mo)) := by
  refine Met.ofW (cc := cX11_fitsBy) (maxL := 5) (ret := (some .boolean)) (by decide) rfl ?_
  intro p e s m args below meth c s₁ B hml hv
  obtain ⟨rfl, hP, hK, hN⟩ := hv
  have hx := B.exec
  have hb := B.bytes
  have hr := B.returns
  have hlocks := B.notSynchronized
  have hts : ∀ cq ∈ tg, cq.before ([.ref (ad 0), .int (nI (f)), .int (nI (x)), .int (nI (mo))] : List Value).toArray s = true := fun cq h => atoms_spec (ws := qX11_fitsBy) B.pre cq (List.mem_cons_of_mem _ h)
  have hown : s.vm.findClass RX11 = some m.cls := findClass_of_methodNamed B.named
  have hl := lv_entry ([.ref (ad 0), .int (nI (f)), .int (nI (x)), .int (nI (mo))]) (n := 5) (Nat.le_of_ble_eq_true rfl)
  rw [lg_entry_eq]
  generalize (lg_sl ([.ref (ad 0), .int (nI (f)), .int (nI (x)), .int (nI (mo))]) ++ List.replicate (5 - (lg_sl ([.ref (ad 0), .int (nI (f)), .int (nI (x)), .int (nI (mo))])).length) Slot.unset).toArray = ls at hl ⊢
  have hl : lv_has ls 5 [(0, .ref (ad 0)), (1, .int (nI (f))), (2, .int (nI (x))), (3, .int (nI (mo)))] := hl
  have hk := hw.2.2.2.1 f hf
  have hnum := numN_lt hw hf
  have hdf := adif_lt (a := x) (b := numN σ f) (c := 2 ^ 29) h1 (by omega)
  refine lv_iload_n hx hb dX11_fitsBy_0 rfl (lv_at hl 2 rfl) ?_
  refine lv_aload_n hx hb dX11_fitsBy_1 rfl (lv_at hl 0 rfl) ?_
  refine lv_iload_n hx hb dX11_fitsBy_2 rfl (lv_at hl 1 rfl) ?_
  refine cr_v (n := 1) (As := [.int (nI (f))]) (rest := [.int (nI (x))]) ⟨hx, hb, hml, hown, hts⟩ (k_X11_numberOf l D cy ad σ T f hw (by omega)) gvX11_187 (by decide +kernel) ⟨Nat.le_of_ble_eq_true rfl, Nat.le_of_ble_eq_true rfl⟩ hK hN hP 0 (mw_c0 cy ad σ T) rfl rfl hl.1 rfl (Nat.le_of_ble_eq_true rfl) dX11_fitsBy_3 ⟨Nat.zero_le _, Nat.zero_le _⟩ ?_
  refine lv_isub hx hb dX11_fitsBy_6 ?_
  refine lv_istore (lv' := [(4, .int ((nI (x)) - (nI (numN σ f)))), (0, .ref (ad 0)), (1, .int (nI (f))), (2, .int (nI (x))), (3, .int (nI (mo)))]) hx hb dX11_fitsBy_7 hl (by decide) rfl (fun ls hl => ?_)
  refine lv_iload hx hb dX11_fitsBy_9 (lv_at hl 0 rfl) ?_
  refine lv_if_ge (tgt := 20) hx hb dX11_fitsBy_11 (by decide) (fun c11 => ?_) (fun c11 => ?_)
  · refine lv_iload hx hb dX11_fitsBy_20 (lv_at hl 0 rfl) ?_
    refine ln_eq (show ((nI (x)) - (nI (numN σ f))) = (nI (adif x (numN σ f))) from by first | exact abs_p (by omega) (by omega) c11 | exact abs_n (by omega) (by omega) c11) ?_
    refine lv_iload_n hx hb dX11_fitsBy_22 rfl (lv_at hl 4 rfl) ?_
    refine ln_iadd hx hb dX11_fitsBy_23 ?_
    refine lv_aload_n hx hb dX11_fitsBy_24 rfl (lv_at hl 1 rfl) ?_
    refine va_get (D := D) (ci := 10) (v := .ref (ad 2)) (C := RX11) (T := TX11) (N := 31) hx hb hts ni11 hown hK hP 0 (mw_c0 cy ad σ T) rfl 3 (by decide) (hts _ flX11_13) (fun _ h => h) rfl dX11_fitsBy_25 ?_
    refine lv_iconst (v := nI 5) hx hb dX11_fitsBy_28 (by decide) ?_
    refine lv_iload_n hx hb dX11_fitsBy_29 rfl (lv_at hl 2 rfl) ?_
    refine ln_imul hx hb dX11_fitsBy_30 ?_
    refine ln_iald (v := (nI (s_fe σ (5 * f)))) hx hb hK hP 2 (mw_c2 cy ad σ T) (by omega) (by decide) rfl dX11_fitsBy_31 ?_
    refine lv_iconst (v := nI 1) hx hb dX11_fitsBy_32 (by decide) ?_
    refine ln_icmp_ne (tgt := 40) hx hb dX11_fitsBy_33 (by decide) (by omega) (by omega) (fun c33 => ?_) (fun c33 => ?_)
    · refine lv_iconst (v := nI 0) hx hb dX11_fitsBy_40 (by decide) ?_
      refine ln_icmp_gt (tgt := 48) hx hb dX11_fitsBy_41 (by decide) (by omega) (by omega) (fun c41 => ?_) (fun c41 => ?_)
      · refine lv_iconst (v := nI 0) hx hb dX11_fitsBy_48 (by decide) ?_
        refine ln_eq bI_f.symm ?_
        exact rt_z hx hb hr hlocks (by unfold fit plN; first | (rw [if_pos c33]; simp; omega) | (rw [if_neg c33]; simp; omega)) dX11_fitsBy_49
      · refine lv_iconst (v := nI 1) hx hb dX11_fitsBy_44 (by decide) ?_
        refine lv_goto (tgt := 49) hx hb dX11_fitsBy_45 (by decide) ?_
        refine ln_eq bI_t.symm ?_
        exact rt_z hx hb hr hlocks (by unfold fit plN; first | (rw [if_pos c33]; simp; omega) | (rw [if_neg c33]; simp; omega)) dX11_fitsBy_49
    · refine lv_iconst (v := nI 1) hx hb dX11_fitsBy_36 (by decide) ?_
      refine lv_goto (tgt := 41) hx hb dX11_fitsBy_37 (by decide) ?_
      refine ln_icmp_gt (tgt := 48) hx hb dX11_fitsBy_41 (by decide) (by omega) (by omega) (fun c41 => ?_) (fun c41 => ?_)
      · refine lv_iconst (v := nI 0) hx hb dX11_fitsBy_48 (by decide) ?_
        refine ln_eq bI_f.symm ?_
        exact rt_z hx hb hr hlocks (by unfold fit plN; first | (rw [if_pos c33]; simp; omega) | (rw [if_neg c33]; simp; omega)) dX11_fitsBy_49
      · refine lv_iconst (v := nI 1) hx hb dX11_fitsBy_44 (by decide) ?_
        refine lv_goto (tgt := 49) hx hb dX11_fitsBy_45 (by decide) ?_
        refine ln_eq bI_t.symm ?_
        exact rt_z hx hb hr hlocks (by unfold fit plN; first | (rw [if_pos c33]; simp; omega) | (rw [if_neg c33]; simp; omega)) dX11_fitsBy_49
  · refine lv_iload hx hb dX11_fitsBy_14 (lv_at hl 0 rfl) ?_
    refine lv_ineg hx hb dX11_fitsBy_16 ?_
    refine lv_goto (tgt := 22) hx hb dX11_fitsBy_17 (by decide) ?_
    refine ln_eq (show (-((nI (x)) - (nI (numN σ f)))) = (nI (adif x (numN σ f))) from by first | exact abs_p (by omega) (by omega) c11 | exact abs_n (by omega) (by omega) c11) ?_
    refine lv_iload_n hx hb dX11_fitsBy_22 rfl (lv_at hl 4 rfl) ?_
    refine ln_iadd hx hb dX11_fitsBy_23 ?_
    refine lv_aload_n hx hb dX11_fitsBy_24 rfl (lv_at hl 1 rfl) ?_
    refine va_get (D := D) (ci := 10) (v := .ref (ad 2)) (C := RX11) (T := TX11) (N := 31) hx hb hts ni11 hown hK hP 0 (mw_c0 cy ad σ T) rfl 3 (by decide) (hts _ flX11_13) (fun _ h => h) rfl dX11_fitsBy_25 ?_
    refine lv_iconst (v := nI 5) hx hb dX11_fitsBy_28 (by decide) ?_
    refine lv_iload_n hx hb dX11_fitsBy_29 rfl (lv_at hl 2 rfl) ?_
    refine ln_imul hx hb dX11_fitsBy_30 ?_
    refine ln_iald (v := (nI (s_fe σ (5 * f)))) hx hb hK hP 2 (mw_c2 cy ad σ T) (by omega) (by decide) rfl dX11_fitsBy_31 ?_
    refine lv_iconst (v := nI 1) hx hb dX11_fitsBy_32 (by decide) ?_
    refine ln_icmp_ne (tgt := 40) hx hb dX11_fitsBy_33 (by decide) (by omega) (by omega) (fun c33 => ?_) (fun c33 => ?_)
    · refine lv_iconst (v := nI 0) hx hb dX11_fitsBy_40 (by decide) ?_
      refine ln_icmp_gt (tgt := 48) hx hb dX11_fitsBy_41 (by decide) (by omega) (by omega) (fun c41 => ?_) (fun c41 => ?_)
      · refine lv_iconst (v := nI 0) hx hb dX11_fitsBy_48 (by decide) ?_
        refine ln_eq bI_f.symm ?_
        exact rt_z hx hb hr hlocks (by unfold fit plN; first | (rw [if_pos c33]; simp; omega) | (rw [if_neg c33]; simp; omega)) dX11_fitsBy_49
      · refine lv_iconst (v := nI 1) hx hb dX11_fitsBy_44 (by decide) ?_
        refine lv_goto (tgt := 49) hx hb dX11_fitsBy_45 (by decide) ?_
        refine ln_eq bI_t.symm ?_
        exact rt_z hx hb hr hlocks (by unfold fit plN; first | (rw [if_pos c33]; simp; omega) | (rw [if_neg c33]; simp; omega)) dX11_fitsBy_49
    · refine lv_iconst (v := nI 1) hx hb dX11_fitsBy_36 (by decide) ?_
      refine lv_goto (tgt := 41) hx hb dX11_fitsBy_37 (by decide) ?_
      refine ln_icmp_gt (tgt := 48) hx hb dX11_fitsBy_41 (by decide) (by omega) (by omega) (fun c41 => ?_) (fun c41 => ?_)
      · refine lv_iconst (v := nI 0) hx hb dX11_fitsBy_48 (by decide) ?_
        refine ln_eq bI_f.symm ?_
        exact rt_z hx hb hr hlocks (by unfold fit plN; first | (rw [if_pos c33]; simp; omega) | (rw [if_neg c33]; simp; omega)) dX11_fitsBy_49
      · refine lv_iconst (v := nI 1) hx hb dX11_fitsBy_44 (by decide) ?_
        refine lv_goto (tgt := 49) hx hb dX11_fitsBy_45 (by decide) ?_
        refine ln_eq bI_t.symm ?_
        exact rt_z hx hb hr hlocks (by unfold fit plN; first | (rw [if_pos c33]; simp; omega) | (rw [if_neg c33]; simp; omega)) dX11_fitsBy_49
set_option maxHeartbeats 4000000 in
set_option maxRecDepth 100000 in
theorem k_X11_isRight (l : Launch) (D : va_G) (cy : Nat → ClassId) (ad : Nat → Nat) (σ : Sg) (T : Ms) (f x th bo h : Nat) (hw : wfS σ) (hf : f < 3) (h1 : x < 2 ^ 31) (h2 : th < 2 ^ 31) (h3 : bo < 2 ^ 31) (h4 : h < 2 ^ 31) : MR l yX11_isRight qX11_isRight 3 [.ref (ad 0), .int (nI (f)), .int (nI (x)), .int (nI (th)), .int (nI (bo)), .int (nI (h))] D cy (mw cy ad σ T) (bI (isR σ f x th bo h)) := by
  refine Met.ofW (cc := cX11_isRight) (maxL := 6) (ret := (some .boolean)) (by decide) rfl ?_
  intro p e s m args below meth c s₁ B hml hv
  obtain ⟨rfl, hP, hK, hN⟩ := hv
  have hx := B.exec
  have hb := B.bytes
  have hr := B.returns
  have hlocks := B.notSynchronized
  have hts : ∀ cq ∈ tg, cq.before ([.ref (ad 0), .int (nI (f)), .int (nI (x)), .int (nI (th)), .int (nI (bo)), .int (nI (h))] : List Value).toArray s = true := fun cq h => atoms_spec (ws := qX11_isRight) B.pre cq (List.mem_cons_of_mem _ h)
  have hown : s.vm.findClass RX11 = some m.cls := findClass_of_methodNamed B.named
  have hl := lv_entry ([.ref (ad 0), .int (nI (f)), .int (nI (x)), .int (nI (th)), .int (nI (bo)), .int (nI (h))]) (n := 6) (Nat.le_of_ble_eq_true rfl)
  rw [lg_entry_eq]
  generalize (lg_sl ([.ref (ad 0), .int (nI (f)), .int (nI (x)), .int (nI (th)), .int (nI (bo)), .int (nI (h))]) ++ List.replicate (6 - (lg_sl ([.ref (ad 0), .int (nI (f)), .int (nI (x)), .int (nI (th)), .int (nI (bo)), .int (nI (h))])).length) Slot.unset).toArray = ls at hl ⊢
  have hl : lv_has ls 6 [(0, .ref (ad 0)), (1, .int (nI (f))), (2, .int (nI (x))), (3, .int (nI (th))), (4, .int (nI (bo))), (5, .int (nI (h)))] := hl
  have hk := hw.2.2.2.1 f hf
  have hpd := pdA_le hw x h
  have hbt := bits_le x
  refine lv_aload_n hx hb dX11_isRight_0 rfl (lv_at hl 0 rfl) ?_
  refine lv_iload_n hx hb dX11_isRight_1 rfl (lv_at hl 1 rfl) ?_
  refine lv_iload_n hx hb dX11_isRight_2 rfl (lv_at hl 2 rfl) ?_
  refine lv_iload_n hx hb dX11_isRight_3 rfl (lv_at hl 3 rfl) ?_
  refine lv_iload hx hb dX11_isRight_4 (lv_at hl 4 rfl) ?_
  refine cr_v (n := 4) (As := [.int (nI (f)), .int (nI (x)), .int (nI (th)), .int (nI (bo))]) (rest := []) ⟨hx, hb, hml, hown, hts⟩ (k_X11_canBoard l D cy ad σ T f x th bo hw (by omega) (by omega) (by omega) (by omega)) gvX11_191 (by decide +kernel) ⟨Nat.le_of_ble_eq_true rfl, Nat.le_of_ble_eq_true rfl⟩ hK hN hP 0 (mw_c0 cy ad σ T) rfl rfl hl.1 rfl (Nat.le_of_ble_eq_true rfl) dX11_isRight_6 ⟨Nat.zero_le _, Nat.zero_le _⟩ ?_
  refine lb_if_eq (tgt := 49) hx hb dX11_isRight_9 (by decide) (fun c9 => ?_) (fun c9 => ?_)
  · refine lv_iconst (v := nI 0) hx hb dX11_isRight_49 (by decide) ?_
    refine ln_eq bI_f.symm ?_
    exact rt_z hx hb hr hlocks (by unfold isR; first | (rw [c9]; rfl) | (rw [c9, decide_eq_false (by omega)]; rfl) | (rw [c9, decide_eq_true (by omega), c42]; rfl)) dX11_isRight_50
  · refine lv_iload_n hx hb dX11_isRight_12 rfl (lv_at hl 2 rfl) ?_
    refine cr_s (n := 1) (As := [.int (nI (x))]) (rest := []) ⟨hx, hb, hml, hown, hts⟩ (k_X11_bits l x (by omega)) gsX11_195 (by decide +kernel) ⟨Nat.le_of_ble_eq_true rfl, Nat.le_of_ble_eq_true rfl⟩ rfl hl.1 rfl (Nat.le_of_ble_eq_true rfl) dX11_isRight_13 ⟨Nat.zero_le _, Nat.zero_le _⟩ ?_
    refine lv_aload_n hx hb dX11_isRight_16 rfl (lv_at hl 0 rfl) ?_
    refine va_get (D := D) (ci := 10) (v := .ref (ad 2)) (C := RX11) (T := TX11) (N := 31) hx hb hts ni11 hown hK hP 0 (mw_c0 cy ad σ T) rfl 3 (by decide) (hts _ flX11_13) (fun _ h => h) rfl dX11_isRight_17 ?_
    refine lv_iconst (v := nI 5) hx hb dX11_isRight_20 (by decide) ?_
    refine lv_iload_n hx hb dX11_isRight_21 rfl (lv_at hl 1 rfl) ?_
    refine ln_imul hx hb dX11_isRight_22 ?_
    refine lv_iconst (v := nI 3) hx hb dX11_isRight_23 (by decide) ?_
    refine ln_iadd hx hb dX11_isRight_24 ?_
    refine ln_iald (v := (nI (s_fe σ ((5 * f) + 3)))) hx hb hK hP 2 (mw_c2 cy ad σ T) (by omega) (by decide) rfl dX11_isRight_25 ?_
    refine ln_icmp_gt (tgt := 49) hx hb dX11_isRight_26 (by decide) (by omega) (by omega) (fun c26 => ?_) (fun c26 => ?_)
    · refine lv_iconst (v := nI 0) hx hb dX11_isRight_49 (by decide) ?_
      refine ln_eq bI_f.symm ?_
      exact rt_z hx hb hr hlocks (by unfold isR; first | (rw [c9]; rfl) | (rw [c9, decide_eq_false (by omega)]; rfl) | (rw [c9, decide_eq_true (by omega), c42]; rfl)) dX11_isRight_50
    · refine lv_aload_n hx hb dX11_isRight_29 rfl (lv_at hl 0 rfl) ?_
      refine lv_iload_n hx hb dX11_isRight_30 rfl (lv_at hl 1 rfl) ?_
      refine lv_aload_n hx hb dX11_isRight_31 rfl (lv_at hl 0 rfl) ?_
      refine lv_iload_n hx hb dX11_isRight_32 rfl (lv_at hl 2 rfl) ?_
      refine lv_iload hx hb dX11_isRight_33 (lv_at hl 5 rfl) ?_
      refine cr_v (n := 2) (As := [.int (nI (x)), .int (nI (h))]) (rest := [.int (nI (f)), .ref (ad 0)]) ⟨hx, hb, hml, hown, hts⟩ (k_X11_poundsOfAll l D cy ad σ T x h hw (by omega) (by omega)) gvX11_198 (by decide +kernel) ⟨Nat.le_of_ble_eq_true rfl, Nat.le_of_ble_eq_true rfl⟩ hK hN hP 0 (mw_c0 cy ad σ T) rfl rfl hl.1 rfl (Nat.le_of_ble_eq_true rfl) dX11_isRight_35 ⟨Nat.zero_le _, Nat.zero_le _⟩ ?_
      refine lv_iconst (v := nI 0) hx hb dX11_isRight_38 (by decide) ?_
      refine cr_v (n := 3) (As := [.int (nI (f)), .int (nI (pdA σ x h)), .int (nI (0))]) (rest := []) ⟨hx, hb, hml, hown, hts⟩ (k_X11_fitsBy l D cy ad σ T f (pdA σ x h) 0 hw (by omega) (by omega) (by omega)) gvX11_201 (by decide +kernel) ⟨Nat.le_of_ble_eq_true rfl, Nat.le_of_ble_eq_true rfl⟩ hK hN hP 0 (mw_c0 cy ad σ T) rfl rfl hl.1 rfl (Nat.le_of_ble_eq_true rfl) dX11_isRight_39 ⟨Nat.zero_le _, Nat.zero_le _⟩ ?_
      refine lb_if_eq (tgt := 49) hx hb dX11_isRight_42 (by decide) (fun c42 => ?_) (fun c42 => ?_)
      · refine lv_iconst (v := nI 0) hx hb dX11_isRight_49 (by decide) ?_
        refine ln_eq bI_f.symm ?_
        exact rt_z hx hb hr hlocks (by unfold isR; first | (rw [c9]; rfl) | (rw [c9, decide_eq_false (by omega)]; rfl) | (rw [c9, decide_eq_true (by omega), c42]; rfl)) dX11_isRight_50
      · refine lv_iconst (v := nI 1) hx hb dX11_isRight_45 (by decide) ?_
        refine lv_goto (tgt := 50) hx hb dX11_isRight_46 (by decide) ?_
        refine ln_eq bI_t.symm ?_
        exact rt_z hx hb hr hlocks (by unfold isR; first | (rw [c9]; rfl) | (rw [c9, decide_eq_false (by omega)]; rfl) | (rw [c9, decide_eq_true (by omega), c42]; rfl)) dX11_isRight_50
