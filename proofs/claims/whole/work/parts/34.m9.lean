def rdS (M : Nat → Nat) (D : Nat → Bool) (ma ah : Nat → Int32) : Prop := ∀ v, v < 2048 → ma v = nI (M v) ∧ ah v = bI (D v)
theorem rdS_ma {M : Nat → Nat} {D : Nat → Bool} {ma ah : Nat → Int32} (h : rdS M D ma ah) (a k : Nat) : rdS (updN M a k) D (upd ma a (nI k)) ah := fun v hv => by
  refine ⟨?_, (h v hv).2⟩
  unfold upd updN
  split
  · rfl
  · exact (h v hv).1
theorem rdS_ah {M : Nat → Nat} {D : Nat → Bool} {ma ah : Nat → Int32} (h : rdS M D ma ah) (a : Nat) : rdS M (updB D a true) ma (upd ah a (nI 1)) := fun v hv => by
  refine ⟨(h v hv).1, ?_⟩
  unfold upd updB
  split
  · rfl
  · exact (h v hv).2
theorem rdS_0 {ma ah : Nat → Int32} (h : ∀ v, v < 2048 → ma v = nI 1000000 ∧ ah v = nI 0) (s : Nat) : rdS (updN (fun _ => 1000000) s 0) (fun _ => false) (upd ma s (nI 0)) ah := rdS_ma (M := fun _ => 1000000) (fun v hv => ⟨(h v hv).1, (h v hv).2⟩) s 0
theorem dM_le {σ : Sg} {goal : Nat → Bool} {it : Nat} {M : Nat → Nat} {D : Nat → Bool} (h : dInv σ goal it M D) (v : Nat) : M v ≤ 1000000 := by
  have h1 := cntD_le D
  have h2 := h.2.2.2.2.2
  rcases h.1 v with q | ⟨q, -, -⟩ <;> omega
theorem selP_t {M : Nat → Nat} {D : Nat → Bool} {k : Nat} (a : D k = false) (b : M k < 1000000) : selP M D k = true := by rw [selP, a, decide_eq_true b]; rfl
theorem selP_f1 {M : Nat → Nat} {D : Nat → Bool} {k : Nat} (a : D k = true) : selP M D k = false := by rw [selP, a]; rfl
theorem selP_f2 {M : Nat → Nat} {D : Nat → Bool} {k : Nat} (b : 1000000 ≤ M k) : selP M D k = false := by rw [selP, decide_eq_false (by omega), Bool.and_false]
theorem rlX_1 (σ : Sg) (D : Nat → Bool) (a f : Nat) (M : Nat → Nat) : rlX σ D a f M 1 = M := by
  show rlE σ D a f 0 M = M
  rw [rlE, if_neg (by rw [edge_0]; exact fun q => absurd q.2.2 (by decide))]
theorem rlE_t {σ : Sg} {D : Nat → Bool} {a f x : Nat} {M : Nat → Nat} (h1 : D (stp a f x) = false) (h2 : M a + mi σ f < M (stp a f x)) (h3 : edge σ a f x = true) : updN M (stp a f x) (M a + mi σ f) = rlE σ D a f x M := by rw [rlE, if_pos ⟨h1, h2, h3⟩]
theorem rlE_f1 {σ : Sg} {D : Nat → Bool} {a f x : Nat} {M : Nat → Nat} (h1 : D (stp a f x) = true) : M = rlE σ D a f x M := by rw [rlE, if_neg (fun q => by rw [h1] at q; exact absurd q.1 (by decide))]
theorem rlE_f2 {σ : Sg} {D : Nat → Bool} {a f x : Nat} {M : Nat → Nat} (h2 : M (stp a f x) ≤ M a + mi σ f) : M = rlE σ D a f x M := by rw [rlE, if_neg (fun q => absurd q.2.1 (by omega))]
theorem rlE_f3 {σ : Sg} {D : Nat → Bool} {a f x : Nat} {M : Nat → Nat} (h3 : edge σ a f x = false) : M = rlE σ D a f x M := by rw [rlE, if_neg (fun q => by rw [h3] at q; exact absurd q.2.2 (by decide))]
set_option maxHeartbeats 4000000 in
set_option maxRecDepth 100000 in
theorem k_X11_soonest (l : Launch) (D : va_G) (cy : Nat → ClassId) (ad : Nat → Nat) (σ : Sg) (T : Ms) (sn bk : Int32) (hw : wfS σ) : MW l yX11_soonest qX11_soonest 4 [.ref (ad 0), .int (sn), .int (bk)] D cy (mw cy ad σ T) (fun (r : Int32) (_ : Ms) => a_soonI σ sn bk r) (fun u : Ms => mw cy ad (σ) u) := by
  intro sz
  refine Met.ofW (cc := cX11_soonest) (maxL := 7) (ret := (some .int)) (by decide) rfl ?_
  intro p e s m args below meth c s₁ B hml hv
  obtain ⟨rfl, rfl, hP, hK, hN, hD0⟩ := hv
  have hx := B.exec
  have hb := B.bytes
  have hr := B.returns
  have hlocks := B.notSynchronized
  have hts : ∀ cq ∈ tg, cq.before ([.ref (ad 0), .int (sn), .int (bk)] : List Value).toArray s = true := fun cq h => atoms_spec (ws := qX11_soonest) B.pre cq (List.mem_cons_of_mem _ h)
  have hown : s.vm.findClass RX11 = some m.cls := findClass_of_methodNamed B.named
  have hD := hD0.self (sz := s.heap.size)
  generalize hAe : va_A (mw cy ad σ T) s.heap.size = A at hD ⊢
  have hA : ∀ q : Nat, s.heap.size ≤ q → A q := fun q h => by rw [← hAe]; exact Or.inr h
  have hS : va_S A s.heap s.heap [] := va_S.rf
  have hl := lv_entry ([.ref (ad 0), .int (sn), .int (bk)]) (n := 7) (Nat.le_of_ble_eq_true rfl)
  rw [lg_entry_eq]
  generalize (lg_sl ([.ref (ad 0), .int (sn), .int (bk)]) ++ List.replicate (7 - (lg_sl ([.ref (ad 0), .int (sn), .int (bk)])).length) Slot.unset).toArray = ls at hl ⊢
  have hl : lv_has ls 7 [(0, .ref (ad 0)), (1, .int (sn)), (2, .int (bk))] := hl
  have hw1 := hw.1
  have hw2 := hw.2.1
  have hp8 := pw_8 hw1
  have hpp := pw_pos (s_n σ)
  have hov := ov_lt hw
  have hmo := mo_lt hw
  have hof := of_lt hw
  have hs0 := st0_lt hw
  have hpm : 2 ^ s_m σ ≤ 8 := pw_le (n := 3) hw2
  refine lv_aload_n hx hb dX11_soonest_0 rfl (lv_at hl 0 rfl) ?_
  refine lv_iload_n hx hb dX11_soonest_1 rfl (lv_at hl 1 rfl) ?_
  refine cr_v (n := 1) (As := [.int (sn)]) (rest := []) ⟨hx, hb, hml, hown, hts⟩ (k_X11_isSet l D cy ad σ T (sn) hw) gvX11_204 (by decide +kernel) ⟨Nat.le_of_ble_eq_true rfl, Nat.le_of_ble_eq_true rfl⟩ hK hN hP 0 (mw_c0 cy ad σ T) rfl rfl hl.1 rfl (Nat.le_of_ble_eq_true rfl) dX11_soonest_2 ⟨Nat.zero_le _, Nat.zero_le _⟩ ?_
  refine lb_if_eq (tgt := 15) hx hb dX11_soonest_5 (by decide) (fun c5 => ?_) (fun c5 => ?_)
  · refine lv_bipush (v := -2) hx hb dX11_soonest_15 (by decide) ?_
    exact rw_i hx hb hr hlocks hS T (by first | (rw [a_soonI, if_pos (by rw [c5]; rfl)]; done) | (rw [a_soonI, if_pos (by rw [c5, c12]; rfl)])) hP dX11_soonest_17
  · refine lv_iload_n hx hb dX11_soonest_8 rfl (lv_at hl 2 rfl) ?_
    refine cr_s (n := 1) (As := [.int (bk)]) (rest := []) ⟨hx, hb, hml, hown, hts⟩ (k_X11_isBank l (bk)) gsX11_214 (by decide +kernel) ⟨Nat.le_of_ble_eq_true rfl, Nat.le_of_ble_eq_true rfl⟩ rfl hl.1 rfl (Nat.le_of_ble_eq_true rfl) dX11_soonest_9 ⟨Nat.zero_le _, Nat.zero_le _⟩ ?_
    refine lb_if_ne (tgt := 18) hx hb dX11_soonest_12 (by decide) (fun c12 => ?_) (fun c12 => ?_)
    · obtain ⟨sn0, hsn, rfl⟩ := ix_of c5 (by omega)
      have hl : lv_has ls 7 [(0, .ref (ad 0)), (1, .int (nI (sn0))), (2, .int (bk))] := hl
      obtain ⟨b0, hb0, rfl⟩ := ix_of c12 (by omega)
      have hl : lv_has ls 7 [(0, .ref (ad 0)), (1, .int (nI (sn0))), (2, .int (nI (b0)))] := hl
      refine lv_iconst (v := nI 0) hx hb dX11_soonest_18 (by decide) ?_
      refine lv_istore_n (lv' := [(3, .int (nI (0))), (0, .ref (ad 0)), (1, .int (nI (sn0))), (2, .int (nI (b0)))]) hx hb dX11_soonest_19 rfl hl (by decide) rfl (fun ls hl => ?_)
      have l0 : ∀ (k_l0 j : Nat) (ls : Array Slot) (H : Heap) (locs : List Loc) (ma ah : Nat → Int32), j + k_l0 = 2048 → (∀ v, v < j → ma v = nI 1000000 ∧ ah v = nI 0) → va_P D vwCl (mw cy ad σ (mu_ah (mu_ma T ma) ah)) H → va_D A (mw cy ad σ (mu_ah (mu_ma T ma) ah)) → va_S A s.heap H locs → lv_has ls 7 [(3, .int (nI (j))), (0, .ref (ad 0)), (1, .int (nI (sn0))), (2, .int (nI (b0)))] → W p l e (headSpec qX11_soonest (rq 4)).room s m ([.ref (ad 0), .int (nI (sn0)), .int (nI (b0))] : List Value).toArray below meth c H locs 0 0 (MQ below (va_Qi (fun (r : Int32) (_ : Ms) => a_soonI σ (nI sn0) (nI b0) r) (fun u t => va_P D vwCl ((fun u : Ms => mw cy ad (σ) u) u) t.heap) A) ([.ref (ad 0), .int (nI (sn0)), .int (nI (b0))] : List Value).toArray s 0 0 A) (F0 m 20 ls []) := by
        intro k_l0
        induction k_l0 with
        | zero =>
          intro j ls H locs ma ah hi_l0 hm1 hP hD hS hl
          refine lv_iload_n hx hb dX11_soonest_20 rfl (lv_at hl 0 rfl) ?_
          refine lv_sipush (v := nI 2048) hx hb dX11_soonest_21 (by decide) ?_
          refine ln_icmp_ge (tgt := 48) hx hb dX11_soonest_24 (by decide) (by omega) (by omega) (fun c24 => ?_) (fun c24 => ?_)
          · have hm2 : ∀ v, v < 2048 → ma v = nI 1000000 ∧ ah v = nI 0 := fun v hv => hm1 v (by omega)
            refine lv_aload_n hx hb dX11_soonest_48 rfl (lv_at hl 1 rfl) ?_
            refine va_get (D := D) (ci := 10) (v := .ref (ad 9)) (C := RX11) (T := TX11) (N := 31) hx hb hts ni11 hown hK hP 0 (mw_c0 cy ad σ (mu_ah (mu_ma T ma) ah)) rfl 26 (by decide) (hts _ flX11_35) (fun _ h => h) rfl dX11_soonest_49 ?_
            refine lv_sipush (v := nI 256) hx hb dX11_soonest_52 (by decide) ?_
            refine lv_aload_n hx hb dX11_soonest_55 rfl (lv_at hl 1 rfl) ?_
            refine va_get (D := D) (ci := 10) (v := .int (nI (s_mo σ))) (C := RX11) (T := TX11) (N := 31) hx hb hts ni11 hown hK hP 0 (mw_c0 cy ad σ (mu_ah (mu_ma T ma) ah)) rfl 18 (by decide) (hts _ flX11_158) (fun _ h => h) rfl dX11_soonest_56 ?_
            refine ln_imul hx hb dX11_soonest_59 ?_
            refine lv_aload_n hx hb dX11_soonest_60 rfl (lv_at hl 1 rfl) ?_
            refine va_get (D := D) (ci := 10) (v := .int (nI (s_ov σ))) (C := RX11) (T := TX11) (N := 31) hx hb hts ni11 hown hK hP 0 (mw_c0 cy ad σ (mu_ah (mu_ma T ma) ah)) rfl 17 (by decide) (hts _ flX11_155) (fun _ h => h) rfl dX11_soonest_61 ?_
            refine ln_iadd hx hb dX11_soonest_64 ?_
            refine ln_nat (show (256 * (s_mo σ)) + (s_ov σ) = st0 σ from rfl) ?_
            refine lv_iconst (v := nI 0) hx hb dX11_soonest_65 (by decide) ?_
            refine ln_iast hx hb hK hP hD hS 9 (mw_c9 cy ad σ (mu_ah (mu_ma T ma) ah)) (by omega) (by decide) ((mp_9 cy ad σ (mu_ah (mu_ma T ma) ah) (st0 σ) (nI (0))).trans (congrArg (fun z => mw cy ad σ z) (by rw [mx_ma_ah, mc_ma]))) dX11_soonest_66 (fun H locs hP hD hS => ?_)
            have lp : ∀ (k it : Nat) (ls : Array Slot) (H : Heap) (locs : List Loc) (M : Nat → Nat) (Z : Nat → Bool) (ma ah : Nat → Int32), it + k = 2049 → dInv σ (goalN sn0 b0) it M Z → rdS M Z ma ah → va_P D vwCl (mw cy ad σ (mu_ah (mu_ma T ma) ah)) H → va_D A (mw cy ad σ (mu_ah (mu_ma T ma) ah)) → va_S A s.heap H locs → lv_has ls 7 [(0, .ref (ad 0)), (1, .int (nI (sn0))), (2, .int (nI (b0)))] → W p l e (headSpec qX11_soonest (rq 4)).room s m ([.ref (ad 0), .int (nI (sn0)), .int (nI (b0))] : List Value).toArray below meth c H locs 0 0 (MQ below (va_Qi (fun (r : Int32) (_ : Ms) => a_soonI σ (nI sn0) (nI b0) r) (fun u t => va_P D vwCl ((fun u : Ms => mw cy ad (σ) u) u) t.heap) A) ([.ref (ad 0), .int (nI (sn0)), .int (nI (b0))] : List Value).toArray s 0 0 A) (F0 m 67 ls []) := by
              intro k
              induction k with
              | zero =>
                intro it ls H locs M Z ma ah hi hI hra hP hD hS hl
                exact absurd (cntD_le Z) (by rw [hI.2.2.2.2.2]; omega)
              | succ k ih =>
                intro it ls H locs M Z ma ah hi hI hra hP hD hS hl
                have hMl := dM_le hI
                refine lv_iconst (v := -1) hx hb dX11_soonest_67 (by decide) ?_
                refine lv_istore_n (lv' := [(3, .int (-1)), (0, .ref (ad 0)), (1, .int (nI (sn0))), (2, .int (nI (b0)))]) hx hb dX11_soonest_68 rfl hl (by decide) rfl (fun ls hl => ?_)
                refine lv_iconst (v := nI 0) hx hb dX11_soonest_69 (by decide) ?_
                refine lv_istore (lv' := [(4, .int (nI (0))), (3, .int (-1)), (0, .ref (ad 0)), (1, .int (nI (sn0))), (2, .int (nI (b0)))]) hx hb dX11_soonest_70 hl (by decide) rfl (fun ls hl => ?_)
                have lk : ∀ (k_lk i : Nat) (ls : Array Slot)  , i + k_lk = 256 * 2 ^ s_m σ → lv_has ls 7 [(4, .int (nI (i))), (3, .int (oI (lwt (selP M Z) M i))), (0, .ref (ad 0)), (1, .int (nI (sn0))), (2, .int (nI (b0)))] → W p l e (headSpec qX11_soonest (rq 4)).room s m ([.ref (ad 0), .int (nI (sn0)), .int (nI (b0))] : List Value).toArray below meth c H locs 0 0 (MQ below (va_Qi (fun (r : Int32) (_ : Ms) => a_soonI σ (nI sn0) (nI b0) r) (fun u t => va_P D vwCl ((fun u : Ms => mw cy ad (σ) u) u) t.heap) A) ([.ref (ad 0), .int (nI (sn0)), .int (nI (b0))] : List Value).toArray s 0 0 A) (F0 m 72 ls []) := by
                  intro k_lk
                  induction k_lk with
                  | zero =>
                    intro i ls hi_lk hl
                    have hMi := hMl i
                    refine lv_iload hx hb dX11_soonest_72 (lv_at hl 0 rfl) ?_
                    refine lv_sipush (v := nI 256) hx hb dX11_soonest_74 (by decide) ?_
                    refine lv_aload_n hx hb dX11_soonest_77 rfl (lv_at hl 2 rfl) ?_
                    refine va_get (D := D) (ci := 10) (v := .int (nI (s_m σ))) (C := RX11) (T := TX11) (N := 31) hx hb hts ni11 hown hK hP 0 (mw_c0 cy ad σ (mu_ah (mu_ma T ma) ah)) rfl 2 (by decide) (hts _ flX11_55) (fun _ h => h) rfl dX11_soonest_78 ?_
                    refine ln_ishl hx hb dX11_soonest_81 (by omega) (by omega) ?_
                    refine ln_icmp_ge (tgt := 141) hx hb dX11_soonest_82 (by decide) (by omega) (by omega) (fun c82 => ?_) (fun c82 => ?_)
                    · rw [show i = 256 * 2 ^ s_m σ by omega] at hl
                      have hl : lv_has ls 7 [(3, .int (oI (sel σ M Z))), (0, .ref (ad 0)), (1, .int (nI (sn0))), (2, .int (nI (b0)))] := lv_sub hl [1, 2, 3, 4] rfl
                      rcases hqa : sel σ M Z with _ | a
                      · rw [hqa] at hl
                        have hl : lv_has ls 7 [(3, .int (-1)), (0, .ref (ad 0)), (1, .int (nI (sn0))), (2, .int (nI (b0)))] := hl
                        refine lv_iload_n hx hb dX11_soonest_141 rfl (lv_at hl 0 rfl) ?_
                        refine lv_iconst (v := -1) hx hb dX11_soonest_142 (by decide) ?_
                        refine lv_icmp_eq (tgt := 159) hx hb dX11_soonest_143 (by decide) (fun _ => ?_) (fun c => absurd rfl c)
                        have hsel := hqa
                        refine lv_iload_n hx hb dX11_soonest_159 rfl (lv_at hl 0 rfl) ?_
                        refine lv_iconst (v := -1) hx hb dX11_soonest_160 (by decide) ?_
                        refine lv_icmp_ne (tgt := 168) hx hb dX11_soonest_161 (by decide) (fun c => absurd rfl c) (fun _ => ?_)
                        refine lv_iconst (v := -1) hx hb dX11_soonest_164 (by decide) ?_
                        refine lv_goto (tgt := 174) hx hb dX11_soonest_165 (by decide) ?_
                        exact rw_i hx hb hr hlocks hS (mu_ah (mu_ma T ma) ah) (by rw [a_soonI, if_neg (by rw [c5, c12]; decide), tk_nI (k := sn0) (by omega), tk_nI (k := b0) (by omega)]; exact Or.inr ⟨rfl, pth_no hw hI hsel⟩) hP dX11_soonest_174
                      · rw [hqa] at hl
                        have hl : lv_has ls 7 [(3, .int (nI (a))), (0, .ref (ad 0)), (1, .int (nI (sn0))), (2, .int (nI (b0)))] := hl
                        have hlta := lwt_lt hqa
                        refine lv_iload_n hx hb dX11_soonest_141 rfl (lv_at hl 0 rfl) ?_
                        refine lv_iconst (v := -1) hx hb dX11_soonest_142 (by decide) ?_
                        refine lv_icmp_eq (tgt := 159) hx hb dX11_soonest_143 (by decide) (fun c => absurd c (m1_ne _ (by omega))) (fun _ => ?_)
                        have hss := sel_some hI hqa
                        have hMa := hMl a
                        have ha255 : a &&& 255 < 256 := Nat.lt_of_le_of_lt Nat.and_le_right (by decide)
                        refine lv_iload_n hx hb dX11_soonest_146 rfl (lv_at hl 0 rfl) ?_
                        refine lv_sipush (v := nI 255) hx hb dX11_soonest_147 (by decide) ?_
                        refine ln_iand hx hb dX11_soonest_150 ?_
                        refine lv_iload_n hx hb dX11_soonest_151 rfl (lv_at hl 2 rfl) ?_
                        refine lv_iload_n hx hb dX11_soonest_152 rfl (lv_at hl 3 rfl) ?_
                        refine cr_s (n := 3) (As := [.int (nI (a &&& 255)), .int (nI (sn0)), .int (nI (b0))]) (rest := []) ⟨hx, hb, hml, hown, hts⟩ (k_X11_isOver l (a &&& 255) sn0 b0 (by omega) (by omega) (by omega)) gsX11_217 (by decide +kernel) ⟨Nat.le_of_ble_eq_true rfl, Nat.le_of_ble_eq_true rfl⟩ rfl hl.1 rfl (Nat.le_of_ble_eq_true rfl) dX11_soonest_153 ⟨Nat.zero_le _, Nat.zero_le _⟩ ?_
                        refine lb_if_eq (tgt := 175) hx hb dX11_soonest_156 (by decide) (fun c156 => ?_) (fun c156 => ?_)
                        · refine lv_aload_n hx hb dX11_soonest_175 rfl (lv_at hl 1 rfl) ?_
                          refine va_get (D := D) (ci := 10) (v := .ref (ad 10)) (C := RX11) (T := TX11) (N := 31) hx hb hts ni11 hown hK hP 0 (mw_c0 cy ad σ (mu_ah (mu_ma T ma) ah)) rfl 27 (by decide) (hts _ flX11_38) (fun _ h => h) rfl dX11_soonest_176 ?_
                          refine lv_iload_n hx hb dX11_soonest_179 rfl (lv_at hl 0 rfl) ?_
                          refine lv_iconst (v := nI 1) hx hb dX11_soonest_180 (by decide) ?_
                          refine ln_iast hx hb hK hP hD hS 10 (mw_c10 cy ad σ (mu_ah (mu_ma T ma) ah)) (by omega) (by decide) ((mp_10 cy ad σ (mu_ah (mu_ma T ma) ah) a (nI (1))).trans (congrArg (fun z => mw cy ad σ z) (by rw [mc_ah]))) dX11_soonest_181 (fun H locs hP hD hS => ?_)
                          have hra := rdS_ah hra a
                          have hDa : updB Z a true a = true := by rw [updB, if_pos rfl]
                          have hI2 := d_step hw hI hqa c156
                          refine lv_iconst (v := nI 0) hx hb dX11_soonest_182 (by decide) ?_
                          refine lv_istore (lv' := [(4, .int (nI (0))), (3, .int (nI (a))), (0, .ref (ad 0)), (1, .int (nI (sn0))), (2, .int (nI (b0)))]) hx hb dX11_soonest_183 hl (by decide) rfl (fun ls hl => ?_)
                          have lf : ∀ (k_lf f : Nat) (ls : Array Slot) (H : Heap) (locs : List Loc) (ma ah : Nat → Int32), f + k_lf = s_m σ → rdS (rlF σ (updB Z a true) a M f) (updB Z a true) ma ah → va_P D vwCl (mw cy ad σ (mu_ah (mu_ma T ma) ah)) H → va_D A (mw cy ad σ (mu_ah (mu_ma T ma) ah)) → va_S A s.heap H locs → lv_has ls 7 [(4, .int (nI (f))), (3, .int (nI (a))), (0, .ref (ad 0)), (1, .int (nI (sn0))), (2, .int (nI (b0)))] → W p l e (headSpec qX11_soonest (rq 4)).room s m ([.ref (ad 0), .int (nI (sn0)), .int (nI (b0))] : List Value).toArray below meth c H locs 0 0 (MQ below (va_Qi (fun (r : Int32) (_ : Ms) => a_soonI σ (nI sn0) (nI b0) r) (fun u t => va_P D vwCl ((fun u : Ms => mw cy ad (σ) u) u) t.heap) A) ([.ref (ad 0), .int (nI (sn0)), .int (nI (b0))] : List Value).toArray s 0 0 A) (F0 m 185 ls []) := by
                            intro k_lf
                            induction k_lf with
                            | zero =>
                              intro f ls H locs ma ah hi_lf hra hP hD hS hl
                              have hF := rlF_ok (σ := σ) (D := updB Z a true) (M := M) hDa (f := f) (by omega)
                              refine lv_iload hx hb dX11_soonest_185 (lv_at hl 0 rfl) ?_
                              refine lv_aload_n hx hb dX11_soonest_187 rfl (lv_at hl 2 rfl) ?_
                              refine va_get (D := D) (ci := 10) (v := .int (nI (s_m σ))) (C := RX11) (T := TX11) (N := 31) hx hb hts ni11 hown hK hP 0 (mw_c0 cy ad σ (mu_ah (mu_ma T ma) ah)) rfl 2 (by decide) (hts _ flX11_55) (fun _ h => h) rfl dX11_soonest_188 ?_
                              refine ln_icmp_ge (tgt := 320) hx hb dX11_soonest_191 (by decide) (by omega) (by omega) (fun c191 => ?_) (fun c191 => ?_)
                              · rw [show f = s_m σ by omega] at hra
                                refine lv_goto (tgt := 67) hx hb dX11_soonest_320 (by decide) ?_
                                exact ih (it + 1) ls _ _ _ _ _ _ (by omega) hI2 hra hP hD hS (lv_sub hl [2, 3, 4] rfl)
                              · exact absurd c191 (by omega)
                            | succ k_lf ih_lf =>
                              intro f ls H locs ma ah hi_lf hra hP hD hS hl
                              have hF := rlF_ok (σ := σ) (D := updB Z a true) (M := M) hDa (f := f) (by omega)
                              refine lv_iload hx hb dX11_soonest_185 (lv_at hl 0 rfl) ?_
                              refine lv_aload_n hx hb dX11_soonest_187 rfl (lv_at hl 2 rfl) ?_
                              refine va_get (D := D) (ci := 10) (v := .int (nI (s_m σ))) (C := RX11) (T := TX11) (N := 31) hx hb hts ni11 hown hK hP 0 (mw_c0 cy ad σ (mu_ah (mu_ma T ma) ah)) rfl 2 (by decide) (hts _ flX11_55) (fun _ h => h) rfl dX11_soonest_188 ?_
                              refine ln_icmp_ge (tgt := 320) hx hb dX11_soonest_191 (by decide) (by omega) (by omega) (fun c191 => ?_) (fun c191 => ?_)
                              · exact absurd c191 (by omega)
                              · refine lv_iconst (v := nI 1) hx hb dX11_soonest_194 (by decide) ?_
                                refine lv_istore (lv' := [(5, .int (nI (1))), (4, .int (nI (f))), (3, .int (nI (a))), (0, .ref (ad 0)), (1, .int (nI (sn0))), (2, .int (nI (b0)))]) hx hb dX11_soonest_195 hl (by decide) rfl (fun ls hl => ?_)
                                have lx : ∀ (k_lx x : Nat) (ls : Array Slot) (H : Heap) (locs : List Loc) (ma ah : Nat → Int32), x + k_lx = 2 ^ s_n σ → 1 ≤ x → rdS (rlX σ (updB Z a true) a f (rlF σ (updB Z a true) a M f) x) (updB Z a true) ma ah → va_P D vwCl (mw cy ad σ (mu_ah (mu_ma T ma) ah)) H → va_D A (mw cy ad σ (mu_ah (mu_ma T ma) ah)) → va_S A s.heap H locs → lv_has ls 7 [(5, .int (nI (x))), (4, .int (nI (f))), (3, .int (nI (a))), (0, .ref (ad 0)), (1, .int (nI (sn0))), (2, .int (nI (b0)))] → W p l e (headSpec qX11_soonest (rq 4)).room s m ([.ref (ad 0), .int (nI (sn0)), .int (nI (b0))] : List Value).toArray below meth c H locs 0 0 (MQ below (va_Qi (fun (r : Int32) (_ : Ms) => a_soonI σ (nI sn0) (nI b0) r) (fun u t => va_P D vwCl ((fun u : Ms => mw cy ad (σ) u) u) t.heap) A) ([.ref (ad 0), .int (nI (sn0)), .int (nI (b0))] : List Value).toArray s 0 0 A) (F0 m 197 ls []) := by
                                  intro k_lx
                                  induction k_lx with
                                  | zero =>
                                    intro x ls H locs ma ah hi_lx hx1 hra hP hD hS hl
                                    have hX := rlX_ok hF hDa (f := f) (by omega) (x := x) (by omega)
                                    have hXa := hX.1
                                    have hmi := mi_le hw (f := f) (by omega)
                                    have hpf := pw_lt8 (k := f) (by omega)
                                    refine lv_iload hx hb dX11_soonest_197 (lv_at hl 0 rfl) ?_
                                    refine lv_iconst (v := nI 1) hx hb dX11_soonest_199 (by decide) ?_
                                    refine lv_aload_n hx hb dX11_soonest_200 rfl (lv_at hl 3 rfl) ?_
                                    refine va_get (D := D) (ci := 10) (v := .int (nI (s_n σ))) (C := RX11) (T := TX11) (N := 31) hx hb hts ni11 hown hK hP 0 (mw_c0 cy ad σ (mu_ah (mu_ma T ma) ah)) rfl 0 (by decide) (hts _ flX11_47) (fun _ h => h) rfl dX11_soonest_201 ?_
                                    refine ln_ishl hx hb dX11_soonest_204 (by omega) (by omega) ?_
                                    refine ln_icmp_ge (tgt := 314) hx hb dX11_soonest_205 (by decide) (by omega) (by omega) (fun c205 => ?_) (fun c205 => ?_)
                                    · refine ln_iinc (lv' := [(4, .int (nI (f + 1))), (5, .int (nI (x))), (3, .int (nI (a))), (0, .ref (ad 0)), (1, .int (nI (sn0))), (2, .int (nI (b0)))]) hx hb dX11_soonest_314 hl (k := 1) (n := 1) rfl (by decide) rfl (fun ls hl => ?_)
                                      refine lv_goto (tgt := 185) hx hb dX11_soonest_317 (by decide) ?_
                                      have hl : lv_has ls 7 [(4, .int (nI (f + 1))), (3, .int (nI (a))), (0, .ref (ad 0)), (1, .int (nI (sn0))), (2, .int (nI (b0)))] := lv_sub hl [0, 2, 3, 4, 5] rfl
                                      exact ih_lf (f + 1) ls _ _ _ _ (by omega) (by rw [show x = 2 ^ s_n σ by omega] at hra; exact hra) hP hD hS hl
                                    · exact absurd c205 (by omega)
                                  | succ k_lx ih_lx =>
                                    intro x ls H locs ma ah hi_lx hx1 hra hP hD hS hl
                                    have hX := rlX_ok hF hDa (f := f) (by omega) (x := x) (by omega)
                                    have hXa := hX.1
                                    have hmi := mi_le hw (f := f) (by omega)
                                    have hpf := pw_lt8 (k := f) (by omega)
                                    refine lv_iload hx hb dX11_soonest_197 (lv_at hl 0 rfl) ?_
                                    refine lv_iconst (v := nI 1) hx hb dX11_soonest_199 (by decide) ?_
                                    refine lv_aload_n hx hb dX11_soonest_200 rfl (lv_at hl 3 rfl) ?_
                                    refine va_get (D := D) (ci := 10) (v := .int (nI (s_n σ))) (C := RX11) (T := TX11) (N := 31) hx hb hts ni11 hown hK hP 0 (mw_c0 cy ad σ (mu_ah (mu_ma T ma) ah)) rfl 0 (by decide) (hts _ flX11_47) (fun _ h => h) rfl dX11_soonest_201 ?_
                                    refine ln_ishl hx hb dX11_soonest_204 (by omega) (by omega) ?_
                                    refine ln_icmp_ge (tgt := 314) hx hb dX11_soonest_205 (by decide) (by omega) (by omega) (fun c205 => ?_) (fun c205 => ?_)
                                    · exact absurd c205 (by omega)
                                    · refine lv_iload_n hx hb dX11_soonest_208 rfl (lv_at hl 2 rfl) ?_
                                      refine lv_iload hx hb dX11_soonest_209 (lv_at hl 0 rfl) ?_
                                      refine ln_ixor hx hb dX11_soonest_211 ?_
                                      refine lv_sipush (v := nI 256) hx hb dX11_soonest_212 (by decide) ?_
                                      refine lv_iload hx hb dX11_soonest_215 (lv_at hl 1 rfl) ?_
                                      refine ln_ishl hx hb dX11_soonest_217 (by omega) (by omega) ?_
                                      refine ln_ixor hx hb dX11_soonest_218 ?_
                                      refine ln_nat (show (a ^^^ x) ^^^ (256 * 2 ^ f) = stp a f x from rfl) ?_
                                      have hto := stp_lt (show a < 2048 by omega) (show f < 3 by omega) (show x < 256 by omega)
                                      have hXt := hX.2.1 (stp a f x)
                                      have hMt := hMl (stp a f x)
                                      refine lv_istore (lv' := [(6, .int (nI (stp a f x))), (5, .int (nI (x))), (4, .int (nI (f))), (3, .int (nI (a))), (0, .ref (ad 0)), (1, .int (nI (sn0))), (2, .int (nI (b0)))]) hx hb dX11_soonest_219 hl (by decide) rfl (fun ls hl => ?_)
                                      refine lv_aload_n hx hb dX11_soonest_221 rfl (lv_at hl 4 rfl) ?_
                                      refine va_get (D := D) (ci := 10) (v := .ref (ad 10)) (C := RX11) (T := TX11) (N := 31) hx hb hts ni11 hown hK hP 0 (mw_c0 cy ad σ (mu_ah (mu_ma T ma) ah)) rfl 27 (by decide) (hts _ flX11_38) (fun _ h => h) rfl dX11_soonest_222 ?_
                                      refine lv_iload hx hb dX11_soonest_225 (lv_at hl 0 rfl) ?_
                                      refine ln_iald (v := (ah (stp a f x))) hx hb hK hP 10 (mw_c10 cy ad σ (mu_ah (mu_ma T ma) ah)) (by omega) (by decide) rfl dX11_soonest_227 ?_
                                      refine ln_eq (show (ah (stp a f x)) = (bI (updB Z a true (stp a f x))) from (hra _ hto).2) ?_
                                      refine lb_if_ne (tgt := 308) hx hb dX11_soonest_228 (by decide) (fun c228 => ?_) (fun c228 => ?_)
                                      · refine ln_iinc (lv' := [(5, .int (nI (x + 1))), (6, .int (nI (stp a f x))), (4, .int (nI (f))), (3, .int (nI (a))), (0, .ref (ad 0)), (1, .int (nI (sn0))), (2, .int (nI (b0)))]) hx hb dX11_soonest_308 hl (k := 1) (n := 1) rfl (by decide) rfl (fun ls hl => ?_)
                                        refine lv_goto (tgt := 197) hx hb dX11_soonest_311 (by decide) ?_
                                        have hl : lv_has ls 7 [(5, .int (nI (x + 1))), (4, .int (nI (f))), (3, .int (nI (a))), (0, .ref (ad 0)), (1, .int (nI (sn0))), (2, .int (nI (b0)))] := lv_sub hl [0, 2, 3, 4, 5, 6] rfl
                                        exact ih_lx (x + 1) ls _ _ _ _ (by omega) (by omega) (by first | (show rdS (rlE _ _ _ _ _ _) _ _ _; rw [← rlE_t c228 c256 c280]; exact rdS_ma hra _ _) | (show rdS (rlE _ _ _ _ _ _) _ _ _; rw [← rlE_f1 c228]; exact hra) | (show rdS (rlE _ _ _ _ _ _) _ _ _; rw [← rlE_f2 c256]; exact hra) | (show rdS (rlE _ _ _ _ _ _) _ _ _; rw [← rlE_f3 c280]; exact hra)) hP hD hS hl
                                      · refine lv_aload_n hx hb dX11_soonest_231 rfl (lv_at hl 4 rfl) ?_
                                        refine va_get (D := D) (ci := 10) (v := .ref (ad 9)) (C := RX11) (T := TX11) (N := 31) hx hb hts ni11 hown hK hP 0 (mw_c0 cy ad σ (mu_ah (mu_ma T ma) ah)) rfl 26 (by decide) (hts _ flX11_35) (fun _ h => h) rfl dX11_soonest_232 ?_
                                        refine lv_iload_n hx hb dX11_soonest_235 rfl (lv_at hl 3 rfl) ?_
                                        refine ln_iald (v := (ma a)) hx hb hK hP 9 (mw_c9 cy ad σ (mu_ah (mu_ma T ma) ah)) (by omega) (by decide) rfl dX11_soonest_236 ?_
                                        refine ln_eq (show (ma a) = (nI ((rlX σ (updB Z a true) a f (rlF σ (updB Z a true) a M f) x) a)) from (hra a (by omega)).1) ?_
                                        refine lv_aload_n hx hb dX11_soonest_237 rfl (lv_at hl 4 rfl) ?_
                                        refine va_get (D := D) (ci := 10) (v := .ref (ad 2)) (C := RX11) (T := TX11) (N := 31) hx hb hts ni11 hown hK hP 0 (mw_c0 cy ad σ (mu_ah (mu_ma T ma) ah)) rfl 3 (by decide) (hts _ flX11_13) (fun _ h => h) rfl dX11_soonest_238 ?_
                                        refine lv_iconst (v := nI 5) hx hb dX11_soonest_241 (by decide) ?_
                                        refine lv_iload hx hb dX11_soonest_242 (lv_at hl 2 rfl) ?_
                                        refine ln_imul hx hb dX11_soonest_244 ?_
                                        refine lv_iconst (v := nI 4) hx hb dX11_soonest_245 (by decide) ?_
                                        refine ln_iadd hx hb dX11_soonest_246 ?_
                                        refine ln_iald (v := (nI (s_fe σ ((5 * f) + 4)))) hx hb hK hP 2 (mw_c2 cy ad σ (mu_ah (mu_ma T ma) ah)) (by omega) (by decide) rfl dX11_soonest_247 ?_
                                        refine ln_nat (show s_fe σ ((5 * f) + 4) = mi σ f from rfl) ?_
                                        refine ln_iadd hx hb dX11_soonest_248 ?_
                                        refine lv_aload_n hx hb dX11_soonest_249 rfl (lv_at hl 4 rfl) ?_
                                        refine va_get (D := D) (ci := 10) (v := .ref (ad 9)) (C := RX11) (T := TX11) (N := 31) hx hb hts ni11 hown hK hP 0 (mw_c0 cy ad σ (mu_ah (mu_ma T ma) ah)) rfl 26 (by decide) (hts _ flX11_35) (fun _ h => h) rfl dX11_soonest_250 ?_
                                        refine lv_iload hx hb dX11_soonest_253 (lv_at hl 0 rfl) ?_
                                        refine ln_iald (v := (ma (stp a f x))) hx hb hK hP 9 (mw_c9 cy ad σ (mu_ah (mu_ma T ma) ah)) (by omega) (by decide) rfl dX11_soonest_255 ?_
                                        refine ln_eq (show (ma (stp a f x)) = (nI ((rlX σ (updB Z a true) a f (rlF σ (updB Z a true) a M f) x) (stp a f x))) from (hra _ hto).1) ?_
                                        refine ln_icmp_ge (tgt := 308) hx hb dX11_soonest_256 (by decide) (by omega) (by omega) (fun c256 => ?_) (fun c256 => ?_)
                                        · refine ln_iinc (lv' := [(5, .int (nI (x + 1))), (6, .int (nI (stp a f x))), (4, .int (nI (f))), (3, .int (nI (a))), (0, .ref (ad 0)), (1, .int (nI (sn0))), (2, .int (nI (b0)))]) hx hb dX11_soonest_308 hl (k := 1) (n := 1) rfl (by decide) rfl (fun ls hl => ?_)
                                          refine lv_goto (tgt := 197) hx hb dX11_soonest_311 (by decide) ?_
                                          have hl : lv_has ls 7 [(5, .int (nI (x + 1))), (4, .int (nI (f))), (3, .int (nI (a))), (0, .ref (ad 0)), (1, .int (nI (sn0))), (2, .int (nI (b0)))] := lv_sub hl [0, 2, 3, 4, 5, 6] rfl
                                          exact ih_lx (x + 1) ls _ _ _ _ (by omega) (by omega) (by first | (show rdS (rlE _ _ _ _ _ _) _ _ _; rw [← rlE_t c228 c256 c280]; exact rdS_ma hra _ _) | (show rdS (rlE _ _ _ _ _ _) _ _ _; rw [← rlE_f1 c228]; exact hra) | (show rdS (rlE _ _ _ _ _ _) _ _ _; rw [← rlE_f2 c256]; exact hra) | (show rdS (rlE _ _ _ _ _ _) _ _ _; rw [← rlE_f3 c280]; exact hra)) hP hD hS hl
                                        · refine lv_aload_n hx hb dX11_soonest_259 rfl (lv_at hl 4 rfl) ?_
                                          refine lv_iload hx hb dX11_soonest_260 (lv_at hl 2 rfl) ?_
                                          refine lv_iload hx hb dX11_soonest_262 (lv_at hl 1 rfl) ?_
                                          refine lv_iload_n hx hb dX11_soonest_264 rfl (lv_at hl 3 rfl) ?_
                                          refine lv_sipush (v := nI 255) hx hb dX11_soonest_265 (by decide) ?_
                                          refine ln_iand hx hb dX11_soonest_268 ?_
                                          refine lv_iload_n hx hb dX11_soonest_269 rfl (lv_at hl 3 rfl) ?_
                                          refine lv_bipush (v := nI 8) hx hb dX11_soonest_270 (by decide) ?_
                                          refine ln_ishr hx hb dX11_soonest_272 (by omega) (by omega) ?_
                                          refine lv_aload_n hx hb dX11_soonest_273 rfl (lv_at hl 4 rfl) ?_
                                          refine va_get (D := D) (ci := 10) (v := .int (nI (s_of σ))) (C := RX11) (T := TX11) (N := 31) hx hb hts ni11 hown hK hP 0 (mw_c0 cy ad σ (mu_ah (mu_ma T ma) ah)) rfl 19 (by decide) (hts _ flX11_161) (fun _ h => h) rfl dX11_soonest_274 ?_
                                          refine cr_v (n := 5) (As := [.int (nI (f)), .int (nI (x)), .int (nI (a &&& 255)), .int (nI (a / 2 ^ 8)), .int (nI (s_of σ))]) (rest := []) ⟨hx, hb, hml, hown, hts⟩ (k_X11_isRight l D cy ad σ (mu_ah (mu_ma T ma) ah) f x (a &&& 255) (a / 2 ^ 8) (s_of σ) hw (by omega) (by omega) (by omega) (by omega) (by omega)) gvX11_207 (by decide +kernel) ⟨Nat.le_of_ble_eq_true rfl, Nat.le_of_ble_eq_true rfl⟩ hK hN hP 0 (mw_c0 cy ad σ (mu_ah (mu_ma T ma) ah)) rfl rfl hl.1 rfl (Nat.le_of_ble_eq_true rfl) dX11_soonest_277 ⟨Nat.zero_le _, Nat.zero_le _⟩ ?_
                                          refine lb_if_eq (tgt := 308) hx hb dX11_soonest_280 (by decide) (fun c280 => ?_) (fun c280 => ?_)
                                          · refine ln_iinc (lv' := [(5, .int (nI (x + 1))), (6, .int (nI (stp a f x))), (4, .int (nI (f))), (3, .int (nI (a))), (0, .ref (ad 0)), (1, .int (nI (sn0))), (2, .int (nI (b0)))]) hx hb dX11_soonest_308 hl (k := 1) (n := 1) rfl (by decide) rfl (fun ls hl => ?_)
                                            refine lv_goto (tgt := 197) hx hb dX11_soonest_311 (by decide) ?_
                                            have hl : lv_has ls 7 [(5, .int (nI (x + 1))), (4, .int (nI (f))), (3, .int (nI (a))), (0, .ref (ad 0)), (1, .int (nI (sn0))), (2, .int (nI (b0)))] := lv_sub hl [0, 2, 3, 4, 5, 6] rfl
                                            exact ih_lx (x + 1) ls _ _ _ _ (by omega) (by omega) (by first | (show rdS (rlE _ _ _ _ _ _) _ _ _; rw [← rlE_t c228 c256 c280]; exact rdS_ma hra _ _) | (show rdS (rlE _ _ _ _ _ _) _ _ _; rw [← rlE_f1 c228]; exact hra) | (show rdS (rlE _ _ _ _ _ _) _ _ _; rw [← rlE_f2 c256]; exact hra) | (show rdS (rlE _ _ _ _ _ _) _ _ _; rw [← rlE_f3 c280]; exact hra)) hP hD hS hl
                                          · refine lv_aload_n hx hb dX11_soonest_283 rfl (lv_at hl 4 rfl) ?_
                                            refine va_get (D := D) (ci := 10) (v := .ref (ad 9)) (C := RX11) (T := TX11) (N := 31) hx hb hts ni11 hown hK hP 0 (mw_c0 cy ad σ (mu_ah (mu_ma T ma) ah)) rfl 26 (by decide) (hts _ flX11_35) (fun _ h => h) rfl dX11_soonest_284 ?_
                                            refine lv_iload hx hb dX11_soonest_287 (lv_at hl 0 rfl) ?_
                                            refine lv_aload_n hx hb dX11_soonest_289 rfl (lv_at hl 4 rfl) ?_
                                            refine va_get (D := D) (ci := 10) (v := .ref (ad 9)) (C := RX11) (T := TX11) (N := 31) hx hb hts ni11 hown hK hP 0 (mw_c0 cy ad σ (mu_ah (mu_ma T ma) ah)) rfl 26 (by decide) (hts _ flX11_35) (fun _ h => h) rfl dX11_soonest_290 ?_
                                            refine lv_iload_n hx hb dX11_soonest_293 rfl (lv_at hl 3 rfl) ?_
                                            refine ln_iald (v := (ma a)) hx hb hK hP 9 (mw_c9 cy ad σ (mu_ah (mu_ma T ma) ah)) (by omega) (by decide) rfl dX11_soonest_294 ?_
                                            refine ln_eq (show (ma a) = (nI ((rlX σ (updB Z a true) a f (rlF σ (updB Z a true) a M f) x) a)) from (hra a (by omega)).1) ?_
                                            refine lv_aload_n hx hb dX11_soonest_295 rfl (lv_at hl 4 rfl) ?_
                                            refine va_get (D := D) (ci := 10) (v := .ref (ad 2)) (C := RX11) (T := TX11) (N := 31) hx hb hts ni11 hown hK hP 0 (mw_c0 cy ad σ (mu_ah (mu_ma T ma) ah)) rfl 3 (by decide) (hts _ flX11_13) (fun _ h => h) rfl dX11_soonest_296 ?_
                                            refine lv_iconst (v := nI 5) hx hb dX11_soonest_299 (by decide) ?_
                                            refine lv_iload hx hb dX11_soonest_300 (lv_at hl 2 rfl) ?_
                                            refine ln_imul hx hb dX11_soonest_302 ?_
                                            refine lv_iconst (v := nI 4) hx hb dX11_soonest_303 (by decide) ?_
                                            refine ln_iadd hx hb dX11_soonest_304 ?_
                                            refine ln_iald (v := (nI (s_fe σ ((5 * f) + 4)))) hx hb hK hP 2 (mw_c2 cy ad σ (mu_ah (mu_ma T ma) ah)) (by omega) (by decide) rfl dX11_soonest_305 ?_
                                            refine ln_nat (show s_fe σ ((5 * f) + 4) = mi σ f from rfl) ?_
                                            refine ln_iadd hx hb dX11_soonest_306 ?_
                                            refine ln_iast hx hb hK hP hD hS 9 (mw_c9 cy ad σ (mu_ah (mu_ma T ma) ah)) (by omega) (by decide) ((mp_9 cy ad σ (mu_ah (mu_ma T ma) ah) (stp a f x) (nI (((rlX σ (updB Z a true) a f (rlF σ (updB Z a true) a M f) x) a) + (mi σ f)))).trans (congrArg (fun z => mw cy ad σ z) (by rw [mx_ma_ah, mc_ma]))) dX11_soonest_307 (fun H locs hP hD hS => ?_)
                                            refine ln_iinc (lv' := [(5, .int (nI (x + 1))), (6, .int (nI (stp a f x))), (4, .int (nI (f))), (3, .int (nI (a))), (0, .ref (ad 0)), (1, .int (nI (sn0))), (2, .int (nI (b0)))]) hx hb dX11_soonest_308 hl (k := 1) (n := 1) rfl (by decide) rfl (fun ls hl => ?_)
                                            refine lv_goto (tgt := 197) hx hb dX11_soonest_311 (by decide) ?_
                                            have hl : lv_has ls 7 [(5, .int (nI (x + 1))), (4, .int (nI (f))), (3, .int (nI (a))), (0, .ref (ad 0)), (1, .int (nI (sn0))), (2, .int (nI (b0)))] := lv_sub hl [0, 2, 3, 4, 5, 6] rfl
                                            exact ih_lx (x + 1) ls _ _ _ _ (by omega) (by omega) (by first | (show rdS (rlE _ _ _ _ _ _) _ _ _; rw [← rlE_t c228 c256 c280]; exact rdS_ma hra _ _) | (show rdS (rlE _ _ _ _ _ _) _ _ _; rw [← rlE_f1 c228]; exact hra) | (show rdS (rlE _ _ _ _ _ _) _ _ _; rw [← rlE_f2 c256]; exact hra) | (show rdS (rlE _ _ _ _ _ _) _ _ _; rw [← rlE_f3 c280]; exact hra)) hP hD hS hl
                                have hl : lv_has ls 7 [(5, .int (nI (1))), (4, .int (nI (f))), (3, .int (nI (a))), (0, .ref (ad 0)), (1, .int (nI (sn0))), (2, .int (nI (b0)))] := lv_sub hl [0, 1, 2, 3, 4, 5] rfl
                                exact lx (2 ^ s_n σ - 1) 1 ls _ _ _ _ (by omega) (by omega) (by rw [rlX_1]; exact hra) hP hD hS hl
                          have hl : lv_has ls 7 [(4, .int (nI (0))), (3, .int (nI (a))), (0, .ref (ad 0)), (1, .int (nI (sn0))), (2, .int (nI (b0)))] := lv_sub hl [0, 1, 2, 3, 4] rfl
                          exact lf (s_m σ - 0) 0 ls _ _ _ _ (by omega) hra hP hD hS hl
                        · have hsel := hqa
                          refine lv_iload_n hx hb dX11_soonest_159 rfl (lv_at hl 0 rfl) ?_
                          refine lv_iconst (v := -1) hx hb dX11_soonest_160 (by decide) ?_
                          refine lv_icmp_ne (tgt := 168) hx hb dX11_soonest_161 (by decide) (fun _ => ?_) (fun c => absurd c (m1_ne _ (by omega)))
                          refine lv_aload_n hx hb dX11_soonest_168 rfl (lv_at hl 1 rfl) ?_
                          refine va_get (D := D) (ci := 10) (v := .ref (ad 9)) (C := RX11) (T := TX11) (N := 31) hx hb hts ni11 hown hK hP 0 (mw_c0 cy ad σ (mu_ah (mu_ma T ma) ah)) rfl 26 (by decide) (hts _ flX11_35) (fun _ h => h) rfl dX11_soonest_169 ?_
                          refine lv_iload_n hx hb dX11_soonest_172 rfl (lv_at hl 0 rfl) ?_
                          refine ln_iald (v := (ma a)) hx hb hK hP 9 (mw_c9 cy ad σ (mu_ah (mu_ma T ma) ah)) (by omega) (by decide) rfl dX11_soonest_173 ?_
                          refine ln_eq (show (ma a) = (nI (M a)) from (hra a (by omega)).1) ?_
                          exact rw_i hx hb hr hlocks hS (mu_ah (mu_ma T ma) ah) (by rw [a_soonI, if_neg (by rw [c5, c12]; decide), tk_nI (k := sn0) (by omega), tk_nI (k := b0) (by omega)]; exact d_found hI hsel c156) hP dX11_soonest_174
                    · exact absurd c82 (by omega)
                  | succ k_lk ih_lk =>
                    intro i ls hi_lk hl
                    have hMi := hMl i
                    refine lv_iload hx hb dX11_soonest_72 (lv_at hl 0 rfl) ?_
                    refine lv_sipush (v := nI 256) hx hb dX11_soonest_74 (by decide) ?_
                    refine lv_aload_n hx hb dX11_soonest_77 rfl (lv_at hl 2 rfl) ?_
                    refine va_get (D := D) (ci := 10) (v := .int (nI (s_m σ))) (C := RX11) (T := TX11) (N := 31) hx hb hts ni11 hown hK hP 0 (mw_c0 cy ad σ (mu_ah (mu_ma T ma) ah)) rfl 2 (by decide) (hts _ flX11_55) (fun _ h => h) rfl dX11_soonest_78 ?_
                    refine ln_ishl hx hb dX11_soonest_81 (by omega) (by omega) ?_
                    refine ln_icmp_ge (tgt := 141) hx hb dX11_soonest_82 (by decide) (by omega) (by omega) (fun c82 => ?_) (fun c82 => ?_)
                    · exact absurd c82 (by omega)
                    · refine lv_aload_n hx hb dX11_soonest_85 rfl (lv_at hl 2 rfl) ?_
                      refine va_get (D := D) (ci := 10) (v := .ref (ad 10)) (C := RX11) (T := TX11) (N := 31) hx hb hts ni11 hown hK hP 0 (mw_c0 cy ad σ (mu_ah (mu_ma T ma) ah)) rfl 27 (by decide) (hts _ flX11_38) (fun _ h => h) rfl dX11_soonest_86 ?_
                      refine lv_iload hx hb dX11_soonest_89 (lv_at hl 0 rfl) ?_
                      refine ln_iald (v := (ah i)) hx hb hK hP 10 (mw_c10 cy ad σ (mu_ah (mu_ma T ma) ah)) (by omega) (by decide) rfl dX11_soonest_91 ?_
                      refine ln_eq (show (ah i) = (bI (Z i)) from (hra i (by omega)).2) ?_
                      refine lb_if_ne (tgt := 133) hx hb dX11_soonest_92 (by decide) (fun c92 => ?_) (fun c92 => ?_)
                      · refine lv_iload_n hx hb dX11_soonest_133 rfl (lv_at hl 1 rfl) ?_
                        refine lv_istore_n (lv' := [(3, .int (oI (lwt (selP M Z) M i))), (4, .int (nI (i))), (0, .ref (ad 0)), (1, .int (nI (sn0))), (2, .int (nI (b0)))]) hx hb dX11_soonest_134 rfl hl (by decide) rfl (fun ls hl => ?_)
                        refine ln_iinc (lv' := [(4, .int (nI (i + 1))), (3, .int (oI (lwt (selP M Z) M i))), (0, .ref (ad 0)), (1, .int (nI (sn0))), (2, .int (nI (b0)))]) hx hb dX11_soonest_135 hl (k := 1) (n := 1) rfl (by decide) rfl (fun ls hl => ?_)
                        refine lv_goto (tgt := 72) hx hb dX11_soonest_138 (by decide) ?_
                        have hl : lv_has ls 7 [(4, .int (nI (i + 1))), (3, .int (oI (lwt (selP M Z) M (i + 1)))), (0, .ref (ad 0)), (1, .int (nI (sn0))), (2, .int (nI (b0)))] := by rw [← (show (oI (lwt (selP M Z) M i)) = (oI (lwt (selP M Z) M (i + 1))) from by first | exact lwt_n hqa (selP_t c92 c104) | exact lwt_g hqa (selP_t c92 c104) c125 | exact lwt_l hqa (selP_t c92 c104) c125 | exact lwt_f (selP_f1 c92) | exact lwt_f (selP_f2 c104))]; exact lv_sub hl [0, 1, 2, 3, 4] rfl
                        exact ih_lk (i + 1) ls (by omega)  hl
                      · refine lv_aload_n hx hb dX11_soonest_95 rfl (lv_at hl 2 rfl) ?_
                        refine va_get (D := D) (ci := 10) (v := .ref (ad 9)) (C := RX11) (T := TX11) (N := 31) hx hb hts ni11 hown hK hP 0 (mw_c0 cy ad σ (mu_ah (mu_ma T ma) ah)) rfl 26 (by decide) (hts _ flX11_35) (fun _ h => h) rfl dX11_soonest_96 ?_
                        refine lv_iload hx hb dX11_soonest_99 (lv_at hl 0 rfl) ?_
                        refine ln_iald (v := (ma i)) hx hb hK hP 9 (mw_c9 cy ad σ (mu_ah (mu_ma T ma) ah)) (by omega) (by decide) rfl dX11_soonest_101 ?_
                        refine ln_eq (show (ma i) = (nI (M i)) from (hra i (by omega)).1) ?_
                        refine lv_ldc (v := nI 1000000) hx hb hown (hts _ cnX11_223) dX11_soonest_102 ?_
                        refine ln_icmp_ge (tgt := 133) hx hb dX11_soonest_104 (by decide) (by omega) (by omega) (fun c104 => ?_) (fun c104 => ?_)
                        · refine lv_iload_n hx hb dX11_soonest_133 rfl (lv_at hl 1 rfl) ?_
                          refine lv_istore_n (lv' := [(3, .int (oI (lwt (selP M Z) M i))), (4, .int (nI (i))), (0, .ref (ad 0)), (1, .int (nI (sn0))), (2, .int (nI (b0)))]) hx hb dX11_soonest_134 rfl hl (by decide) rfl (fun ls hl => ?_)
                          refine ln_iinc (lv' := [(4, .int (nI (i + 1))), (3, .int (oI (lwt (selP M Z) M i))), (0, .ref (ad 0)), (1, .int (nI (sn0))), (2, .int (nI (b0)))]) hx hb dX11_soonest_135 hl (k := 1) (n := 1) rfl (by decide) rfl (fun ls hl => ?_)
                          refine lv_goto (tgt := 72) hx hb dX11_soonest_138 (by decide) ?_
                          have hl : lv_has ls 7 [(4, .int (nI (i + 1))), (3, .int (oI (lwt (selP M Z) M (i + 1)))), (0, .ref (ad 0)), (1, .int (nI (sn0))), (2, .int (nI (b0)))] := by rw [← (show (oI (lwt (selP M Z) M i)) = (oI (lwt (selP M Z) M (i + 1))) from by first | exact lwt_n hqa (selP_t c92 c104) | exact lwt_g hqa (selP_t c92 c104) c125 | exact lwt_l hqa (selP_t c92 c104) c125 | exact lwt_f (selP_f1 c92) | exact lwt_f (selP_f2 c104))]; exact lv_sub hl [0, 1, 2, 3, 4] rfl
                          exact ih_lk (i + 1) ls (by omega)  hl
                        · rcases hqa : lwt (selP M Z) M i with _ | a
                          · rw [hqa] at hl
                            have hl : lv_has ls 7 [(4, .int (nI (i))), (3, .int (-1)), (0, .ref (ad 0)), (1, .int (nI (sn0))), (2, .int (nI (b0)))] := hl
                            refine lv_iload_n hx hb dX11_soonest_107 rfl (lv_at hl 1 rfl) ?_
                            refine lv_iconst (v := -1) hx hb dX11_soonest_108 (by decide) ?_
                            refine lv_icmp_eq (tgt := 128) hx hb dX11_soonest_109 (by decide) (fun _ => ?_) (fun c => absurd rfl c)
                            refine lv_iload hx hb dX11_soonest_128 (lv_at hl 0 rfl) ?_
                            refine lv_goto (tgt := 134) hx hb dX11_soonest_130 (by decide) ?_
                            refine lv_istore_n (lv' := [(3, .int (nI (i))), (4, .int (nI (i))), (0, .ref (ad 0)), (1, .int (nI (sn0))), (2, .int (nI (b0)))]) hx hb dX11_soonest_134 rfl hl (by decide) rfl (fun ls hl => ?_)
                            refine ln_iinc (lv' := [(4, .int (nI (i + 1))), (3, .int (nI (i))), (0, .ref (ad 0)), (1, .int (nI (sn0))), (2, .int (nI (b0)))]) hx hb dX11_soonest_135 hl (k := 1) (n := 1) rfl (by decide) rfl (fun ls hl => ?_)
                            refine lv_goto (tgt := 72) hx hb dX11_soonest_138 (by decide) ?_
                            have hl : lv_has ls 7 [(4, .int (nI (i + 1))), (3, .int (oI (lwt (selP M Z) M (i + 1)))), (0, .ref (ad 0)), (1, .int (nI (sn0))), (2, .int (nI (b0)))] := by rw [← (show (nI (i)) = (oI (lwt (selP M Z) M (i + 1))) from by first | exact lwt_n hqa (selP_t c92 c104) | exact lwt_g hqa (selP_t c92 c104) c125 | exact lwt_l hqa (selP_t c92 c104) c125 | exact lwt_f (selP_f1 c92) | exact lwt_f (selP_f2 c104))]; exact lv_sub hl [0, 1, 2, 3, 4] rfl
                            exact ih_lk (i + 1) ls (by omega)  hl
                          · rw [hqa] at hl
                            have hl : lv_has ls 7 [(4, .int (nI (i))), (3, .int (nI (a))), (0, .ref (ad 0)), (1, .int (nI (sn0))), (2, .int (nI (b0)))] := hl
                            have hlta := lwt_lt hqa
                            refine lv_iload_n hx hb dX11_soonest_107 rfl (lv_at hl 1 rfl) ?_
                            refine lv_iconst (v := -1) hx hb dX11_soonest_108 (by decide) ?_
                            refine lv_icmp_eq (tgt := 128) hx hb dX11_soonest_109 (by decide) (fun c => absurd c (m1_ne _ (by omega))) (fun _ => ?_)
                            have hMa := hMl a
                            refine lv_aload_n hx hb dX11_soonest_112 rfl (lv_at hl 2 rfl) ?_
                            refine va_get (D := D) (ci := 10) (v := .ref (ad 9)) (C := RX11) (T := TX11) (N := 31) hx hb hts ni11 hown hK hP 0 (mw_c0 cy ad σ (mu_ah (mu_ma T ma) ah)) rfl 26 (by decide) (hts _ flX11_35) (fun _ h => h) rfl dX11_soonest_113 ?_
                            refine lv_iload hx hb dX11_soonest_116 (lv_at hl 0 rfl) ?_
                            refine ln_iald (v := (ma i)) hx hb hK hP 9 (mw_c9 cy ad σ (mu_ah (mu_ma T ma) ah)) (by omega) (by decide) rfl dX11_soonest_118 ?_
                            refine ln_eq (show (ma i) = (nI (M i)) from (hra i (by omega)).1) ?_
                            refine lv_aload_n hx hb dX11_soonest_119 rfl (lv_at hl 2 rfl) ?_
                            refine va_get (D := D) (ci := 10) (v := .ref (ad 9)) (C := RX11) (T := TX11) (N := 31) hx hb hts ni11 hown hK hP 0 (mw_c0 cy ad σ (mu_ah (mu_ma T ma) ah)) rfl 26 (by decide) (hts _ flX11_35) (fun _ h => h) rfl dX11_soonest_120 ?_
                            refine lv_iload_n hx hb dX11_soonest_123 rfl (lv_at hl 1 rfl) ?_
                            refine ln_iald (v := (ma a)) hx hb hK hP 9 (mw_c9 cy ad σ (mu_ah (mu_ma T ma) ah)) (by omega) (by decide) rfl dX11_soonest_124 ?_
                            refine ln_eq (show (ma a) = (nI (M a)) from (hra a (by omega)).1) ?_
                            refine ln_icmp_ge (tgt := 133) hx hb dX11_soonest_125 (by decide) (by omega) (by omega) (fun c125 => ?_) (fun c125 => ?_)
                            · refine lv_iload_n hx hb dX11_soonest_133 rfl (lv_at hl 1 rfl) ?_
                              refine lv_istore_n (lv' := [(3, .int (nI (a))), (4, .int (nI (i))), (0, .ref (ad 0)), (1, .int (nI (sn0))), (2, .int (nI (b0)))]) hx hb dX11_soonest_134 rfl hl (by decide) rfl (fun ls hl => ?_)
                              refine ln_iinc (lv' := [(4, .int (nI (i + 1))), (3, .int (nI (a))), (0, .ref (ad 0)), (1, .int (nI (sn0))), (2, .int (nI (b0)))]) hx hb dX11_soonest_135 hl (k := 1) (n := 1) rfl (by decide) rfl (fun ls hl => ?_)
                              refine lv_goto (tgt := 72) hx hb dX11_soonest_138 (by decide) ?_
                              have hl : lv_has ls 7 [(4, .int (nI (i + 1))), (3, .int (oI (lwt (selP M Z) M (i + 1)))), (0, .ref (ad 0)), (1, .int (nI (sn0))), (2, .int (nI (b0)))] := by rw [← (show (nI (a)) = (oI (lwt (selP M Z) M (i + 1))) from by first | exact lwt_n hqa (selP_t c92 c104) | exact lwt_g hqa (selP_t c92 c104) c125 | exact lwt_l hqa (selP_t c92 c104) c125 | exact lwt_f (selP_f1 c92) | exact lwt_f (selP_f2 c104))]; exact lv_sub hl [0, 1, 2, 3, 4] rfl
                              exact ih_lk (i + 1) ls (by omega)  hl
                            · refine lv_iload hx hb dX11_soonest_128 (lv_at hl 0 rfl) ?_
                              refine lv_goto (tgt := 134) hx hb dX11_soonest_130 (by decide) ?_
                              refine lv_istore_n (lv' := [(3, .int (nI (i))), (4, .int (nI (i))), (0, .ref (ad 0)), (1, .int (nI (sn0))), (2, .int (nI (b0)))]) hx hb dX11_soonest_134 rfl hl (by decide) rfl (fun ls hl => ?_)
                              refine ln_iinc (lv' := [(4, .int (nI (i + 1))), (3, .int (nI (i))), (0, .ref (ad 0)), (1, .int (nI (sn0))), (2, .int (nI (b0)))]) hx hb dX11_soonest_135 hl (k := 1) (n := 1) rfl (by decide) rfl (fun ls hl => ?_)
                              refine lv_goto (tgt := 72) hx hb dX11_soonest_138 (by decide) ?_
                              have hl : lv_has ls 7 [(4, .int (nI (i + 1))), (3, .int (oI (lwt (selP M Z) M (i + 1)))), (0, .ref (ad 0)), (1, .int (nI (sn0))), (2, .int (nI (b0)))] := by rw [← (show (nI (i)) = (oI (lwt (selP M Z) M (i + 1))) from by first | exact lwt_n hqa (selP_t c92 c104) | exact lwt_g hqa (selP_t c92 c104) c125 | exact lwt_l hqa (selP_t c92 c104) c125 | exact lwt_f (selP_f1 c92) | exact lwt_f (selP_f2 c104))]; exact lv_sub hl [0, 1, 2, 3, 4] rfl
                              exact ih_lk (i + 1) ls (by omega)  hl
                have hl : lv_has ls 7 [(4, .int (nI (0))), (3, .int (oI (lwt (selP M Z) M 0))), (0, .ref (ad 0)), (1, .int (nI (sn0))), (2, .int (nI (b0)))] := lv_sub hl [0, 1, 2, 3, 4] rfl
                exact lk (256 * 2 ^ s_m σ - 0) 0 ls (by omega)  hl
            exact lp 2049 0 ls _ _ _ _ _ _ (by omega) (d_start hw _) (rdS_0 hm2 (st0 σ)) hP hD hS (lv_sub hl [1, 2, 3] rfl)
          · exact absurd c24 (by omega)
        | succ k_l0 ih_l0 =>
          intro j ls H locs ma ah hi_l0 hm1 hP hD hS hl
          refine lv_iload_n hx hb dX11_soonest_20 rfl (lv_at hl 0 rfl) ?_
          refine lv_sipush (v := nI 2048) hx hb dX11_soonest_21 (by decide) ?_
          refine ln_icmp_ge (tgt := 48) hx hb dX11_soonest_24 (by decide) (by omega) (by omega) (fun c24 => ?_) (fun c24 => ?_)
          · exact absurd c24 (by omega)
          · refine lv_aload_n hx hb dX11_soonest_27 rfl (lv_at hl 1 rfl) ?_
            refine va_get (D := D) (ci := 10) (v := .ref (ad 9)) (C := RX11) (T := TX11) (N := 31) hx hb hts ni11 hown hK hP 0 (mw_c0 cy ad σ (mu_ah (mu_ma T ma) ah)) rfl 26 (by decide) (hts _ flX11_35) (fun _ h => h) rfl dX11_soonest_28 ?_
            refine lv_iload_n hx hb dX11_soonest_31 rfl (lv_at hl 0 rfl) ?_
            refine lv_ldc (v := nI 1000000) hx hb hown (hts _ cnX11_223) dX11_soonest_32 ?_
            refine ln_iast hx hb hK hP hD hS 9 (mw_c9 cy ad σ (mu_ah (mu_ma T ma) ah)) (by omega) (by decide) ((mp_9 cy ad σ (mu_ah (mu_ma T ma) ah) j (nI (1000000))).trans (congrArg (fun z => mw cy ad σ z) (by rw [mx_ma_ah, mc_ma]))) dX11_soonest_34 (fun H locs hP hD hS => ?_)
            refine lv_aload_n hx hb dX11_soonest_35 rfl (lv_at hl 1 rfl) ?_
            refine va_get (D := D) (ci := 10) (v := .ref (ad 10)) (C := RX11) (T := TX11) (N := 31) hx hb hts ni11 hown hK hP 0 (mw_c0 cy ad σ (mu_ah (mu_ma T (upd (ma) j (nI (1000000)))) ah)) rfl 27 (by decide) (hts _ flX11_38) (fun _ h => h) rfl dX11_soonest_36 ?_
            refine lv_iload_n hx hb dX11_soonest_39 rfl (lv_at hl 0 rfl) ?_
            refine lv_iconst (v := nI 0) hx hb dX11_soonest_40 (by decide) ?_
            refine ln_iast hx hb hK hP hD hS 10 (mw_c10 cy ad σ (mu_ah (mu_ma T (upd (ma) j (nI (1000000)))) ah)) (by omega) (by decide) ((mp_10 cy ad σ (mu_ah (mu_ma T (upd (ma) j (nI (1000000)))) ah) j (nI (0))).trans (congrArg (fun z => mw cy ad σ z) (by rw [mc_ah]))) dX11_soonest_41 (fun H locs hP hD hS => ?_)
            refine ln_iinc (lv' := [(3, .int (nI (j + 1))), (0, .ref (ad 0)), (1, .int (nI (sn0))), (2, .int (nI (b0)))]) hx hb dX11_soonest_42 hl (k := 0) (n := 1) rfl (by decide) rfl (fun ls hl => ?_)
            refine lv_goto (tgt := 20) hx hb dX11_soonest_45 (by decide) ?_
            have hl : lv_has ls 7 [(3, .int (nI (j + 1))), (0, .ref (ad 0)), (1, .int (nI (sn0))), (2, .int (nI (b0)))] := lv_sub hl [0, 1, 2, 3] rfl
            exact ih_l0 (j + 1) ls _ _ _ _ (by omega) (fun v hv => by unfold upd; by_cases e : v = j; rw [if_pos e, if_pos e]; exact ⟨rfl, rfl⟩; rw [if_neg e, if_neg e]; exact hm1 v (by omega)) hP hD hS hl
      have hl : lv_has ls 7 [(3, .int (nI (0))), (0, .ref (ad 0)), (1, .int (nI (sn0))), (2, .int (nI (b0)))] := lv_sub hl [0, 1, 2, 3] rfl
      have hP : va_P D vwCl (mw cy ad σ (mu_ah (mu_ma T (m_ma T)) (m_ah T))) s.heap := hP
      have hD : va_D A (mw cy ad σ (mu_ah (mu_ma T (m_ma T)) (m_ah T))) := hD
      exact l0 (2048 - 0) 0 ls _ _ (m_ma T) (m_ah T) (by omega) (fun v hv => absurd hv (by omega)) hP hD hS hl
    · refine lv_bipush (v := -2) hx hb dX11_soonest_15 (by decide) ?_
      exact rw_i hx hb hr hlocks hS T (by first | (rw [a_soonI, if_pos (by rw [c5]; rfl)]; done) | (rw [a_soonI, if_pos (by rw [c5, c12]; rfl)])) hP dX11_soonest_17
