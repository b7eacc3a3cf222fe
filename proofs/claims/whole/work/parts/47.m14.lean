theorem do_T {σ : Sg} {k a b : Nat} {xs : List Nat} (h : k < 4) (hx : xs = [a, b]) : su_n (su_th σ (updN (updN (updN (updN (updN (updN (s_th σ) (6 * s_n σ + 0) k) (6 * s_n σ + 1) a) (6 * s_n σ + 2) b) (6 * s_n σ + 3) 0) (6 * s_n σ + 4) 0) (6 * s_n σ + 5) 0)) (s_n σ + 1) = doL σ k xs := by
  rw [doL, if_pos h, hx]; rfl
theorem do_F {σ : Sg} {k a b c d : Nat} {xs : List Nat} (h : ¬ k < 4) (h7 : k < 7) (hx : xs = [a, b, c, d]) : su_m (su_fe σ (updN (updN (updN (updN (updN (s_fe σ) (5 * s_m σ) (k - 4)) (5 * s_m σ + 1) a) (5 * s_m σ + 2) b) (5 * s_m σ + 3) c) (5 * s_m σ + 4) d)) (s_m σ + 1) = doL σ k xs := by
  rw [doL, if_neg h, if_pos h7, hx]; rfl
theorem do_7 {σ : Sg} {k : Nat} {xs : List Nat} (h : k = 7) : su_m (su_n σ 0) 0 = doL σ k xs := by
  subst h; rfl
theorem do_8 {σ : Sg} {k a b : Nat} {xs : List Nat} (h : k = 8) (hx : xs = [a, b]) : su_th σ (updN (s_th σ) (6 * a + 3) b) = doL σ k xs := by
  subst h; rw [hx]; rfl
theorem do_9 {σ : Sg} {k a b : Nat} {xs : List Nat} (h : k = 9) (hx : xs = [a, b]) : su_th σ (updN (s_th σ) (6 * a + 4) b) = doL σ k xs := by
  subst h; rw [hx]; rfl
theorem do_10 {σ : Sg} {k a : Nat} {xs : List Nat} (h : k = 10) (hx : xs = [a]) : su_th σ (updN (s_th σ) (6 * a + 5) 1) = doL σ k xs := by
  subst h; rw [hx]; rfl
theorem LB_at {u : Ms} {j k : Nat} {xs : List Nat} (h : LB u j k xs) {i v : Nat} (hx : xs[i]? = some v) : m_rd u (j + 1 + i) = nI v := by
  have hi : i < xs.length := by
    rcases Nat.lt_or_ge i xs.length with q | q
    · exact q
    · rw [List.getElem?_eq_none q] at hx; cases hx
  rw [h.2 i hi, lg, List.getD_eq_getElem?_getD, hx]
  rfl
set_option maxHeartbeats 4000000 in
set_option maxRecDepth 100000 in
theorem k_X11_doLine (l : Launch) (D : va_G) (cy : Nat → ClassId) (ad : Nat → Nat) (σ : Sg) (T : Ms) (j k : Nat) (xs : List Nat) (hw : wf1 σ) (hok : okL σ k xs) (hLB : LB T j k xs) (hj : j + 4 < 60) : MV l yX11_doLine qX11_doLine 1 [.ref (ad 0), .int (nI (j))] D cy (mw cy ad σ T) (fun _ : Unit => True) (fun _ : Unit => mw cy ad (doL σ k xs) T) := by
  intro sz
  refine Met.ofW (cc := cX11_doLine) (maxL := 5) (ret := none) (by decide) rfl ?_
  intro p e s m args below meth c s₁ B hml hv
  obtain ⟨rfl, rfl, hP, hK, hN, hD0⟩ := hv
  have hx := B.exec
  have hb := B.bytes
  have hr := B.returns
  have hlocks := B.notSynchronized
  have hts : ∀ cq ∈ tg, cq.before ([.ref (ad 0), .int (nI (j))] : List Value).toArray s = true := fun cq h => atoms_spec (ws := qX11_doLine) B.pre cq (List.mem_cons_of_mem _ h)
  have hown : s.vm.findClass RX11 = some m.cls := findClass_of_methodNamed B.named
  have hD := hD0.self (sz := s.heap.size)
  generalize hAe : va_A (mw cy ad σ T) s.heap.size = A at hD ⊢
  have hA : ∀ q : Nat, s.heap.size ≤ q → A q := fun q h => by rw [← hAe]; exact Or.inr h
  have hS : va_S A s.heap s.heap [] := va_S.rf
  have hl := lv_entry ([.ref (ad 0), .int (nI (j))]) (n := 5) (Nat.le_of_ble_eq_true rfl)
  rw [lg_entry_eq]
  generalize (lg_sl ([.ref (ad 0), .int (nI (j))]) ++ List.replicate (5 - (lg_sl ([.ref (ad 0), .int (nI (j))])).length) Slot.unset).toArray = ls at hl ⊢
  have hl : lv_has ls 5 [(0, .ref (ad 0)), (1, .int (nI (j)))] := hl
  have hw1 := hw.1
  have hw2 := hw.2.1
  refine lv_aload_n hx hb dX11_doLine_0 rfl (lv_at hl 0 rfl) ?_
  refine va_get (D := D) (ci := 10) (v := .ref (ad 5)) (C := RX11) (T := TX11) (N := 31) hx hb hts ni11 hown hK hP 0 (mw_c0 cy ad σ T) rfl 16 (by decide) (hts _ flX11_22) (fun _ h => h) rfl dX11_doLine_1 ?_
  refine lv_iload_n hx hb dX11_doLine_4 rfl (lv_at hl 1 rfl) ?_
  refine lv_iconst (v := nI 1) hx hb dX11_doLine_5 (by decide) ?_
  refine ln_iadd hx hb dX11_doLine_6 ?_
  refine ln_iald (v := (m_rd T (j + 1))) hx hb hK hP 5 (mw_c5 cy ad σ T) (by omega) (by decide) rfl dX11_doLine_7 ?_
  refine lv_istore_n (lv' := [(2, .int (m_rd T (j + 1))), (0, .ref (ad 0)), (1, .int (nI (j)))]) hx hb dX11_doLine_8 rfl hl (by decide) rfl (fun ls hl => ?_)
  refine lv_aload_n hx hb dX11_doLine_9 rfl (lv_at hl 1 rfl) ?_
  refine va_get (D := D) (ci := 10) (v := .ref (ad 5)) (C := RX11) (T := TX11) (N := 31) hx hb hts ni11 hown hK hP 0 (mw_c0 cy ad σ T) rfl 16 (by decide) (hts _ flX11_22) (fun _ h => h) rfl dX11_doLine_10 ?_
  refine lv_iload_n hx hb dX11_doLine_13 rfl (lv_at hl 2 rfl) ?_
  refine lv_iconst (v := nI 2) hx hb dX11_doLine_14 (by decide) ?_
  refine ln_iadd hx hb dX11_doLine_15 ?_
  refine ln_iald (v := (m_rd T (j + 2))) hx hb hK hP 5 (mw_c5 cy ad σ T) (by omega) (by decide) rfl dX11_doLine_16 ?_
  refine lv_istore_n (lv' := [(3, .int (m_rd T (j + 2))), (2, .int (m_rd T (j + 1))), (0, .ref (ad 0)), (1, .int (nI (j)))]) hx hb dX11_doLine_17 rfl hl (by decide) rfl (fun ls hl => ?_)
  refine lv_aload_n hx hb dX11_doLine_18 rfl (lv_at hl 2 rfl) ?_
  refine va_get (D := D) (ci := 10) (v := .ref (ad 5)) (C := RX11) (T := TX11) (N := 31) hx hb hts ni11 hown hK hP 0 (mw_c0 cy ad σ T) rfl 16 (by decide) (hts _ flX11_22) (fun _ h => h) rfl dX11_doLine_19 ?_
  refine lv_iload_n hx hb dX11_doLine_22 rfl (lv_at hl 3 rfl) ?_
  refine ln_iald (v := (m_rd T j)) hx hb hK hP 5 (mw_c5 cy ad σ T) (by omega) (by decide) rfl dX11_doLine_23 ?_
  obtain ⟨hk11, ok1, ok2, ok3, ok4, ok5, ok6⟩ := hok
  have h80 : k < 4 → W p l e (headSpec qX11_doLine (rq 1)).room s m ([.ref (ad 0), .int (nI (j))] : List Value).toArray below meth c s.heap [] 0 0 (MQ below (va_Qv (fun _ : Unit => True) (fun u t => va_P D vwCl ((fun _ : Unit => mw cy ad (doL σ k xs) T) u) t.heap) A) ([.ref (ad 0), .int (nI (j))] : List Value).toArray s 0 0 A) (F0 m 80 ls []) := by
    intro hk4
    obtain ⟨hn8, a, b, hxs, ha1, ha2, hb1⟩ := ok1 hk4
    have e1 : m_rd T (j + 1) = nI a := LB_at (i := 0) hLB (by rw [hxs]; rfl)
    have e2 : m_rd T (j + 2) = nI b := LB_at (i := 1) hLB (by rw [hxs]; rfl)
    refine lv_iconst (v := nI 0) hx hb dX11_doLine_80 (by decide) ?_
    refine lv_istore (lv' := [(4, .int (nI (0))), (3, .int (m_rd T (j + 2))), (2, .int (m_rd T (j + 1))), (0, .ref (ad 0)), (1, .int (nI (j)))]) hx hb dX11_doLine_81 hl (by decide) rfl (fun ls hl => ?_)
    refine lv_iload hx hb dX11_doLine_83 (lv_at hl 0 rfl) ?_
    refine lv_bipush (v := nI 6) hx hb dX11_doLine_85 (by decide) ?_
    refine lv_icmp_ge (tgt := 130) hx hb dX11_doLine_87 (by decide) (fun c => absurd c (by decide)) (fun _ => ?_)
    refine lv_aload_n hx hb dX11_doLine_90 rfl (lv_at hl 3 rfl) ?_
    refine va_get (D := D) (ci := 10) (v := .ref (ad 1)) (C := RX11) (T := TX11) (N := 31) hx hb hts ni11 hown hK hP 0 (mw_c0 cy ad σ T) rfl 1 (by decide) (hts _ flX11_7) (fun _ h => h) rfl dX11_doLine_91 ?_
    refine lv_bipush (v := nI 6) hx hb dX11_doLine_94 (by decide) ?_
    refine lv_aload_n hx hb dX11_doLine_96 rfl (lv_at hl 3 rfl) ?_
    refine va_get (D := D) (ci := 10) (v := .int (nI (s_n σ))) (C := RX11) (T := TX11) (N := 31) hx hb hts ni11 hown hK hP 0 (mw_c0 cy ad σ T) rfl 0 (by decide) (hts _ flX11_47) (fun _ h => h) rfl dX11_doLine_97 ?_
    refine ln_imul hx hb dX11_doLine_100 ?_
    refine lv_iload hx hb dX11_doLine_101 (lv_at hl 0 rfl) ?_
    refine ln_iadd hx hb dX11_doLine_103 ?_
    refine lv_iload hx hb dX11_doLine_104 (lv_at hl 0 rfl) ?_
    refine lv_iconst (v := nI 3) hx hb dX11_doLine_106 (by decide) ?_
    refine lv_icmp_ge (tgt := 122) hx hb dX11_doLine_107 (by decide) (fun c => absurd c (by decide)) (fun _ => ?_)
    refine lv_aload_n hx hb dX11_doLine_110 rfl (lv_at hl 3 rfl) ?_
    refine va_get (D := D) (ci := 10) (v := .ref (ad 5)) (C := RX11) (T := TX11) (N := 31) hx hb hts ni11 hown hK hP 0 (mw_c0 cy ad σ T) rfl 16 (by decide) (hts _ flX11_22) (fun _ h => h) rfl dX11_doLine_111 ?_
    refine lv_iload_n hx hb dX11_doLine_114 rfl (lv_at hl 4 rfl) ?_
    refine lv_iload hx hb dX11_doLine_115 (lv_at hl 0 rfl) ?_
    refine ln_iadd hx hb dX11_doLine_117 ?_
    refine ln_iald (v := (m_rd T (j + 0))) hx hb hK hP 5 (mw_c5 cy ad σ T) (by omega) (by decide) rfl dX11_doLine_118 ?_
    refine ln_eq (show m_rd T (j + 0) = nI k from by rw [Nat.add_zero]; exact hLB.1) ?_
    refine lv_goto (tgt := 123) hx hb dX11_doLine_119 (by decide) ?_
    refine ln_iast hx hb hK hP hD hS 1 (mw_c1 cy ad σ T) (by omega) (by decide) (mp_1 cy ad σ T ((6 * (s_n σ)) + 0) k) dX11_doLine_123 (fun H locs hP hD hS => ?_)
    refine ln_iinc (lv' := [(4, .int (nI (1))), (3, .int (m_rd T (j + 2))), (2, .int (m_rd T (j + 1))), (0, .ref (ad 0)), (1, .int (nI (j)))]) hx hb dX11_doLine_124 hl (k := 0) (n := 1) rfl (by decide) rfl (fun ls hl => ?_)
    refine lv_goto (tgt := 83) hx hb dX11_doLine_127 (by decide) ?_
    refine lv_iload hx hb dX11_doLine_83 (lv_at hl 0 rfl) ?_
    refine lv_bipush (v := nI 6) hx hb dX11_doLine_85 (by decide) ?_
    refine lv_icmp_ge (tgt := 130) hx hb dX11_doLine_87 (by decide) (fun c => absurd c (by decide)) (fun _ => ?_)
    refine lv_aload_n hx hb dX11_doLine_90 rfl (lv_at hl 3 rfl) ?_
    refine va_get (D := D) (ci := 10) (v := .ref (ad 1)) (C := RX11) (T := TX11) (N := 31) hx hb hts ni11 hown hK hP 0 (mw_c0 cy ad (su_th σ (updN (s_th σ) ((6 * (s_n σ)) + 0) k)) T) rfl 1 (by decide) (hts _ flX11_7) (fun _ h => h) rfl dX11_doLine_91 ?_
    refine lv_bipush (v := nI 6) hx hb dX11_doLine_94 (by decide) ?_
    refine lv_aload_n hx hb dX11_doLine_96 rfl (lv_at hl 3 rfl) ?_
    refine va_get (D := D) (ci := 10) (v := .int (nI (s_n σ))) (C := RX11) (T := TX11) (N := 31) hx hb hts ni11 hown hK hP 0 (mw_c0 cy ad (su_th σ (updN (s_th σ) ((6 * (s_n σ)) + 0) k)) T) rfl 0 (by decide) (hts _ flX11_47) (fun _ h => h) rfl dX11_doLine_97 ?_
    refine ln_imul hx hb dX11_doLine_100 ?_
    refine lv_iload hx hb dX11_doLine_101 (lv_at hl 0 rfl) ?_
    refine ln_iadd hx hb dX11_doLine_103 ?_
    refine lv_iload hx hb dX11_doLine_104 (lv_at hl 0 rfl) ?_
    refine lv_iconst (v := nI 3) hx hb dX11_doLine_106 (by decide) ?_
    refine lv_icmp_ge (tgt := 122) hx hb dX11_doLine_107 (by decide) (fun c => absurd c (by decide)) (fun _ => ?_)
    refine lv_aload_n hx hb dX11_doLine_110 rfl (lv_at hl 3 rfl) ?_
    refine va_get (D := D) (ci := 10) (v := .ref (ad 5)) (C := RX11) (T := TX11) (N := 31) hx hb hts ni11 hown hK hP 0 (mw_c0 cy ad (su_th σ (updN (s_th σ) ((6 * (s_n σ)) + 0) k)) T) rfl 16 (by decide) (hts _ flX11_22) (fun _ h => h) rfl dX11_doLine_111 ?_
    refine lv_iload_n hx hb dX11_doLine_114 rfl (lv_at hl 4 rfl) ?_
    refine lv_iload hx hb dX11_doLine_115 (lv_at hl 0 rfl) ?_
    refine ln_iadd hx hb dX11_doLine_117 ?_
    refine ln_iald (v := (m_rd T (j + 1))) hx hb hK hP 5 (mw_c5 cy ad (su_th σ (updN (s_th σ) ((6 * (s_n σ)) + 0) k)) T) (by omega) (by decide) rfl dX11_doLine_118 ?_
    refine ln_eq (show m_rd T (j + 1) = nI a from e1) ?_
    refine lv_goto (tgt := 123) hx hb dX11_doLine_119 (by decide) ?_
    refine ln_iast hx hb hK hP hD hS 1 (mw_c1 cy ad (su_th σ (updN (s_th σ) ((6 * (s_n σ)) + 0) k)) T) (by omega) (by decide) ((mp_1 cy ad (su_th σ (updN (s_th σ) ((6 * (s_n σ)) + 0) k)) T ((6 * (s_n σ)) + 1) a).trans (congrArg (fun z => mw cy ad z T) (by rw [sc_th]))) dX11_doLine_123 (fun H locs hP hD hS => ?_)
    refine ln_iinc (lv' := [(4, .int (nI (2))), (3, .int (m_rd T (j + 2))), (2, .int (m_rd T (j + 1))), (0, .ref (ad 0)), (1, .int (nI (j)))]) hx hb dX11_doLine_124 hl (k := 0) (n := 1) rfl (by decide) rfl (fun ls hl => ?_)
    refine lv_goto (tgt := 83) hx hb dX11_doLine_127 (by decide) ?_
    refine lv_iload hx hb dX11_doLine_83 (lv_at hl 0 rfl) ?_
    refine lv_bipush (v := nI 6) hx hb dX11_doLine_85 (by decide) ?_
    refine lv_icmp_ge (tgt := 130) hx hb dX11_doLine_87 (by decide) (fun c => absurd c (by decide)) (fun _ => ?_)
    refine lv_aload_n hx hb dX11_doLine_90 rfl (lv_at hl 3 rfl) ?_
    refine va_get (D := D) (ci := 10) (v := .ref (ad 1)) (C := RX11) (T := TX11) (N := 31) hx hb hts ni11 hown hK hP 0 (mw_c0 cy ad (su_th σ (updN (updN (s_th σ) ((6 * (s_n σ)) + 0) k) ((6 * (s_n σ)) + 1) a)) T) rfl 1 (by decide) (hts _ flX11_7) (fun _ h => h) rfl dX11_doLine_91 ?_
    refine lv_bipush (v := nI 6) hx hb dX11_doLine_94 (by decide) ?_
    refine lv_aload_n hx hb dX11_doLine_96 rfl (lv_at hl 3 rfl) ?_
    refine va_get (D := D) (ci := 10) (v := .int (nI (s_n σ))) (C := RX11) (T := TX11) (N := 31) hx hb hts ni11 hown hK hP 0 (mw_c0 cy ad (su_th σ (updN (updN (s_th σ) ((6 * (s_n σ)) + 0) k) ((6 * (s_n σ)) + 1) a)) T) rfl 0 (by decide) (hts _ flX11_47) (fun _ h => h) rfl dX11_doLine_97 ?_
    refine ln_imul hx hb dX11_doLine_100 ?_
    refine lv_iload hx hb dX11_doLine_101 (lv_at hl 0 rfl) ?_
    refine ln_iadd hx hb dX11_doLine_103 ?_
    refine lv_iload hx hb dX11_doLine_104 (lv_at hl 0 rfl) ?_
    refine lv_iconst (v := nI 3) hx hb dX11_doLine_106 (by decide) ?_
    refine lv_icmp_ge (tgt := 122) hx hb dX11_doLine_107 (by decide) (fun c => absurd c (by decide)) (fun _ => ?_)
    refine lv_aload_n hx hb dX11_doLine_110 rfl (lv_at hl 3 rfl) ?_
    refine va_get (D := D) (ci := 10) (v := .ref (ad 5)) (C := RX11) (T := TX11) (N := 31) hx hb hts ni11 hown hK hP 0 (mw_c0 cy ad (su_th σ (updN (updN (s_th σ) ((6 * (s_n σ)) + 0) k) ((6 * (s_n σ)) + 1) a)) T) rfl 16 (by decide) (hts _ flX11_22) (fun _ h => h) rfl dX11_doLine_111 ?_
    refine lv_iload_n hx hb dX11_doLine_114 rfl (lv_at hl 4 rfl) ?_
    refine lv_iload hx hb dX11_doLine_115 (lv_at hl 0 rfl) ?_
    refine ln_iadd hx hb dX11_doLine_117 ?_
    refine ln_iald (v := (m_rd T (j + 2))) hx hb hK hP 5 (mw_c5 cy ad (su_th σ (updN (updN (s_th σ) ((6 * (s_n σ)) + 0) k) ((6 * (s_n σ)) + 1) a)) T) (by omega) (by decide) rfl dX11_doLine_118 ?_
    refine ln_eq (show m_rd T (j + 2) = nI b from e2) ?_
    refine lv_goto (tgt := 123) hx hb dX11_doLine_119 (by decide) ?_
    refine ln_iast hx hb hK hP hD hS 1 (mw_c1 cy ad (su_th σ (updN (updN (s_th σ) ((6 * (s_n σ)) + 0) k) ((6 * (s_n σ)) + 1) a)) T) (by omega) (by decide) ((mp_1 cy ad (su_th σ (updN (updN (s_th σ) ((6 * (s_n σ)) + 0) k) ((6 * (s_n σ)) + 1) a)) T ((6 * (s_n σ)) + 2) b).trans (congrArg (fun z => mw cy ad z T) (by rw [sc_th]))) dX11_doLine_123 (fun H locs hP hD hS => ?_)
    refine ln_iinc (lv' := [(4, .int (nI (3))), (3, .int (m_rd T (j + 2))), (2, .int (m_rd T (j + 1))), (0, .ref (ad 0)), (1, .int (nI (j)))]) hx hb dX11_doLine_124 hl (k := 0) (n := 1) rfl (by decide) rfl (fun ls hl => ?_)
    refine lv_goto (tgt := 83) hx hb dX11_doLine_127 (by decide) ?_
    refine lv_iload hx hb dX11_doLine_83 (lv_at hl 0 rfl) ?_
    refine lv_bipush (v := nI 6) hx hb dX11_doLine_85 (by decide) ?_
    refine lv_icmp_ge (tgt := 130) hx hb dX11_doLine_87 (by decide) (fun c => absurd c (by decide)) (fun _ => ?_)
    refine lv_aload_n hx hb dX11_doLine_90 rfl (lv_at hl 3 rfl) ?_
    refine va_get (D := D) (ci := 10) (v := .ref (ad 1)) (C := RX11) (T := TX11) (N := 31) hx hb hts ni11 hown hK hP 0 (mw_c0 cy ad (su_th σ (updN (updN (updN (s_th σ) ((6 * (s_n σ)) + 0) k) ((6 * (s_n σ)) + 1) a) ((6 * (s_n σ)) + 2) b)) T) rfl 1 (by decide) (hts _ flX11_7) (fun _ h => h) rfl dX11_doLine_91 ?_
    refine lv_bipush (v := nI 6) hx hb dX11_doLine_94 (by decide) ?_
    refine lv_aload_n hx hb dX11_doLine_96 rfl (lv_at hl 3 rfl) ?_
    refine va_get (D := D) (ci := 10) (v := .int (nI (s_n σ))) (C := RX11) (T := TX11) (N := 31) hx hb hts ni11 hown hK hP 0 (mw_c0 cy ad (su_th σ (updN (updN (updN (s_th σ) ((6 * (s_n σ)) + 0) k) ((6 * (s_n σ)) + 1) a) ((6 * (s_n σ)) + 2) b)) T) rfl 0 (by decide) (hts _ flX11_47) (fun _ h => h) rfl dX11_doLine_97 ?_
    refine ln_imul hx hb dX11_doLine_100 ?_
    refine lv_iload hx hb dX11_doLine_101 (lv_at hl 0 rfl) ?_
    refine ln_iadd hx hb dX11_doLine_103 ?_
    refine lv_iload hx hb dX11_doLine_104 (lv_at hl 0 rfl) ?_
    refine lv_iconst (v := nI 3) hx hb dX11_doLine_106 (by decide) ?_
    refine lv_icmp_ge (tgt := 122) hx hb dX11_doLine_107 (by decide) (fun _ => ?_) (fun c => absurd (by decide) c)
    refine lv_iconst (v := nI 0) hx hb dX11_doLine_122 (by decide) ?_
    refine ln_iast hx hb hK hP hD hS 1 (mw_c1 cy ad (su_th σ (updN (updN (updN (s_th σ) ((6 * (s_n σ)) + 0) k) ((6 * (s_n σ)) + 1) a) ((6 * (s_n σ)) + 2) b)) T) (by omega) (by decide) ((mp_1 cy ad (su_th σ (updN (updN (updN (s_th σ) ((6 * (s_n σ)) + 0) k) ((6 * (s_n σ)) + 1) a) ((6 * (s_n σ)) + 2) b)) T ((6 * (s_n σ)) + 3) 0).trans (congrArg (fun z => mw cy ad z T) (by rw [sc_th]))) dX11_doLine_123 (fun H locs hP hD hS => ?_)
    refine ln_iinc (lv' := [(4, .int (nI (4))), (3, .int (m_rd T (j + 2))), (2, .int (m_rd T (j + 1))), (0, .ref (ad 0)), (1, .int (nI (j)))]) hx hb dX11_doLine_124 hl (k := 0) (n := 1) rfl (by decide) rfl (fun ls hl => ?_)
    refine lv_goto (tgt := 83) hx hb dX11_doLine_127 (by decide) ?_
    refine lv_iload hx hb dX11_doLine_83 (lv_at hl 0 rfl) ?_
    refine lv_bipush (v := nI 6) hx hb dX11_doLine_85 (by decide) ?_
    refine lv_icmp_ge (tgt := 130) hx hb dX11_doLine_87 (by decide) (fun c => absurd c (by decide)) (fun _ => ?_)
    refine lv_aload_n hx hb dX11_doLine_90 rfl (lv_at hl 3 rfl) ?_
    refine va_get (D := D) (ci := 10) (v := .ref (ad 1)) (C := RX11) (T := TX11) (N := 31) hx hb hts ni11 hown hK hP 0 (mw_c0 cy ad (su_th σ (updN (updN (updN (updN (s_th σ) ((6 * (s_n σ)) + 0) k) ((6 * (s_n σ)) + 1) a) ((6 * (s_n σ)) + 2) b) ((6 * (s_n σ)) + 3) 0)) T) rfl 1 (by decide) (hts _ flX11_7) (fun _ h => h) rfl dX11_doLine_91 ?_
    refine lv_bipush (v := nI 6) hx hb dX11_doLine_94 (by decide) ?_
    refine lv_aload_n hx hb dX11_doLine_96 rfl (lv_at hl 3 rfl) ?_
    refine va_get (D := D) (ci := 10) (v := .int (nI (s_n σ))) (C := RX11) (T := TX11) (N := 31) hx hb hts ni11 hown hK hP 0 (mw_c0 cy ad (su_th σ (updN (updN (updN (updN (s_th σ) ((6 * (s_n σ)) + 0) k) ((6 * (s_n σ)) + 1) a) ((6 * (s_n σ)) + 2) b) ((6 * (s_n σ)) + 3) 0)) T) rfl 0 (by decide) (hts _ flX11_47) (fun _ h => h) rfl dX11_doLine_97 ?_
    refine ln_imul hx hb dX11_doLine_100 ?_
    refine lv_iload hx hb dX11_doLine_101 (lv_at hl 0 rfl) ?_
    refine ln_iadd hx hb dX11_doLine_103 ?_
    refine lv_iload hx hb dX11_doLine_104 (lv_at hl 0 rfl) ?_
    refine lv_iconst (v := nI 3) hx hb dX11_doLine_106 (by decide) ?_
    refine lv_icmp_ge (tgt := 122) hx hb dX11_doLine_107 (by decide) (fun _ => ?_) (fun c => absurd (by decide) c)
    refine lv_iconst (v := nI 0) hx hb dX11_doLine_122 (by decide) ?_
    refine ln_iast hx hb hK hP hD hS 1 (mw_c1 cy ad (su_th σ (updN (updN (updN (updN (s_th σ) ((6 * (s_n σ)) + 0) k) ((6 * (s_n σ)) + 1) a) ((6 * (s_n σ)) + 2) b) ((6 * (s_n σ)) + 3) 0)) T) (by omega) (by decide) ((mp_1 cy ad (su_th σ (updN (updN (updN (updN (s_th σ) ((6 * (s_n σ)) + 0) k) ((6 * (s_n σ)) + 1) a) ((6 * (s_n σ)) + 2) b) ((6 * (s_n σ)) + 3) 0)) T ((6 * (s_n σ)) + 4) 0).trans (congrArg (fun z => mw cy ad z T) (by rw [sc_th]))) dX11_doLine_123 (fun H locs hP hD hS => ?_)
    refine ln_iinc (lv' := [(4, .int (nI (5))), (3, .int (m_rd T (j + 2))), (2, .int (m_rd T (j + 1))), (0, .ref (ad 0)), (1, .int (nI (j)))]) hx hb dX11_doLine_124 hl (k := 0) (n := 1) rfl (by decide) rfl (fun ls hl => ?_)
    refine lv_goto (tgt := 83) hx hb dX11_doLine_127 (by decide) ?_
    refine lv_iload hx hb dX11_doLine_83 (lv_at hl 0 rfl) ?_
    refine lv_bipush (v := nI 6) hx hb dX11_doLine_85 (by decide) ?_
    refine lv_icmp_ge (tgt := 130) hx hb dX11_doLine_87 (by decide) (fun c => absurd c (by decide)) (fun _ => ?_)
    refine lv_aload_n hx hb dX11_doLine_90 rfl (lv_at hl 3 rfl) ?_
    refine va_get (D := D) (ci := 10) (v := .ref (ad 1)) (C := RX11) (T := TX11) (N := 31) hx hb hts ni11 hown hK hP 0 (mw_c0 cy ad (su_th σ (updN (updN (updN (updN (updN (s_th σ) ((6 * (s_n σ)) + 0) k) ((6 * (s_n σ)) + 1) a) ((6 * (s_n σ)) + 2) b) ((6 * (s_n σ)) + 3) 0) ((6 * (s_n σ)) + 4) 0)) T) rfl 1 (by decide) (hts _ flX11_7) (fun _ h => h) rfl dX11_doLine_91 ?_
    refine lv_bipush (v := nI 6) hx hb dX11_doLine_94 (by decide) ?_
    refine lv_aload_n hx hb dX11_doLine_96 rfl (lv_at hl 3 rfl) ?_
    refine va_get (D := D) (ci := 10) (v := .int (nI (s_n σ))) (C := RX11) (T := TX11) (N := 31) hx hb hts ni11 hown hK hP 0 (mw_c0 cy ad (su_th σ (updN (updN (updN (updN (updN (s_th σ) ((6 * (s_n σ)) + 0) k) ((6 * (s_n σ)) + 1) a) ((6 * (s_n σ)) + 2) b) ((6 * (s_n σ)) + 3) 0) ((6 * (s_n σ)) + 4) 0)) T) rfl 0 (by decide) (hts _ flX11_47) (fun _ h => h) rfl dX11_doLine_97 ?_
    refine ln_imul hx hb dX11_doLine_100 ?_
    refine lv_iload hx hb dX11_doLine_101 (lv_at hl 0 rfl) ?_
    refine ln_iadd hx hb dX11_doLine_103 ?_
    refine lv_iload hx hb dX11_doLine_104 (lv_at hl 0 rfl) ?_
    refine lv_iconst (v := nI 3) hx hb dX11_doLine_106 (by decide) ?_
    refine lv_icmp_ge (tgt := 122) hx hb dX11_doLine_107 (by decide) (fun _ => ?_) (fun c => absurd (by decide) c)
    refine lv_iconst (v := nI 0) hx hb dX11_doLine_122 (by decide) ?_
    refine ln_iast hx hb hK hP hD hS 1 (mw_c1 cy ad (su_th σ (updN (updN (updN (updN (updN (s_th σ) ((6 * (s_n σ)) + 0) k) ((6 * (s_n σ)) + 1) a) ((6 * (s_n σ)) + 2) b) ((6 * (s_n σ)) + 3) 0) ((6 * (s_n σ)) + 4) 0)) T) (by omega) (by decide) ((mp_1 cy ad (su_th σ (updN (updN (updN (updN (updN (s_th σ) ((6 * (s_n σ)) + 0) k) ((6 * (s_n σ)) + 1) a) ((6 * (s_n σ)) + 2) b) ((6 * (s_n σ)) + 3) 0) ((6 * (s_n σ)) + 4) 0)) T ((6 * (s_n σ)) + 5) 0).trans (congrArg (fun z => mw cy ad z T) (by rw [sc_th]))) dX11_doLine_123 (fun H locs hP hD hS => ?_)
    refine ln_iinc (lv' := [(4, .int (nI (6))), (3, .int (m_rd T (j + 2))), (2, .int (m_rd T (j + 1))), (0, .ref (ad 0)), (1, .int (nI (j)))]) hx hb dX11_doLine_124 hl (k := 0) (n := 1) rfl (by decide) rfl (fun ls hl => ?_)
    refine lv_goto (tgt := 83) hx hb dX11_doLine_127 (by decide) ?_
    refine lv_iload hx hb dX11_doLine_83 (lv_at hl 0 rfl) ?_
    refine lv_bipush (v := nI 6) hx hb dX11_doLine_85 (by decide) ?_
    refine lv_icmp_ge (tgt := 130) hx hb dX11_doLine_87 (by decide) (fun _ => ?_) (fun c => absurd (by decide) c)
    refine lv_aload_n hx hb dX11_doLine_130 rfl (lv_at hl 3 rfl) ?_
    refine lv_dup hx hb dX11_doLine_131 rfl ?_
    refine va_get (D := D) (ci := 10) (v := .int (nI (s_n σ))) (C := RX11) (T := TX11) (N := 31) hx hb hts ni11 hown hK hP 0 (mw_c0 cy ad (su_th σ (updN (updN (updN (updN (updN (updN (s_th σ) ((6 * (s_n σ)) + 0) k) ((6 * (s_n σ)) + 1) a) ((6 * (s_n σ)) + 2) b) ((6 * (s_n σ)) + 3) 0) ((6 * (s_n σ)) + 4) 0) ((6 * (s_n σ)) + 5) 0)) T) rfl 0 (by decide) (hts _ flX11_47) (fun _ h => h) rfl dX11_doLine_132 ?_
    refine lv_iconst (v := nI 1) hx hb dX11_doLine_135 (by decide) ?_
    refine ln_iadd hx hb dX11_doLine_136 ?_
    refine ln_put (ci := 10) (C := RX11) (T := TX11) (N := 31) (ty := .int) (v := .int (nI ((s_n σ) + 1))) hx hb hts ni11 tyX11 tyX11_ok nmX11 hown hK hP hD hS 0 (mw_c0 cy ad (su_th σ (updN (updN (updN (updN (updN (updN (s_th σ) ((6 * (s_n σ)) + 0) k) ((6 * (s_n σ)) + 1) a) ((6 * (s_n σ)) + 2) b) ((6 * (s_n σ)) + 3) 0) ((6 * (s_n σ)) + 4) 0) ((6 * (s_n σ)) + 5) 0)) T) rfl 0 (by decide) (hts _ flX11_47) (fun _ h => h) rfl (by decide +kernel) rfl rfl (Nat.le_of_ble_eq_true rfl) (mp_0_0 cy ad (su_th σ (updN (updN (updN (updN (updN (updN (s_th σ) ((6 * (s_n σ)) + 0) k) ((6 * (s_n σ)) + 1) a) ((6 * (s_n σ)) + 2) b) ((6 * (s_n σ)) + 3) 0) ((6 * (s_n σ)) + 4) 0) ((6 * (s_n σ)) + 5) 0)) T ((s_n σ) + 1)) dX11_doLine_137 (fun H locs hP hD hS => ?_)
    refine lv_goto (tgt := 268) hx hb dX11_doLine_140 (by decide) ?_
    exact rw_v hx hb hr hlocks hS () (trivial) (by rw [← do_T hk4 hxs]; exact hP) dX11_doLine_268
  have h143 : 4 ≤ k ∧ k < 7 → W p l e (headSpec qX11_doLine (rq 1)).room s m ([.ref (ad 0), .int (nI (j))] : List Value).toArray below meth c s.heap [] 0 0 (MQ below (va_Qv (fun _ : Unit => True) (fun u t => va_P D vwCl ((fun _ : Unit => mw cy ad (doL σ k xs) T) u) t.heap) A) ([.ref (ad 0), .int (nI (j))] : List Value).toArray s 0 0 A) (F0 m 143 ls []) := by
    intro hk4
    obtain ⟨hm3, a, b, c1, d, hxs, ha1, ha2, hb1, hc1, hc2, hd1, hd2⟩ := ok2 hk4.1 hk4.2
    have e1 : m_rd T (j + 1) = nI a := LB_at (i := 0) hLB (by rw [hxs]; rfl)
    have e2 : m_rd T (j + 2) = nI b := LB_at (i := 1) hLB (by rw [hxs]; rfl)
    have e3 : m_rd T (j + 3) = nI c1 := LB_at (i := 2) hLB (by rw [hxs]; rfl)
    have e4 : m_rd T (j + 4) = nI d := LB_at (i := 3) hLB (by rw [hxs]; rfl)
    refine lv_aload_n hx hb dX11_doLine_143 rfl (lv_at hl 2 rfl) ?_
    refine va_get (D := D) (ci := 10) (v := .ref (ad 2)) (C := RX11) (T := TX11) (N := 31) hx hb hts ni11 hown hK hP 0 (mw_c0 cy ad σ T) rfl 3 (by decide) (hts _ flX11_13) (fun _ h => h) rfl dX11_doLine_144 ?_
    refine lv_iconst (v := nI 5) hx hb dX11_doLine_147 (by decide) ?_
    refine lv_aload_n hx hb dX11_doLine_148 rfl (lv_at hl 2 rfl) ?_
    refine va_get (D := D) (ci := 10) (v := .int (nI (s_m σ))) (C := RX11) (T := TX11) (N := 31) hx hb hts ni11 hown hK hP 0 (mw_c0 cy ad σ T) rfl 2 (by decide) (hts _ flX11_55) (fun _ h => h) rfl dX11_doLine_149 ?_
    refine ln_imul hx hb dX11_doLine_152 ?_
    refine lv_aload_n hx hb dX11_doLine_153 rfl (lv_at hl 2 rfl) ?_
    refine va_get (D := D) (ci := 10) (v := .ref (ad 5)) (C := RX11) (T := TX11) (N := 31) hx hb hts ni11 hown hK hP 0 (mw_c0 cy ad σ T) rfl 16 (by decide) (hts _ flX11_22) (fun _ h => h) rfl dX11_doLine_154 ?_
    refine lv_iload_n hx hb dX11_doLine_157 rfl (lv_at hl 3 rfl) ?_
    refine ln_iald (v := (m_rd T j)) hx hb hK hP 5 (mw_c5 cy ad σ T) (by omega) (by decide) rfl dX11_doLine_158 ?_
    refine ln_eq (show m_rd T (j) = nI k from hLB.1) ?_
    refine lv_iconst (v := nI 4) hx hb dX11_doLine_159 (by decide) ?_
    refine ln_isub hx hb dX11_doLine_160 (by omega) ?_
    refine ln_iast hx hb hK hP hD hS 2 (mw_c2 cy ad σ T) (by omega) (by decide) (mp_2 cy ad σ T (5 * (s_m σ)) (k - 4)) dX11_doLine_161 (fun H locs hP hD hS => ?_)
    refine lv_iconst (v := nI 1) hx hb dX11_doLine_162 (by decide) ?_
    refine lv_istore (lv' := [(4, .int (nI (1))), (3, .int (m_rd T (j + 2))), (2, .int (m_rd T (j + 1))), (0, .ref (ad 0)), (1, .int (nI (j)))]) hx hb dX11_doLine_163 hl (by decide) rfl (fun ls hl => ?_)
    refine lv_iload hx hb dX11_doLine_165 (lv_at hl 0 rfl) ?_
    refine lv_iconst (v := nI 5) hx hb dX11_doLine_167 (by decide) ?_
    refine lv_icmp_ge (tgt := 200) hx hb dX11_doLine_168 (by decide) (fun c => absurd c (by decide)) (fun _ => ?_)
    refine lv_aload_n hx hb dX11_doLine_171 rfl (lv_at hl 3 rfl) ?_
    refine va_get (D := D) (ci := 10) (v := .ref (ad 2)) (C := RX11) (T := TX11) (N := 31) hx hb hts ni11 hown hK hP 0 (mw_c0 cy ad (su_fe σ (updN (s_fe σ) (5 * (s_m σ)) (k - 4))) T) rfl 3 (by decide) (hts _ flX11_13) (fun _ h => h) rfl dX11_doLine_172 ?_
    refine lv_iconst (v := nI 5) hx hb dX11_doLine_175 (by decide) ?_
    refine lv_aload_n hx hb dX11_doLine_176 rfl (lv_at hl 3 rfl) ?_
    refine va_get (D := D) (ci := 10) (v := .int (nI (s_m σ))) (C := RX11) (T := TX11) (N := 31) hx hb hts ni11 hown hK hP 0 (mw_c0 cy ad (su_fe σ (updN (s_fe σ) (5 * (s_m σ)) (k - 4))) T) rfl 2 (by decide) (hts _ flX11_55) (fun _ h => h) rfl dX11_doLine_177 ?_
    refine ln_imul hx hb dX11_doLine_180 ?_
    refine lv_iload hx hb dX11_doLine_181 (lv_at hl 0 rfl) ?_
    refine ln_iadd hx hb dX11_doLine_183 ?_
    refine lv_aload_n hx hb dX11_doLine_184 rfl (lv_at hl 3 rfl) ?_
    refine va_get (D := D) (ci := 10) (v := .ref (ad 5)) (C := RX11) (T := TX11) (N := 31) hx hb hts ni11 hown hK hP 0 (mw_c0 cy ad (su_fe σ (updN (s_fe σ) (5 * (s_m σ)) (k - 4))) T) rfl 16 (by decide) (hts _ flX11_22) (fun _ h => h) rfl dX11_doLine_185 ?_
    refine lv_iload_n hx hb dX11_doLine_188 rfl (lv_at hl 4 rfl) ?_
    refine lv_iload hx hb dX11_doLine_189 (lv_at hl 0 rfl) ?_
    refine ln_iadd hx hb dX11_doLine_191 ?_
    refine ln_iald (v := (m_rd T (j + 1))) hx hb hK hP 5 (mw_c5 cy ad (su_fe σ (updN (s_fe σ) (5 * (s_m σ)) (k - 4))) T) (by omega) (by decide) rfl dX11_doLine_192 ?_
    refine ln_eq (show m_rd T (j + 1) = nI a from e1) ?_
    refine ln_iast hx hb hK hP hD hS 2 (mw_c2 cy ad (su_fe σ (updN (s_fe σ) (5 * (s_m σ)) (k - 4))) T) (by omega) (by decide) ((mp_2 cy ad (su_fe σ (updN (s_fe σ) (5 * (s_m σ)) (k - 4))) T ((5 * (s_m σ)) + 1) a).trans (congrArg (fun z => mw cy ad z T) (by rw [sc_fe]))) dX11_doLine_193 (fun H locs hP hD hS => ?_)
    refine ln_iinc (lv' := [(4, .int (nI (2))), (3, .int (m_rd T (j + 2))), (2, .int (m_rd T (j + 1))), (0, .ref (ad 0)), (1, .int (nI (j)))]) hx hb dX11_doLine_194 hl (k := 0) (n := 1) rfl (by decide) rfl (fun ls hl => ?_)
    refine lv_goto (tgt := 165) hx hb dX11_doLine_197 (by decide) ?_
    refine lv_iload hx hb dX11_doLine_165 (lv_at hl 0 rfl) ?_
    refine lv_iconst (v := nI 5) hx hb dX11_doLine_167 (by decide) ?_
    refine lv_icmp_ge (tgt := 200) hx hb dX11_doLine_168 (by decide) (fun c => absurd c (by decide)) (fun _ => ?_)
    refine lv_aload_n hx hb dX11_doLine_171 rfl (lv_at hl 3 rfl) ?_
    refine va_get (D := D) (ci := 10) (v := .ref (ad 2)) (C := RX11) (T := TX11) (N := 31) hx hb hts ni11 hown hK hP 0 (mw_c0 cy ad (su_fe σ (updN (updN (s_fe σ) (5 * (s_m σ)) (k - 4)) ((5 * (s_m σ)) + 1) a)) T) rfl 3 (by decide) (hts _ flX11_13) (fun _ h => h) rfl dX11_doLine_172 ?_
    refine lv_iconst (v := nI 5) hx hb dX11_doLine_175 (by decide) ?_
    refine lv_aload_n hx hb dX11_doLine_176 rfl (lv_at hl 3 rfl) ?_
    refine va_get (D := D) (ci := 10) (v := .int (nI (s_m σ))) (C := RX11) (T := TX11) (N := 31) hx hb hts ni11 hown hK hP 0 (mw_c0 cy ad (su_fe σ (updN (updN (s_fe σ) (5 * (s_m σ)) (k - 4)) ((5 * (s_m σ)) + 1) a)) T) rfl 2 (by decide) (hts _ flX11_55) (fun _ h => h) rfl dX11_doLine_177 ?_
    refine ln_imul hx hb dX11_doLine_180 ?_
    refine lv_iload hx hb dX11_doLine_181 (lv_at hl 0 rfl) ?_
    refine ln_iadd hx hb dX11_doLine_183 ?_
    refine lv_aload_n hx hb dX11_doLine_184 rfl (lv_at hl 3 rfl) ?_
    refine va_get (D := D) (ci := 10) (v := .ref (ad 5)) (C := RX11) (T := TX11) (N := 31) hx hb hts ni11 hown hK hP 0 (mw_c0 cy ad (su_fe σ (updN (updN (s_fe σ) (5 * (s_m σ)) (k - 4)) ((5 * (s_m σ)) + 1) a)) T) rfl 16 (by decide) (hts _ flX11_22) (fun _ h => h) rfl dX11_doLine_185 ?_
    refine lv_iload_n hx hb dX11_doLine_188 rfl (lv_at hl 4 rfl) ?_
    refine lv_iload hx hb dX11_doLine_189 (lv_at hl 0 rfl) ?_
    refine ln_iadd hx hb dX11_doLine_191 ?_
    refine ln_iald (v := (m_rd T (j + 2))) hx hb hK hP 5 (mw_c5 cy ad (su_fe σ (updN (updN (s_fe σ) (5 * (s_m σ)) (k - 4)) ((5 * (s_m σ)) + 1) a)) T) (by omega) (by decide) rfl dX11_doLine_192 ?_
    refine ln_eq (show m_rd T (j + 2) = nI b from e2) ?_
    refine ln_iast hx hb hK hP hD hS 2 (mw_c2 cy ad (su_fe σ (updN (updN (s_fe σ) (5 * (s_m σ)) (k - 4)) ((5 * (s_m σ)) + 1) a)) T) (by omega) (by decide) ((mp_2 cy ad (su_fe σ (updN (updN (s_fe σ) (5 * (s_m σ)) (k - 4)) ((5 * (s_m σ)) + 1) a)) T ((5 * (s_m σ)) + 2) b).trans (congrArg (fun z => mw cy ad z T) (by rw [sc_fe]))) dX11_doLine_193 (fun H locs hP hD hS => ?_)
    refine ln_iinc (lv' := [(4, .int (nI (3))), (3, .int (m_rd T (j + 2))), (2, .int (m_rd T (j + 1))), (0, .ref (ad 0)), (1, .int (nI (j)))]) hx hb dX11_doLine_194 hl (k := 0) (n := 1) rfl (by decide) rfl (fun ls hl => ?_)
    refine lv_goto (tgt := 165) hx hb dX11_doLine_197 (by decide) ?_
    refine lv_iload hx hb dX11_doLine_165 (lv_at hl 0 rfl) ?_
    refine lv_iconst (v := nI 5) hx hb dX11_doLine_167 (by decide) ?_
    refine lv_icmp_ge (tgt := 200) hx hb dX11_doLine_168 (by decide) (fun c => absurd c (by decide)) (fun _ => ?_)
    refine lv_aload_n hx hb dX11_doLine_171 rfl (lv_at hl 3 rfl) ?_
    refine va_get (D := D) (ci := 10) (v := .ref (ad 2)) (C := RX11) (T := TX11) (N := 31) hx hb hts ni11 hown hK hP 0 (mw_c0 cy ad (su_fe σ (updN (updN (updN (s_fe σ) (5 * (s_m σ)) (k - 4)) ((5 * (s_m σ)) + 1) a) ((5 * (s_m σ)) + 2) b)) T) rfl 3 (by decide) (hts _ flX11_13) (fun _ h => h) rfl dX11_doLine_172 ?_
    refine lv_iconst (v := nI 5) hx hb dX11_doLine_175 (by decide) ?_
    refine lv_aload_n hx hb dX11_doLine_176 rfl (lv_at hl 3 rfl) ?_
    refine va_get (D := D) (ci := 10) (v := .int (nI (s_m σ))) (C := RX11) (T := TX11) (N := 31) hx hb hts ni11 hown hK hP 0 (mw_c0 cy ad (su_fe σ (updN (updN (updN (s_fe σ) (5 * (s_m σ)) (k - 4)) ((5 * (s_m σ)) + 1) a) ((5 * (s_m σ)) + 2) b)) T) rfl 2 (by decide) (hts _ flX11_55) (fun _ h => h) rfl dX11_doLine_177 ?_
    refine ln_imul hx hb dX11_doLine_180 ?_
    refine lv_iload hx hb dX11_doLine_181 (lv_at hl 0 rfl) ?_
    refine ln_iadd hx hb dX11_doLine_183 ?_
    refine lv_aload_n hx hb dX11_doLine_184 rfl (lv_at hl 3 rfl) ?_
    refine va_get (D := D) (ci := 10) (v := .ref (ad 5)) (C := RX11) (T := TX11) (N := 31) hx hb hts ni11 hown hK hP 0 (mw_c0 cy ad (su_fe σ (updN (updN (updN (s_fe σ) (5 * (s_m σ)) (k - 4)) ((5 * (s_m σ)) + 1) a) ((5 * (s_m σ)) + 2) b)) T) rfl 16 (by decide) (hts _ flX11_22) (fun _ h => h) rfl dX11_doLine_185 ?_
    refine lv_iload_n hx hb dX11_doLine_188 rfl (lv_at hl 4 rfl) ?_
    refine lv_iload hx hb dX11_doLine_189 (lv_at hl 0 rfl) ?_
    refine ln_iadd hx hb dX11_doLine_191 ?_
    refine ln_iald (v := (m_rd T (j + 3))) hx hb hK hP 5 (mw_c5 cy ad (su_fe σ (updN (updN (updN (s_fe σ) (5 * (s_m σ)) (k - 4)) ((5 * (s_m σ)) + 1) a) ((5 * (s_m σ)) + 2) b)) T) (by omega) (by decide) rfl dX11_doLine_192 ?_
    refine ln_eq (show m_rd T (j + 3) = nI c1 from e3) ?_
    refine ln_iast hx hb hK hP hD hS 2 (mw_c2 cy ad (su_fe σ (updN (updN (updN (s_fe σ) (5 * (s_m σ)) (k - 4)) ((5 * (s_m σ)) + 1) a) ((5 * (s_m σ)) + 2) b)) T) (by omega) (by decide) ((mp_2 cy ad (su_fe σ (updN (updN (updN (s_fe σ) (5 * (s_m σ)) (k - 4)) ((5 * (s_m σ)) + 1) a) ((5 * (s_m σ)) + 2) b)) T ((5 * (s_m σ)) + 3) c1).trans (congrArg (fun z => mw cy ad z T) (by rw [sc_fe]))) dX11_doLine_193 (fun H locs hP hD hS => ?_)
    refine ln_iinc (lv' := [(4, .int (nI (4))), (3, .int (m_rd T (j + 2))), (2, .int (m_rd T (j + 1))), (0, .ref (ad 0)), (1, .int (nI (j)))]) hx hb dX11_doLine_194 hl (k := 0) (n := 1) rfl (by decide) rfl (fun ls hl => ?_)
    refine lv_goto (tgt := 165) hx hb dX11_doLine_197 (by decide) ?_
    refine lv_iload hx hb dX11_doLine_165 (lv_at hl 0 rfl) ?_
    refine lv_iconst (v := nI 5) hx hb dX11_doLine_167 (by decide) ?_
    refine lv_icmp_ge (tgt := 200) hx hb dX11_doLine_168 (by decide) (fun c => absurd c (by decide)) (fun _ => ?_)
    refine lv_aload_n hx hb dX11_doLine_171 rfl (lv_at hl 3 rfl) ?_
    refine va_get (D := D) (ci := 10) (v := .ref (ad 2)) (C := RX11) (T := TX11) (N := 31) hx hb hts ni11 hown hK hP 0 (mw_c0 cy ad (su_fe σ (updN (updN (updN (updN (s_fe σ) (5 * (s_m σ)) (k - 4)) ((5 * (s_m σ)) + 1) a) ((5 * (s_m σ)) + 2) b) ((5 * (s_m σ)) + 3) c1)) T) rfl 3 (by decide) (hts _ flX11_13) (fun _ h => h) rfl dX11_doLine_172 ?_
    refine lv_iconst (v := nI 5) hx hb dX11_doLine_175 (by decide) ?_
    refine lv_aload_n hx hb dX11_doLine_176 rfl (lv_at hl 3 rfl) ?_
    refine va_get (D := D) (ci := 10) (v := .int (nI (s_m σ))) (C := RX11) (T := TX11) (N := 31) hx hb hts ni11 hown hK hP 0 (mw_c0 cy ad (su_fe σ (updN (updN (updN (updN (s_fe σ) (5 * (s_m σ)) (k - 4)) ((5 * (s_m σ)) + 1) a) ((5 * (s_m σ)) + 2) b) ((5 * (s_m σ)) + 3) c1)) T) rfl 2 (by decide) (hts _ flX11_55) (fun _ h => h) rfl dX11_doLine_177 ?_
    refine ln_imul hx hb dX11_doLine_180 ?_
    refine lv_iload hx hb dX11_doLine_181 (lv_at hl 0 rfl) ?_
    refine ln_iadd hx hb dX11_doLine_183 ?_
    refine lv_aload_n hx hb dX11_doLine_184 rfl (lv_at hl 3 rfl) ?_
    refine va_get (D := D) (ci := 10) (v := .ref (ad 5)) (C := RX11) (T := TX11) (N := 31) hx hb hts ni11 hown hK hP 0 (mw_c0 cy ad (su_fe σ (updN (updN (updN (updN (s_fe σ) (5 * (s_m σ)) (k - 4)) ((5 * (s_m σ)) + 1) a) ((5 * (s_m σ)) + 2) b) ((5 * (s_m σ)) + 3) c1)) T) rfl 16 (by decide) (hts _ flX11_22) (fun _ h => h) rfl dX11_doLine_185 ?_
    refine lv_iload_n hx hb dX11_doLine_188 rfl (lv_at hl 4 rfl) ?_
    refine lv_iload hx hb dX11_doLine_189 (lv_at hl 0 rfl) ?_
    refine ln_iadd hx hb dX11_doLine_191 ?_
    refine ln_iald (v := (m_rd T (j + 4))) hx hb hK hP 5 (mw_c5 cy ad (su_fe σ (updN (updN (updN (updN (s_fe σ) (5 * (s_m σ)) (k - 4)) ((5 * (s_m σ)) + 1) a) ((5 * (s_m σ)) + 2) b) ((5 * (s_m σ)) + 3) c1)) T) (by omega) (by decide) rfl dX11_doLine_192 ?_
    refine ln_eq (show m_rd T (j + 4) = nI d from e4) ?_
    refine ln_iast hx hb hK hP hD hS 2 (mw_c2 cy ad (su_fe σ (updN (updN (updN (updN (s_fe σ) (5 * (s_m σ)) (k - 4)) ((5 * (s_m σ)) + 1) a) ((5 * (s_m σ)) + 2) b) ((5 * (s_m σ)) + 3) c1)) T) (by omega) (by decide) ((mp_2 cy ad (su_fe σ (updN (updN (updN (updN (s_fe σ) (5 * (s_m σ)) (k - 4)) ((5 * (s_m σ)) + 1) a) ((5 * (s_m σ)) + 2) b) ((5 * (s_m σ)) + 3) c1)) T ((5 * (s_m σ)) + 4) d).trans (congrArg (fun z => mw cy ad z T) (by rw [sc_fe]))) dX11_doLine_193 (fun H locs hP hD hS => ?_)
    refine ln_iinc (lv' := [(4, .int (nI (5))), (3, .int (m_rd T (j + 2))), (2, .int (m_rd T (j + 1))), (0, .ref (ad 0)), (1, .int (nI (j)))]) hx hb dX11_doLine_194 hl (k := 0) (n := 1) rfl (by decide) rfl (fun ls hl => ?_)
    refine lv_goto (tgt := 165) hx hb dX11_doLine_197 (by decide) ?_
    refine lv_iload hx hb dX11_doLine_165 (lv_at hl 0 rfl) ?_
    refine lv_iconst (v := nI 5) hx hb dX11_doLine_167 (by decide) ?_
    refine lv_icmp_ge (tgt := 200) hx hb dX11_doLine_168 (by decide) (fun _ => ?_) (fun c => absurd (by decide) c)
    refine lv_aload_n hx hb dX11_doLine_200 rfl (lv_at hl 3 rfl) ?_
    refine lv_dup hx hb dX11_doLine_201 rfl ?_
    refine va_get (D := D) (ci := 10) (v := .int (nI (s_m σ))) (C := RX11) (T := TX11) (N := 31) hx hb hts ni11 hown hK hP 0 (mw_c0 cy ad (su_fe σ (updN (updN (updN (updN (updN (s_fe σ) (5 * (s_m σ)) (k - 4)) ((5 * (s_m σ)) + 1) a) ((5 * (s_m σ)) + 2) b) ((5 * (s_m σ)) + 3) c1) ((5 * (s_m σ)) + 4) d)) T) rfl 2 (by decide) (hts _ flX11_55) (fun _ h => h) rfl dX11_doLine_202 ?_
    refine lv_iconst (v := nI 1) hx hb dX11_doLine_205 (by decide) ?_
    refine ln_iadd hx hb dX11_doLine_206 ?_
    refine ln_put (ci := 10) (C := RX11) (T := TX11) (N := 31) (ty := .int) (v := .int (nI ((s_m σ) + 1))) hx hb hts ni11 tyX11 tyX11_ok nmX11 hown hK hP hD hS 0 (mw_c0 cy ad (su_fe σ (updN (updN (updN (updN (updN (s_fe σ) (5 * (s_m σ)) (k - 4)) ((5 * (s_m σ)) + 1) a) ((5 * (s_m σ)) + 2) b) ((5 * (s_m σ)) + 3) c1) ((5 * (s_m σ)) + 4) d)) T) rfl 2 (by decide) (hts _ flX11_55) (fun _ h => h) rfl (by decide +kernel) rfl rfl (Nat.le_of_ble_eq_true rfl) (mp_0_2 cy ad (su_fe σ (updN (updN (updN (updN (updN (s_fe σ) (5 * (s_m σ)) (k - 4)) ((5 * (s_m σ)) + 1) a) ((5 * (s_m σ)) + 2) b) ((5 * (s_m σ)) + 3) c1) ((5 * (s_m σ)) + 4) d)) T ((s_m σ) + 1)) dX11_doLine_207 (fun H locs hP hD hS => ?_)
    refine lv_goto (tgt := 268) hx hb dX11_doLine_210 (by decide) ?_
    exact rw_v hx hb hr hlocks hS () (trivial) (by rw [← do_F (by omega) hk4.2 hxs]; exact hP) dX11_doLine_268
  have h213 : k = 7 → W p l e (headSpec qX11_doLine (rq 1)).room s m ([.ref (ad 0), .int (nI (j))] : List Value).toArray below meth c s.heap [] 0 0 (MQ below (va_Qv (fun _ : Unit => True) (fun u t => va_P D vwCl ((fun _ : Unit => mw cy ad (doL σ k xs) T) u) t.heap) A) ([.ref (ad 0), .int (nI (j))] : List Value).toArray s 0 0 A) (F0 m 213 ls []) := by
    intro hk4
    refine lv_aload_n hx hb dX11_doLine_213 rfl (lv_at hl 2 rfl) ?_
    refine lv_iconst (v := nI 0) hx hb dX11_doLine_214 (by decide) ?_
    refine ln_put (ci := 10) (C := RX11) (T := TX11) (N := 31) (ty := .int) (v := .int (nI (0))) hx hb hts ni11 tyX11 tyX11_ok nmX11 hown hK hP hD hS 0 (mw_c0 cy ad σ T) rfl 0 (by decide) (hts _ flX11_47) (fun _ h => h) rfl (by decide +kernel) rfl rfl (Nat.le_of_ble_eq_true rfl) (mp_0_0 cy ad σ T 0) dX11_doLine_215 (fun H locs hP hD hS => ?_)
    refine lv_aload_n hx hb dX11_doLine_218 rfl (lv_at hl 2 rfl) ?_
    refine lv_iconst (v := nI 0) hx hb dX11_doLine_219 (by decide) ?_
    refine ln_put (ci := 10) (C := RX11) (T := TX11) (N := 31) (ty := .int) (v := .int (nI (0))) hx hb hts ni11 tyX11 tyX11_ok nmX11 hown hK hP hD hS 0 (mw_c0 cy ad (su_n σ 0) T) rfl 2 (by decide) (hts _ flX11_55) (fun _ h => h) rfl (by decide +kernel) rfl rfl (Nat.le_of_ble_eq_true rfl) (mp_0_2 cy ad (su_n σ 0) T 0) dX11_doLine_220 (fun H locs hP hD hS => ?_)
    refine lv_goto (tgt := 268) hx hb dX11_doLine_223 (by decide) ?_
    exact rw_v hx hb hr hlocks hS () (trivial) (by rw [← do_7 hk4]; exact hP) dX11_doLine_268
  have h226 : k = 8 → W p l e (headSpec qX11_doLine (rq 1)).room s m ([.ref (ad 0), .int (nI (j))] : List Value).toArray below meth c s.heap [] 0 0 (MQ below (va_Qv (fun _ : Unit => True) (fun u t => va_P D vwCl ((fun _ : Unit => mw cy ad (doL σ k xs) T) u) t.heap) A) ([.ref (ad 0), .int (nI (j))] : List Value).toArray s 0 0 A) (F0 m 226 ls []) := by
    intro hk4
    obtain ⟨a, b, hxs, hw1, hw2, hb1⟩ := ok4 hk4
    have e1 : m_rd T (j + 1) = nI a := LB_at (i := 0) hLB (by rw [hxs]; rfl)
    have e2 : m_rd T (j + 2) = nI b := LB_at (i := 1) hLB (by rw [hxs]; rfl)
    refine lv_aload_n hx hb dX11_doLine_226 rfl (lv_at hl 2 rfl) ?_
    refine va_get (D := D) (ci := 10) (v := .ref (ad 1)) (C := RX11) (T := TX11) (N := 31) hx hb hts ni11 hown hK hP 0 (mw_c0 cy ad σ T) rfl 1 (by decide) (hts _ flX11_7) (fun _ h => h) rfl dX11_doLine_227 ?_
    refine lv_bipush (v := nI 6) hx hb dX11_doLine_230 (by decide) ?_
    refine lv_iload_n hx hb dX11_doLine_232 rfl (lv_at hl 1 rfl) ?_
    refine ln_eq (show (m_rd T (j + 1)) = (nI (a)) from e1) ?_
    refine ln_imul hx hb dX11_doLine_233 ?_
    refine lv_iconst (v := nI 3) hx hb dX11_doLine_234 (by decide) ?_
    refine ln_iadd hx hb dX11_doLine_235 ?_
    refine lv_iload_n hx hb dX11_doLine_236 rfl (lv_at hl 0 rfl) ?_
    refine ln_eq (show (m_rd T (j + 2)) = (nI (b)) from e2) ?_
    refine ln_iast hx hb hK hP hD hS 1 (mw_c1 cy ad σ T) (by omega) (by decide) (mp_1 cy ad σ T ((6 * a) + 3) b) dX11_doLine_237 (fun H locs hP hD hS => ?_)
    refine lv_goto (tgt := 268) hx hb dX11_doLine_238 (by decide) ?_
    exact rw_v hx hb hr hlocks hS () (trivial) (by rw [← do_8 hk4 hxs]; exact hP) dX11_doLine_268
  have h241 : k = 9 → W p l e (headSpec qX11_doLine (rq 1)).room s m ([.ref (ad 0), .int (nI (j))] : List Value).toArray below meth c s.heap [] 0 0 (MQ below (va_Qv (fun _ : Unit => True) (fun u t => va_P D vwCl ((fun _ : Unit => mw cy ad (doL σ k xs) T) u) t.heap) A) ([.ref (ad 0), .int (nI (j))] : List Value).toArray s 0 0 A) (F0 m 241 ls []) := by
    intro hk4
    obtain ⟨a, b, hxs, hw1, hb1⟩ := ok5 hk4
    have e1 : m_rd T (j + 1) = nI a := LB_at (i := 0) hLB (by rw [hxs]; rfl)
    have e2 : m_rd T (j + 2) = nI b := LB_at (i := 1) hLB (by rw [hxs]; rfl)
    refine lv_aload_n hx hb dX11_doLine_241 rfl (lv_at hl 2 rfl) ?_
    refine va_get (D := D) (ci := 10) (v := .ref (ad 1)) (C := RX11) (T := TX11) (N := 31) hx hb hts ni11 hown hK hP 0 (mw_c0 cy ad σ T) rfl 1 (by decide) (hts _ flX11_7) (fun _ h => h) rfl dX11_doLine_242 ?_
    refine lv_bipush (v := nI 6) hx hb dX11_doLine_245 (by decide) ?_
    refine lv_iload_n hx hb dX11_doLine_247 rfl (lv_at hl 1 rfl) ?_
    refine ln_eq (show (m_rd T (j + 1)) = (nI (a)) from e1) ?_
    refine ln_imul hx hb dX11_doLine_248 ?_
    refine lv_iconst (v := nI 4) hx hb dX11_doLine_249 (by decide) ?_
    refine ln_iadd hx hb dX11_doLine_250 ?_
    refine lv_iload_n hx hb dX11_doLine_251 rfl (lv_at hl 0 rfl) ?_
    refine ln_eq (show (m_rd T (j + 2)) = (nI (b)) from e2) ?_
    refine ln_iast hx hb hK hP hD hS 1 (mw_c1 cy ad σ T) (by omega) (by decide) (mp_1 cy ad σ T ((6 * a) + 4) b) dX11_doLine_252 (fun H locs hP hD hS => ?_)
    refine lv_goto (tgt := 268) hx hb dX11_doLine_253 (by decide) ?_
    exact rw_v hx hb hr hlocks hS () (trivial) (by rw [← do_9 hk4 hxs]; exact hP) dX11_doLine_268
  have h256 : k = 10 → W p l e (headSpec qX11_doLine (rq 1)).room s m ([.ref (ad 0), .int (nI (j))] : List Value).toArray below meth c s.heap [] 0 0 (MQ below (va_Qv (fun _ : Unit => True) (fun u t => va_P D vwCl ((fun _ : Unit => mw cy ad (doL σ k xs) T) u) t.heap) A) ([.ref (ad 0), .int (nI (j))] : List Value).toArray s 0 0 A) (F0 m 256 ls []) := by
    intro hk4
    obtain ⟨a, hxs, hw1⟩ := ok6 hk4
    have e1 : m_rd T (j + 1) = nI a := LB_at (i := 0) hLB (by rw [hxs]; rfl)
    refine lv_aload_n hx hb dX11_doLine_256 rfl (lv_at hl 2 rfl) ?_
    refine va_get (D := D) (ci := 10) (v := .ref (ad 1)) (C := RX11) (T := TX11) (N := 31) hx hb hts ni11 hown hK hP 0 (mw_c0 cy ad σ T) rfl 1 (by decide) (hts _ flX11_7) (fun _ h => h) rfl dX11_doLine_257 ?_
    refine lv_bipush (v := nI 6) hx hb dX11_doLine_260 (by decide) ?_
    refine lv_iload_n hx hb dX11_doLine_262 rfl (lv_at hl 1 rfl) ?_
    refine ln_eq (show (m_rd T (j + 1)) = (nI (a)) from e1) ?_
    refine ln_imul hx hb dX11_doLine_263 ?_
    refine lv_iconst (v := nI 5) hx hb dX11_doLine_264 (by decide) ?_
    refine ln_iadd hx hb dX11_doLine_265 ?_
    refine lv_iconst (v := nI 1) hx hb dX11_doLine_266 (by decide) ?_
    refine ln_iast hx hb hK hP hD hS 1 (mw_c1 cy ad σ T) (by omega) (by decide) (mp_1 cy ad σ T ((6 * a) + 5) 1) dX11_doLine_267 (fun H locs hP hD hS => ?_)
    exact rw_v hx hb hr hlocks hS () (trivial) (by rw [← do_10 hk4 hxs]; exact hP) dX11_doLine_268
  rcases (show k = 0 ∨ k = 1 ∨ k = 2 ∨ k = 3 ∨ k = 4 ∨ k = 5 ∨ k = 6 ∨ k = 7 ∨ k = 8 ∨ k = 9 ∨ k = 10 by omega) with hk | hk | hk | hk | hk | hk | hk | hk | hk | hk | hk
  · refine ln_eq (show (m_rd T j) = nI 0 from by rw [hLB.1, hk]) ?_
    refine lv_tableIn (tgt := 80) hx hb dX11_doLine_24 (by decide) (by decide) rfl (by decide) ?_
    exact h80 (by omega)
  · refine ln_eq (show (m_rd T j) = nI 1 from by rw [hLB.1, hk]) ?_
    refine lv_tableIn (tgt := 80) hx hb dX11_doLine_24 (by decide) (by decide) rfl (by decide) ?_
    exact h80 (by omega)
  · refine ln_eq (show (m_rd T j) = nI 2 from by rw [hLB.1, hk]) ?_
    refine lv_tableIn (tgt := 80) hx hb dX11_doLine_24 (by decide) (by decide) rfl (by decide) ?_
    exact h80 (by omega)
  · refine ln_eq (show (m_rd T j) = nI 3 from by rw [hLB.1, hk]) ?_
    refine lv_tableIn (tgt := 80) hx hb dX11_doLine_24 (by decide) (by decide) rfl (by decide) ?_
    exact h80 (by omega)
  · refine ln_eq (show (m_rd T j) = nI 4 from by rw [hLB.1, hk]) ?_
    refine lv_tableIn (tgt := 143) hx hb dX11_doLine_24 (by decide) (by decide) rfl (by decide) ?_
    exact h143 (by omega)
  · refine ln_eq (show (m_rd T j) = nI 5 from by rw [hLB.1, hk]) ?_
    refine lv_tableIn (tgt := 143) hx hb dX11_doLine_24 (by decide) (by decide) rfl (by decide) ?_
    exact h143 (by omega)
  · refine ln_eq (show (m_rd T j) = nI 6 from by rw [hLB.1, hk]) ?_
    refine lv_tableIn (tgt := 143) hx hb dX11_doLine_24 (by decide) (by decide) rfl (by decide) ?_
    exact h143 (by omega)
  · refine ln_eq (show (m_rd T j) = nI 7 from by rw [hLB.1, hk]) ?_
    refine lv_tableIn (tgt := 213) hx hb dX11_doLine_24 (by decide) (by decide) rfl (by decide) ?_
    exact h213 (by omega)
  · refine ln_eq (show (m_rd T j) = nI 8 from by rw [hLB.1, hk]) ?_
    refine lv_tableIn (tgt := 226) hx hb dX11_doLine_24 (by decide) (by decide) rfl (by decide) ?_
    exact h226 (by omega)
  · refine ln_eq (show (m_rd T j) = nI 9 from by rw [hLB.1, hk]) ?_
    refine lv_tableIn (tgt := 241) hx hb dX11_doLine_24 (by decide) (by decide) rfl (by decide) ?_
    exact h241 (by omega)
  · refine ln_eq (show (m_rd T j) = nI 10 from by rw [hLB.1, hk]) ?_
    refine lv_tableOut (tgt := 256) hx hb dX11_doLine_24 (Or.inr (by decide)) (by decide) ?_
    exact h256 (by omega)
set_option maxHeartbeats 4000000 in
set_option maxRecDepth 100000 in
theorem k_X11_fault (l : Launch) (D : va_G) (cy : Nat → ClassId) (ad : Nat → Nat) (σ : Sg) (T : Ms)  (hw : wfS σ) : MW l yX11_fault qX11_fault 7 [.ref (ad 0)] D cy (mw cy ad σ T) (fun (r : Int32) (_ : Ms) => r = a_fault σ) (fun u : Ms => mw cy ad σ u) := by
  intro sz
  refine Met.ofW (cc := cX11_fault) (maxL := 1) (ret := (some .int)) (by decide) rfl ?_
  intro p e s m args below meth c s₁ B hml hv
  obtain ⟨rfl, rfl, hP, hK, hN, hD0⟩ := hv
  have hx := B.exec
  have hb := B.bytes
  have hr := B.returns
  have hlocks := B.notSynchronized
  have hts : ∀ cq ∈ tg, cq.before ([.ref (ad 0)] : List Value).toArray s = true := fun cq h => atoms_spec (ws := qX11_fault) B.pre cq (List.mem_cons_of_mem _ h)
  have hown : s.vm.findClass RX11 = some m.cls := findClass_of_methodNamed B.named
  have hD := hD0.self (sz := s.heap.size)
  generalize hAe : va_A (mw cy ad σ T) s.heap.size = A at hD ⊢
  have hA : ∀ q : Nat, s.heap.size ≤ q → A q := fun q h => by rw [← hAe]; exact Or.inr h
  have hS : va_S A s.heap s.heap [] := va_S.rf
  have hl := lv_entry ([.ref (ad 0)]) (n := 1) (Nat.le_of_ble_eq_true rfl)
  rw [lg_entry_eq]
  generalize (lg_sl ([.ref (ad 0)]) ++ List.replicate (1 - (lg_sl ([.ref (ad 0)])).length) Slot.unset).toArray = ls at hl ⊢
  have hl : lv_has ls 1 [(0, .ref (ad 0))] := hl
  refine lv_aload_n hx hb dX11_fault_0 rfl (lv_at hl 0 rfl) ?_
  refine cr_w (n := 0) (As := []) (rest := []) ⟨hx, hb, hml, hown, hts⟩ (k_X11_isRead l D cy ad σ T hw) gvX11_148 (by decide +kernel) ⟨Nat.le_of_ble_eq_true rfl, Nat.le_of_ble_eq_true rfl⟩ hK hN hP hD hS hA 0 (mw_c0 cy ad σ T) rfl rfl hl.1 rfl (Nat.le_of_ble_eq_true rfl) dX11_fault_1 ⟨Nat.zero_le _, Nat.zero_le _⟩ (fun _ => (mw_ad _ _ _ _).trans (mw_ad _ _ _ _).symm) (fun r2 u1 H locs hpu1 hP hD hS => ?_)
  obtain ⟨rfl, erd1⟩ := hpu1
  refine lb_if_eq (tgt := 11) hx hb dX11_fault_4 (by decide) (fun c4 => ?_) (fun c4 => ?_)
  · refine lv_aload_n hx hb dX11_fault_11 rfl (lv_at hl 0 rfl) ?_
    refine va_get (D := D) (ci := 10) (v := .int (m_fa u1)) (C := RX11) (T := TX11) (N := 31) hx hb hts ni11 hown hK hP 0 (mw_c0 cy ad σ u1) rfl 11 (by decide) (hts _ flX11_91) (fun _ h => h) rfl dX11_fault_12 ?_
    exact rw_i hx hb hr hlocks hS u1 (by cases hz : rRun σ 12 σ 0 with | inr f => rw [hz] at c4; cases c4 | inl f => have hh := erd1; rw [hz] at hh; rw [a_fault, hz]; exact hh) hP dX11_fault_15
  · refine lv_iconst (v := -1) hx hb dX11_fault_7 (by decide) ?_
    refine lv_goto (tgt := 15) hx hb dX11_fault_8 (by decide) ?_
    exact rw_i hx hb hr hlocks hS u1 (by cases hz : rRun σ 12 σ 0 with | inl f => rw [hz] at c4; cases c4 | inr q => rw [a_fault, hz]) hP dX11_fault_15
set_option maxHeartbeats 4000000 in
set_option maxRecDepth 100000 in
theorem k_X11_shore (l : Launch) (D : va_G) (cy : Nat → ClassId) (ad : Nat → Nat) (σ : Sg) (T : Ms)  (hw : wfS σ) : MW l yX11_shore qX11_shore 8 [.ref (ad 0)] D cy (mw cy ad σ T) (fun (r : Int32) (_ : Ms) => r = a_shore σ) (fun u : Ms => mw cy ad (n_shore σ) u) := by
  intro sz
  refine Met.ofW (cc := cX11_shore) (maxL := 2) (ret := (some .int)) (by decide) rfl ?_
  intro p e s m args below meth c s₁ B hml hv
  obtain ⟨rfl, rfl, hP, hK, hN, hD0⟩ := hv
  have hx := B.exec
  have hb := B.bytes
  have hr := B.returns
  have hlocks := B.notSynchronized
  have hts : ∀ cq ∈ tg, cq.before ([.ref (ad 0)] : List Value).toArray s = true := fun cq h => atoms_spec (ws := qX11_shore) B.pre cq (List.mem_cons_of_mem _ h)
  have hown : s.vm.findClass RX11 = some m.cls := findClass_of_methodNamed B.named
  have hD := hD0.self (sz := s.heap.size)
  generalize hAe : va_A (mw cy ad σ T) s.heap.size = A at hD ⊢
  have hA : ∀ q : Nat, s.heap.size ≤ q → A q := fun q h => by rw [← hAe]; exact Or.inr h
  have hS : va_S A s.heap s.heap [] := va_S.rf
  have hl := lv_entry ([.ref (ad 0)]) (n := 2) (Nat.le_of_ble_eq_true rfl)
  rw [lg_entry_eq]
  generalize (lg_sl ([.ref (ad 0)]) ++ List.replicate (2 - (lg_sl ([.ref (ad 0)])).length) Slot.unset).toArray = ls at hl ⊢
  have hl : lv_has ls 2 [(0, .ref (ad 0))] := hl
  refine lv_aload_n hx hb dX11_shore_0 rfl (lv_at hl 0 rfl) ?_
  refine cr_w (n := 0) (As := []) (rest := []) ⟨hx, hb, hml, hown, hts⟩ (k_X11_isRead l D cy ad σ T hw) gvX11_148 (by decide +kernel) ⟨Nat.le_of_ble_eq_true rfl, Nat.le_of_ble_eq_true rfl⟩ hK hN hP hD hS hA 0 (mw_c0 cy ad σ T) rfl rfl hl.1 rfl (Nat.le_of_ble_eq_true rfl) dX11_shore_1 ⟨Nat.zero_le _, Nat.zero_le _⟩ (fun _ => (mw_ad _ _ _ _).trans (mw_ad _ _ _ _).symm) (fun r2 u1 H locs hpu1 hP hD hS => ?_)
  obtain ⟨rfl, erd1⟩ := hpu1
  refine lb_if_ne (tgt := 10) hx hb dX11_shore_4 (by decide) (fun c4 => ?_) (fun c4 => ?_)
  · refine lv_iconst (v := nI 0) hx hb dX11_shore_10 (by decide) ?_
    refine lv_istore_n (lv' := [(1, .int (nI (0))), (0, .ref (ad 0))]) hx hb dX11_shore_11 rfl hl (by decide) rfl (fun ls hl => ?_)
    obtain ⟨q, hq⟩ : ∃ q, rRun σ 12 σ 0 = .inr q := by cases hz : rRun σ 12 σ 0 with | inl f => rw [hz] at c4; cases c4 | inr x => exact ⟨x, rfl⟩
    have hrd : m_rm u1 = nI q.length ∧ LBs u1 q := by have hh := erd1; rw [hq] at hh; exact hh
    have hmm := hrd.1
    obtain ⟨hokq, hlen⟩ := rRun_ok (wf1_of hw) hq
    have sl : ∀ (r : List (Nat × List Nat)) (τ : Sg) (i : Nat) (H : Heap) (locs : List Loc) (ls : Array Slot), i + r.length = q.length → wf1 τ → okR τ r → runL τ r = runL σ q → (∀ j x, r[j]? = some x → LB u1 (5 * (i + j)) x.1 x.2) → va_P D vwCl (mw cy ad τ u1) H → va_D A (mw cy ad τ u1) → va_S A s.heap H locs → lv_has ls 2 [(1, .int (nI (i))), (0, .ref (ad 0))] → W p l e (headSpec qX11_shore (rq 8)).room s m ([.ref (ad 0)] : List Value).toArray below meth c H locs 0 0 (MQ below (va_Qi (fun (r : Int32) (_ : Ms) => r = a_shore σ) (fun u t => va_P D vwCl ((fun u : Ms => mw cy ad (n_shore σ) u) u) t.heap) A) ([.ref (ad 0)] : List Value).toArray s 0 0 A) (F0 m 12 ls []) := by
      intro r
      induction r with
      | nil =>
        intro τ i H locs ls hi hwf hokr hrun hLB hP hD hS hl
        have hi : i = q.length := hi
        have hrun : τ = runL σ q := hrun
        have hw1 := hwf.1
        have hw2 := hwf.2.1
        have hwt := hwf.2.2.1
        have hwfe := hwf.2.2.2.1
        refine lv_iload_n hx hb dX11_shore_12 rfl (lv_at hl 0 rfl) ?_
        refine lv_aload_n hx hb dX11_shore_13 rfl (lv_at hl 1 rfl) ?_
        refine va_get (D := D) (ci := 10) (v := .int (m_rm u1)) (C := RX11) (T := TX11) (N := 31) hx hb hts ni11 hown hK hP 0 (mw_c0 cy ad τ u1) rfl 12 (by decide) (hts _ flX11_142) (fun _ h => h) rfl dX11_shore_14 ?_
        refine ln_eq (show (m_rm u1) = (nI (q.length)) from hmm) ?_
        refine ln_icmp_ge (tgt := 33) hx hb dX11_shore_17 (by decide) (by omega) (by omega) (fun c17 => ?_) (fun c17 => ?_)
        · refine lv_aload_n hx hb dX11_shore_33 rfl (lv_at hl 1 rfl) ?_
          refine lv_iconst (v := nI 0) hx hb dX11_shore_34 (by decide) ?_
          refine ln_put (ci := 10) (C := RX11) (T := TX11) (N := 31) (ty := .int) (v := .int (nI (0))) hx hb hts ni11 tyX11 tyX11_ok nmX11 hown hK hP hD hS 0 (mw_c0 cy ad τ u1) rfl 4 (by decide) (hts _ flX11_58) (fun _ h => h) rfl (by decide +kernel) rfl rfl (Nat.le_of_ble_eq_true rfl) (mp_0_4 cy ad τ u1 0) dX11_shore_35 (fun H locs hP hD hS => ?_)
          refine lv_aload_n hx hb dX11_shore_38 rfl (lv_at hl 1 rfl) ?_
          refine lv_iconst (v := nI 0) hx hb dX11_shore_39 (by decide) ?_
          refine ln_put (ci := 10) (C := RX11) (T := TX11) (N := 31) (ty := .int) (v := .int (nI (0))) hx hb hts ni11 tyX11 tyX11_ok nmX11 hown hK hP hD hS 0 (mw_c0 cy ad (su_ln τ 0) u1) rfl 17 (by decide) (hts _ flX11_155) (fun _ h => h) rfl (by decide +kernel) rfl rfl (Nat.le_of_ble_eq_true rfl) (mp_0_17 cy ad (su_ln τ 0) u1 0) dX11_shore_40 (fun H locs hP hD hS => ?_)
          refine lv_aload_n hx hb dX11_shore_43 rfl (lv_at hl 1 rfl) ?_
          refine lv_iconst (v := nI 0) hx hb dX11_shore_44 (by decide) ?_
          refine ln_put (ci := 10) (C := RX11) (T := TX11) (N := 31) (ty := .int) (v := .int (nI (0))) hx hb hts ni11 tyX11 tyX11_ok nmX11 hown hK hP hD hS 0 (mw_c0 cy ad (su_ov (su_ln τ 0) 0) u1) rfl 18 (by decide) (hts _ flX11_158) (fun _ h => h) rfl (by decide +kernel) rfl rfl (Nat.le_of_ble_eq_true rfl) (mp_0_18 cy ad (su_ov (su_ln τ 0) 0) u1 0) dX11_shore_45 (fun H locs hP hD hS => ?_)
          refine lv_iconst (v := nI 0) hx hb dX11_shore_48 (by decide) ?_
          refine lv_istore_n (lv' := [(1, .int (nI (0))), (0, .ref (ad 0))]) hx hb dX11_shore_49 rfl hl (by decide) rfl (fun ls hl => ?_)
          have lp2 : ∀ (k_lp2 i : Nat) (ls : Array Slot) (H : Heap) (locs : List Loc) , i + k_lp2 = s_n τ → va_P D vwCl (mw cy ad (su_mo (su_ov (su_ln τ 0) (orM (fun t => s_th τ (6 * t + 2)) i)) 0) u1) H → va_D A (mw cy ad (su_mo (su_ov (su_ln τ 0) (orM (fun t => s_th τ (6 * t + 2)) i)) 0) u1) → va_S A s.heap H locs → lv_has ls 2 [(1, .int (nI (i))), (0, .ref (ad 0))] → W p l e (headSpec qX11_shore (rq 8)).room s m ([.ref (ad 0)] : List Value).toArray below meth c H locs 0 0 (MQ below (va_Qi (fun (r : Int32) (_ : Ms) => r = a_shore σ) (fun u t => va_P D vwCl ((fun u : Ms => mw cy ad (n_shore σ) u) u) t.heap) A) ([.ref (ad 0)] : List Value).toArray s 0 0 A) (F0 m 50 ls []) := by
            intro k_lp2
            induction k_lp2 with
            | zero =>
              intro i ls H locs hi_lp2 hP hD hS hl
              have hti := hwt i
              refine lv_iload_n hx hb dX11_shore_50 rfl (lv_at hl 0 rfl) ?_
              refine lv_aload_n hx hb dX11_shore_51 rfl (lv_at hl 1 rfl) ?_
              refine va_get (D := D) (ci := 10) (v := .int (nI (s_n τ))) (C := RX11) (T := TX11) (N := 31) hx hb hts ni11 hown hK hP 0 (mw_c0 cy ad (su_mo (su_ov (su_ln τ 0) (orM (fun t => s_th τ (6 * t + 2)) i)) 0) u1) rfl 0 (by decide) (hts _ flX11_47) (fun _ h => h) rfl dX11_shore_52 ?_
              refine ln_icmp_ge (tgt := 86) hx hb dX11_shore_55 (by decide) (by omega) (by omega) (fun c55 => ?_) (fun c55 => ?_)
              · have hie : i = s_n τ := by omega
                rw [hie] at hP hD
                refine lv_iconst (v := nI 0) hx hb dX11_shore_86 (by decide) ?_
                refine lv_istore_n (lv' := [(1, .int (nI (0))), (0, .ref (ad 0))]) hx hb dX11_shore_87 rfl hl (by decide) rfl (fun ls hl => ?_)
                have lp3 : ∀ (k_lp3 i : Nat) (ls : Array Slot) (H : Heap) (locs : List Loc) , i + k_lp3 = s_m τ → va_P D vwCl (mw cy ad (su_mo (su_ov (su_ln τ 0) (orM (fun t => s_th τ (6 * t + 2)) (s_n τ))) (orM (fun t => s_fe τ (5 * t + 2)) i)) u1) H → va_D A (mw cy ad (su_mo (su_ov (su_ln τ 0) (orM (fun t => s_th τ (6 * t + 2)) (s_n τ))) (orM (fun t => s_fe τ (5 * t + 2)) i)) u1) → va_S A s.heap H locs → lv_has ls 2 [(1, .int (nI (i))), (0, .ref (ad 0))] → W p l e (headSpec qX11_shore (rq 8)).room s m ([.ref (ad 0)] : List Value).toArray below meth c H locs 0 0 (MQ below (va_Qi (fun (r : Int32) (_ : Ms) => r = a_shore σ) (fun u t => va_P D vwCl ((fun u : Ms => mw cy ad (n_shore σ) u) u) t.heap) A) ([.ref (ad 0)] : List Value).toArray s 0 0 A) (F0 m 88 ls []) := by
                  intro k_lp3
                  induction k_lp3 with
                  | zero =>
                    intro i ls H locs hi_lp3 hP hD hS hl
                    have hti := hwfe i
                    refine lv_iload_n hx hb dX11_shore_88 rfl (lv_at hl 0 rfl) ?_
                    refine lv_aload_n hx hb dX11_shore_89 rfl (lv_at hl 1 rfl) ?_
                    refine va_get (D := D) (ci := 10) (v := .int (nI (s_m τ))) (C := RX11) (T := TX11) (N := 31) hx hb hts ni11 hown hK hP 0 (mw_c0 cy ad (su_mo (su_ov (su_ln τ 0) (orM (fun t => s_th τ (6 * t + 2)) (s_n τ))) (orM (fun t => s_fe τ (5 * t + 2)) i)) u1) rfl 2 (by decide) (hts _ flX11_55) (fun _ h => h) rfl dX11_shore_90 ?_
                    refine ln_icmp_ge (tgt := 123) hx hb dX11_shore_93 (by decide) (by omega) (by omega) (fun c93 => ?_) (fun c93 => ?_)
                    · have hie : i = s_m τ := by omega
                      rw [hie] at hP hD
                      refine lv_aload_n hx hb dX11_shore_123 rfl (lv_at hl 1 rfl) ?_
                      refine lv_iconst (v := nI 0) hx hb dX11_shore_124 (by decide) ?_
                      refine ln_put (ci := 10) (C := RX11) (T := TX11) (N := 31) (ty := .int) (v := .int (nI (0))) hx hb hts ni11 tyX11 tyX11_ok nmX11 hown hK hP hD hS 0 (mw_c0 cy ad (su_mo (su_ov (su_ln τ 0) (orM (fun t => s_th τ (6 * t + 2)) (s_n τ))) (orM (fun t => s_fe τ (5 * t + 2)) (s_m τ))) u1) rfl 19 (by decide) (hts _ flX11_161) (fun _ h => h) rfl (by decide +kernel) rfl rfl (Nat.le_of_ble_eq_true rfl) (mp_0_19 cy ad (su_mo (su_ov (su_ln τ 0) (orM (fun t => s_th τ (6 * t + 2)) (s_n τ))) (orM (fun t => s_fe τ (5 * t + 2)) (s_m τ))) u1 0) dX11_shore_125 (fun H locs hP hD hS => ?_)
                      refine lv_aload_n hx hb dX11_shore_128 rfl (lv_at hl 1 rfl) ?_
                      refine lv_iconst (v := nI 0) hx hb dX11_shore_129 (by decide) ?_
                      refine ln_eq (show (nI (0)) = (bI (false)) from rfl) ?_
                      refine ln_put (ci := 10) (C := RX11) (T := TX11) (N := 31) (ty := .int) (v := .int (bI (false))) hx hb hts ni11 tyX11 tyX11_ok nmX11 hown hK hP hD hS 0 (mw_c0 cy ad (su_of (su_mo (su_ov (su_ln τ 0) (orM (fun t => s_th τ (6 * t + 2)) (s_n τ))) (orM (fun t => s_fe τ (5 * t + 2)) (s_m τ))) 0) u1) rfl 20 (by decide) (hts _ flX11_164) (fun _ h => h) rfl (by decide +kernel) rfl rfl (Nat.le_of_ble_eq_true rfl) (mp_0_20 cy ad (su_of (su_mo (su_ov (su_ln τ 0) (orM (fun t => s_th τ (6 * t + 2)) (s_n τ))) (orM (fun t => s_fe τ (5 * t + 2)) (s_m τ))) 0) u1 false) dX11_shore_130 (fun H locs hP hD hS => ?_)
                      refine lv_aload_n hx hb dX11_shore_133 rfl (lv_at hl 1 rfl) ?_
                      refine lv_iconst (v := nI 0) hx hb dX11_shore_134 (by decide) ?_
                      refine ln_put (ci := 10) (C := RX11) (T := TX11) (N := 31) (ty := .int) (v := .int (nI (0))) hx hb hts ni11 tyX11 tyX11_ok nmX11 hown hK hP hD hS 0 (mw_c0 cy ad (su_la (su_of (su_mo (su_ov (su_ln τ 0) (orM (fun t => s_th τ (6 * t + 2)) (s_n τ))) (orM (fun t => s_fe τ (5 * t + 2)) (s_m τ))) 0) false) u1) rfl 21 (by decide) (hts _ flX11_167) (fun _ h => h) rfl (by decide +kernel) rfl rfl (Nat.le_of_ble_eq_true rfl) (mp_0_21 cy ad (su_la (su_of (su_mo (su_ov (su_ln τ 0) (orM (fun t => s_th τ (6 * t + 2)) (s_n τ))) (orM (fun t => s_fe τ (5 * t + 2)) (s_m τ))) 0) false) u1 0) dX11_shore_135 (fun H locs hP hD hS => ?_)
                      refine lv_aload_n hx hb dX11_shore_138 rfl (lv_at hl 1 rfl) ?_
                      refine lv_iconst (v := nI 0) hx hb dX11_shore_139 (by decide) ?_
                      refine ln_put (ci := 10) (C := RX11) (T := TX11) (N := 31) (ty := .int) (v := .int (nI (0))) hx hb hts ni11 tyX11 tyX11_ok nmX11 hown hK hP hD hS 0 (mw_c0 cy ad (su_cr (su_la (su_of (su_mo (su_ov (su_ln τ 0) (orM (fun t => s_th τ (6 * t + 2)) (s_n τ))) (orM (fun t => s_fe τ (5 * t + 2)) (s_m τ))) 0) false) 0) u1) rfl 24 (by decide) (hts _ flX11_170) (fun _ h => h) rfl (by decide +kernel) rfl rfl (Nat.le_of_ble_eq_true rfl) (mp_0_24 cy ad (su_cr (su_la (su_of (su_mo (su_ov (su_ln τ 0) (orM (fun t => s_th τ (6 * t + 2)) (s_n τ))) (orM (fun t => s_fe τ (5 * t + 2)) (s_m τ))) 0) false) 0) u1 0) dX11_shore_140 (fun H locs hP hD hS => ?_)
                      refine lv_aload_n hx hb dX11_shore_143 rfl (lv_at hl 1 rfl) ?_
                      refine va_get (D := D) (ci := 10) (v := .ref (ad 7)) (C := RX11) (T := TX11) (N := 31) hx hb hts ni11 hown hK hP 0 (mw_c0 cy ad (su_rn (su_cr (su_la (su_of (su_mo (su_ov (su_ln τ 0) (orM (fun t => s_th τ (6 * t + 2)) (s_n τ))) (orM (fun t => s_fe τ (5 * t + 2)) (s_m τ))) 0) false) 0) 0) u1) rfl 23 (by decide) (hts _ flX11_28) (fun _ h => h) rfl dX11_shore_144 ?_
                      refine lv_iconst (v := nI 0) hx hb dX11_shore_147 (by decide) ?_
                      refine lv_iconst (v := nI 0) hx hb dX11_shore_148 (by decide) ?_
                      refine ln_eq (show (nI (0)) = (bI (false)) from rfl) ?_
                      refine ln_zast hx hb hK hP hD hS 7 (mw_c7 cy ad (su_rn (su_cr (su_la (su_of (su_mo (su_ov (su_ln τ 0) (orM (fun t => s_th τ (6 * t + 2)) (s_n τ))) (orM (fun t => s_fe τ (5 * t + 2)) (s_m τ))) 0) false) 0) 0) u1) (by omega) (by decide) (mp_7 cy ad (su_rn (su_cr (su_la (su_of (su_mo (su_ov (su_ln τ 0) (orM (fun t => s_th τ (6 * t + 2)) (s_n τ))) (orM (fun t => s_fe τ (5 * t + 2)) (s_m τ))) 0) false) 0) 0) u1 0 false) dX11_shore_149 (fun H locs hP hD hS => ?_)
                      refine lv_aload_n hx hb dX11_shore_150 rfl (lv_at hl 1 rfl) ?_
                      refine va_get (D := D) (ci := 10) (v := .ref (ad 7)) (C := RX11) (T := TX11) (N := 31) hx hb hts ni11 hown hK hP 0 (mw_c0 cy ad (su_kp (su_rn (su_cr (su_la (su_of (su_mo (su_ov (su_ln τ 0) (orM (fun t => s_th τ (6 * t + 2)) (s_n τ))) (orM (fun t => s_fe τ (5 * t + 2)) (s_m τ))) 0) false) 0) 0) (updB (s_kp τ) 0 false)) u1) rfl 23 (by decide) (hts _ flX11_28) (fun _ h => h) rfl dX11_shore_151 ?_
                      refine lv_iconst (v := nI 1) hx hb dX11_shore_154 (by decide) ?_
                      refine lv_iconst (v := nI 0) hx hb dX11_shore_155 (by decide) ?_
                      refine ln_eq (show (nI (0)) = (bI (false)) from rfl) ?_
                      refine ln_zast hx hb hK hP hD hS 7 (mw_c7 cy ad (su_kp (su_rn (su_cr (su_la (su_of (su_mo (su_ov (su_ln τ 0) (orM (fun t => s_th τ (6 * t + 2)) (s_n τ))) (orM (fun t => s_fe τ (5 * t + 2)) (s_m τ))) 0) false) 0) 0) (updB (s_kp τ) 0 false)) u1) (by omega) (by decide) ((mp_7 cy ad (su_kp (su_rn (su_cr (su_la (su_of (su_mo (su_ov (su_ln τ 0) (orM (fun t => s_th τ (6 * t + 2)) (s_n τ))) (orM (fun t => s_fe τ (5 * t + 2)) (s_m τ))) 0) false) 0) 0) (updB (s_kp τ) 0 false)) u1 1 false).trans (congrArg (fun z => mw cy ad z u1) (by rw [sc_kp]))) dX11_shore_156 (fun H locs hP hD hS => ?_)
                      refine lv_aload_n hx hb dX11_shore_157 rfl (lv_at hl 1 rfl) ?_
                      refine va_get (D := D) (ci := 10) (v := .int (m_rm u1)) (C := RX11) (T := TX11) (N := 31) hx hb hts ni11 hown hK hP 0 (mw_c0 cy ad (su_kp (su_rn (su_cr (su_la (su_of (su_mo (su_ov (su_ln τ 0) (orM (fun t => s_th τ (6 * t + 2)) (s_n τ))) (orM (fun t => s_fe τ (5 * t + 2)) (s_m τ))) 0) false) 0) 0) (updB (updB (s_kp τ) 0 false) 1 false)) u1) rfl 12 (by decide) (hts _ flX11_142) (fun _ h => h) rfl dX11_shore_158 ?_
                      refine ln_eq (show (m_rm u1) = (nI (q.length)) from hmm) ?_
                      exact rw_i hx hb hr hlocks hS u1 (by rw [a_shore, hq]) (by rw [n_shore, hq]; show va_P D vwCl (mw cy ad (day (runL σ q)) u1) H; rw [← hrun]; exact hP) dX11_shore_161
                    · exact absurd c93 (by omega)
                  | succ k_lp3 ih_lp3 =>
                    intro i ls H locs hi_lp3 hP hD hS hl
                    have hti := hwfe i
                    refine lv_iload_n hx hb dX11_shore_88 rfl (lv_at hl 0 rfl) ?_
                    refine lv_aload_n hx hb dX11_shore_89 rfl (lv_at hl 1 rfl) ?_
                    refine va_get (D := D) (ci := 10) (v := .int (nI (s_m τ))) (C := RX11) (T := TX11) (N := 31) hx hb hts ni11 hown hK hP 0 (mw_c0 cy ad (su_mo (su_ov (su_ln τ 0) (orM (fun t => s_th τ (6 * t + 2)) (s_n τ))) (orM (fun t => s_fe τ (5 * t + 2)) i)) u1) rfl 2 (by decide) (hts _ flX11_55) (fun _ h => h) rfl dX11_shore_90 ?_
                    refine ln_icmp_ge (tgt := 123) hx hb dX11_shore_93 (by decide) (by omega) (by omega) (fun c93 => ?_) (fun c93 => ?_)
                    · exact absurd c93 (by omega)
                    · refine lv_aload_n hx hb dX11_shore_96 rfl (lv_at hl 1 rfl) ?_
                      refine lv_aload_n hx hb dX11_shore_97 rfl (lv_at hl 1 rfl) ?_
                      refine va_get (D := D) (ci := 10) (v := .int (nI ((orM (fun t => s_fe τ (5 * t + 2)) i)))) (C := RX11) (T := TX11) (N := 31) hx hb hts ni11 hown hK hP 0 (mw_c0 cy ad (su_mo (su_ov (su_ln τ 0) (orM (fun t => s_th τ (6 * t + 2)) (s_n τ))) (orM (fun t => s_fe τ (5 * t + 2)) i)) u1) rfl 18 (by decide) (hts _ flX11_158) (fun _ h => h) rfl dX11_shore_98 ?_
                      refine lv_aload_n hx hb dX11_shore_101 rfl (lv_at hl 1 rfl) ?_
                      refine va_get (D := D) (ci := 10) (v := .ref (ad 2)) (C := RX11) (T := TX11) (N := 31) hx hb hts ni11 hown hK hP 0 (mw_c0 cy ad (su_mo (su_ov (su_ln τ 0) (orM (fun t => s_th τ (6 * t + 2)) (s_n τ))) (orM (fun t => s_fe τ (5 * t + 2)) i)) u1) rfl 3 (by decide) (hts _ flX11_13) (fun _ h => h) rfl dX11_shore_102 ?_
                      refine lv_iconst (v := nI 5) hx hb dX11_shore_105 (by decide) ?_
                      refine lv_iload_n hx hb dX11_shore_106 rfl (lv_at hl 0 rfl) ?_
                      refine ln_imul hx hb dX11_shore_107 ?_
                      refine lv_iconst (v := nI 2) hx hb dX11_shore_108 (by decide) ?_
                      refine ln_iadd hx hb dX11_shore_109 ?_
                      refine ln_iald (v := (nI (s_fe τ ((5 * i) + 2)))) hx hb hK hP 2 (mw_c2 cy ad (su_mo (su_ov (su_ln τ 0) (orM (fun t => s_th τ (6 * t + 2)) (s_n τ))) (orM (fun t => s_fe τ (5 * t + 2)) i)) u1) (by omega) (by decide) rfl dX11_shore_110 ?_
                      refine lv_iload_n hx hb dX11_shore_111 rfl (lv_at hl 0 rfl) ?_
                      refine ln_ishl hx hb dX11_shore_112 (by omega) (by have : s_fe τ (5 * i + 2) * 2 ^ i ≤ 1 * 2 ^ 8 := Nat.mul_le_mul (by omega) (Nat.pow_le_pow_right (by decide) (by omega)); omega) ?_
                      refine ln_ior hx hb dX11_shore_113 ?_
                      refine ln_put (ci := 10) (C := RX11) (T := TX11) (N := 31) (ty := .int) (v := .int (nI ((orM (fun t => s_fe τ (5 * t + 2)) i) ||| ((s_fe τ ((5 * i) + 2)) * 2 ^ i)))) hx hb hts ni11 tyX11 tyX11_ok nmX11 hown hK hP hD hS 0 (mw_c0 cy ad (su_mo (su_ov (su_ln τ 0) (orM (fun t => s_th τ (6 * t + 2)) (s_n τ))) (orM (fun t => s_fe τ (5 * t + 2)) i)) u1) rfl 18 (by decide) (hts _ flX11_158) (fun _ h => h) rfl (by decide +kernel) rfl rfl (Nat.le_of_ble_eq_true rfl) ((mp_0_18 cy ad (su_mo (su_ov (su_ln τ 0) (orM (fun t => s_th τ (6 * t + 2)) (s_n τ))) (orM (fun t => s_fe τ (5 * t + 2)) i)) u1 ((orM (fun t => s_fe τ (5 * t + 2)) i) ||| ((s_fe τ ((5 * i) + 2)) * 2 ^ i))).trans (congrArg (fun z => mw cy ad z u1) (by rw [sc_mo]))) dX11_shore_114 (fun H locs hP hD hS => ?_)
                      refine ln_iinc (lv' := [(1, .int (nI (i + 1))), (0, .ref (ad 0))]) hx hb dX11_shore_117 hl (k := 0) (n := 1) rfl (by decide) rfl (fun ls hl => ?_)
                      refine lv_goto (tgt := 88) hx hb dX11_shore_120 (by decide) ?_
                      have hl : lv_has ls 2 [(1, .int (nI (i + 1))), (0, .ref (ad 0))] := lv_sub hl [0, 1] rfl
                      exact ih_lp3 (i + 1) ls _ _ (by omega) hP hD hS hl
                have hl : lv_has ls 2 [(1, .int (nI (0))), (0, .ref (ad 0))] := lv_sub hl [0, 1] rfl
                exact lp3 (s_m τ - 0) 0 ls _ _ (by omega) hP hD hS hl
              · exact absurd c55 (by omega)
            | succ k_lp2 ih_lp2 =>
              intro i ls H locs hi_lp2 hP hD hS hl
              have hti := hwt i
              refine lv_iload_n hx hb dX11_shore_50 rfl (lv_at hl 0 rfl) ?_
              refine lv_aload_n hx hb dX11_shore_51 rfl (lv_at hl 1 rfl) ?_
              refine va_get (D := D) (ci := 10) (v := .int (nI (s_n τ))) (C := RX11) (T := TX11) (N := 31) hx hb hts ni11 hown hK hP 0 (mw_c0 cy ad (su_mo (su_ov (su_ln τ 0) (orM (fun t => s_th τ (6 * t + 2)) i)) 0) u1) rfl 0 (by decide) (hts _ flX11_47) (fun _ h => h) rfl dX11_shore_52 ?_
              refine ln_icmp_ge (tgt := 86) hx hb dX11_shore_55 (by decide) (by omega) (by omega) (fun c55 => ?_) (fun c55 => ?_)
              · exact absurd c55 (by omega)
              · refine lv_aload_n hx hb dX11_shore_58 rfl (lv_at hl 1 rfl) ?_
                refine lv_aload_n hx hb dX11_shore_59 rfl (lv_at hl 1 rfl) ?_
                refine va_get (D := D) (ci := 10) (v := .int (nI ((orM (fun t => s_th τ (6 * t + 2)) i)))) (C := RX11) (T := TX11) (N := 31) hx hb hts ni11 hown hK hP 0 (mw_c0 cy ad (su_mo (su_ov (su_ln τ 0) (orM (fun t => s_th τ (6 * t + 2)) i)) 0) u1) rfl 17 (by decide) (hts _ flX11_155) (fun _ h => h) rfl dX11_shore_60 ?_
                refine lv_aload_n hx hb dX11_shore_63 rfl (lv_at hl 1 rfl) ?_
                refine va_get (D := D) (ci := 10) (v := .ref (ad 1)) (C := RX11) (T := TX11) (N := 31) hx hb hts ni11 hown hK hP 0 (mw_c0 cy ad (su_mo (su_ov (su_ln τ 0) (orM (fun t => s_th τ (6 * t + 2)) i)) 0) u1) rfl 1 (by decide) (hts _ flX11_7) (fun _ h => h) rfl dX11_shore_64 ?_
                refine lv_bipush (v := nI 6) hx hb dX11_shore_67 (by decide) ?_
                refine lv_iload_n hx hb dX11_shore_69 rfl (lv_at hl 0 rfl) ?_
                refine ln_imul hx hb dX11_shore_70 ?_
                refine lv_iconst (v := nI 2) hx hb dX11_shore_71 (by decide) ?_
                refine ln_iadd hx hb dX11_shore_72 ?_
                refine ln_iald (v := (nI (s_th τ ((6 * i) + 2)))) hx hb hK hP 1 (mw_c1 cy ad (su_mo (su_ov (su_ln τ 0) (orM (fun t => s_th τ (6 * t + 2)) i)) 0) u1) (by omega) (by decide) rfl dX11_shore_73 ?_
                refine lv_iload_n hx hb dX11_shore_74 rfl (lv_at hl 0 rfl) ?_
                refine ln_ishl hx hb dX11_shore_75 (by omega) (by have : s_th τ (6 * i + 2) * 2 ^ i ≤ 1 * 2 ^ 8 := Nat.mul_le_mul (by omega) (Nat.pow_le_pow_right (by decide) (by omega)); omega) ?_
                refine ln_ior hx hb dX11_shore_76 ?_
                refine ln_put (ci := 10) (C := RX11) (T := TX11) (N := 31) (ty := .int) (v := .int (nI ((orM (fun t => s_th τ (6 * t + 2)) i) ||| ((s_th τ ((6 * i) + 2)) * 2 ^ i)))) hx hb hts ni11 tyX11 tyX11_ok nmX11 hown hK hP hD hS 0 (mw_c0 cy ad (su_mo (su_ov (su_ln τ 0) (orM (fun t => s_th τ (6 * t + 2)) i)) 0) u1) rfl 17 (by decide) (hts _ flX11_155) (fun _ h => h) rfl (by decide +kernel) rfl rfl (Nat.le_of_ble_eq_true rfl) ((mp_0_17 cy ad (su_mo (su_ov (su_ln τ 0) (orM (fun t => s_th τ (6 * t + 2)) i)) 0) u1 ((orM (fun t => s_th τ (6 * t + 2)) i) ||| ((s_th τ ((6 * i) + 2)) * 2 ^ i))).trans (congrArg (fun z => mw cy ad z u1) (by rw [sx_ov_mo, sc_ov]))) dX11_shore_77 (fun H locs hP hD hS => ?_)
                refine ln_iinc (lv' := [(1, .int (nI (i + 1))), (0, .ref (ad 0))]) hx hb dX11_shore_80 hl (k := 0) (n := 1) rfl (by decide) rfl (fun ls hl => ?_)
                refine lv_goto (tgt := 50) hx hb dX11_shore_83 (by decide) ?_
                have hl : lv_has ls 2 [(1, .int (nI (i + 1))), (0, .ref (ad 0))] := lv_sub hl [0, 1] rfl
                exact ih_lp2 (i + 1) ls _ _ (by omega) hP hD hS hl
          have hl : lv_has ls 2 [(1, .int (nI (0))), (0, .ref (ad 0))] := lv_sub hl [0, 1] rfl
          exact lp2 (s_n τ - 0) 0 ls _ _ (by omega) hP hD hS hl
        · exact absurd c17 (by omega)
      | cons x r ih =>
        intro τ i H locs ls hi hwf hokr hrun hLB hP hD hS hl
        simp only [List.length_cons] at hi
        refine lv_iload_n hx hb dX11_shore_12 rfl (lv_at hl 0 rfl) ?_
        refine lv_aload_n hx hb dX11_shore_13 rfl (lv_at hl 1 rfl) ?_
        refine va_get (D := D) (ci := 10) (v := .int (m_rm u1)) (C := RX11) (T := TX11) (N := 31) hx hb hts ni11 hown hK hP 0 (mw_c0 cy ad τ u1) rfl 12 (by decide) (hts _ flX11_142) (fun _ h => h) rfl dX11_shore_14 ?_
        refine ln_eq (show (m_rm u1) = (nI (q.length)) from hmm) ?_
        refine ln_icmp_ge (tgt := 33) hx hb dX11_shore_17 (by decide) (by omega) (by omega) (fun c17 => ?_) (fun c17 => ?_)
        · exact absurd c17 (by omega)
        · refine lv_aload_n hx hb dX11_shore_20 rfl (lv_at hl 1 rfl) ?_
          refine lv_iconst (v := nI 5) hx hb dX11_shore_21 (by decide) ?_
          refine lv_iload_n hx hb dX11_shore_22 rfl (lv_at hl 0 rfl) ?_
          refine ln_imul hx hb dX11_shore_23 ?_
          refine cr_vv (n := 1) (As := [.int (nI (5 * i))]) (rest := []) ⟨hx, hb, hml, hown, hts⟩ (k_X11_doLine l D cy ad τ u1 (5 * i) x.1 x.2 hwf hokr.1 (hLB 0 x rfl) (by omega)) gvX11_151 (by decide +kernel) ⟨Nat.le_of_ble_eq_true rfl, Nat.le_of_ble_eq_true rfl⟩ hK hN hP hD hS hA 0 (mw_c0 cy ad τ u1) rfl rfl hl.1 rfl (Nat.le_of_ble_eq_true rfl) dX11_shore_24 ⟨Nat.zero_le _, Nat.zero_le _⟩ (fun _ => (mw_ad _ _ _ _).trans (mw_ad _ _ _ _).symm) (fun u3 H locs hpu3 hP hD hS => ?_)
          refine ln_iinc (lv' := [(1, .int (nI (i + 1))), (0, .ref (ad 0))]) hx hb dX11_shore_27 hl (k := 0) (n := 1) rfl (by decide) rfl (fun ls hl => ?_)
          refine lv_goto (tgt := 12) hx hb dX11_shore_30 (by decide) ?_
          exact ih (doL τ x.1 x.2) (i + 1) H locs ls (by omega) (wf1_do hwf hokr.1) hokr.2 hrun (fun j y hy => by rw [show i + 1 + j = i + (j + 1) by omega]; exact hLB (j + 1) y hy) hP hD hS (lv_sub hl [0, 1] rfl)
    exact sl q σ 0 H locs ls (Nat.zero_add _) (wf1_of hw) hokq rfl (fun j x hx => by rw [Nat.zero_add]; exact hrd.2 j x hx) hP hD hS (lv_sub hl [0, 1] rfl)
  · refine lv_bipush (v := -4) hx hb dX11_shore_7 (by decide) ?_
    exact rw_i hx hb hr hlocks hS u1 (by cases hz : rRun σ 12 σ 0 with | inr f => rw [hz] at c4; cases c4 | inl f => rw [a_shore, hz]) (by cases hz : rRun σ 12 σ 0 with | inr f => rw [hz] at c4; cases c4 | inl f => rw [n_shore, hz]; exact hP) dX11_shore_9
