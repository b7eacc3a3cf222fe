theorem rNum_fl {σ : Sg} : ∀ {qs : List (Nat → Bool)} {o f : Nat}, o ≤ s_ln σ → rNum σ qs o = .inl f → f ≤ s_ln σ
  | [], o, f, ho, h => by rw [rNum] at h; cases h
  | q :: qs, o, f, ho, h => by
    rw [rNum] at h
    split at h
    · split at h
      · rename_i f' e
        cases h
        exact rNum_fl (tE_le ho) e
      · cases h
    · cases h; exact tB_le ho
theorem rLine_fl {σ τ : Sg} {o f : Nat} (ho : o ≤ s_ln σ) (h : rLine σ τ o = .inl f) : f ≤ s_ln σ := by
  unfold rLine at h
  split at h
  · cases h; exact tB_le ho
  · split at h
    · rename_i f' e
      cases h
      exact rNum_fl (tE_le ho) e
    · cases h
theorem rRun_fl {σ : Sg} : ∀ {k : Nat} {τ : Sg} {o f : Nat}, o ≤ s_ln σ → rRun σ k τ o = .inl f → f ≤ s_ln σ
  | 0, τ, o, f, ho, h => by rw [rRun] at h; cases h; exact Nat.zero_le _
  | k + 1, τ, o, f, ho, h => by
    rw [rRun] at h
    split at h
    · rename_i f' e
      cases h
      exact rLine_fl ho e
    · rename_i x e
      have hx := rLine_le ho e
      split at h
      · cases h
      · split at h
        · split at h
          · rename_i f' e2
            cases h
            exact rRun_fl (tE_le hx) e2
          · cases h
        · cases h; exact tB_le hx
theorem RDP_fault {σ : Sg} {J u : Js} (h : RDP σ J u) : j_fa u = a_fault σ := by
  have h1 := h.2
  rw [a_fault]
  cases hR : rRun σ 12 σ 0 with
  | inl f => rw [hR] at h1; exact h1
  | inr r => rw [hR] at h1; exact h1.1
theorem day_eq (τ : Sg) : su_ln (su_kp (su_kp (su_rn (bdS τ) 0) (updB (s_kp τ) 0 false)) (updB (updB (s_kp τ) 0 false) 1 false)) 0 = day τ := by
  unfold day bdS
  dsimp only [su_ln, su_kp, su_rn, su_cr, su_la, su_of, su_mo, su_ov, s_n, s_th, s_m, s_fe, s_ln, s_tx, s_ov, s_mo, s_of, s_la, s_cr, s_im, s_kp, s_rn, s_ro]
theorem day_th (τ : Sg) : s_th (day τ) = s_th (bdS τ) ∧ s_n (day τ) = s_n (bdS τ) ∧ s_of (day τ) = s_of (bdS τ) := by
  unfold day bdS
  dsimp only [su_ln, su_kp, su_rn, su_cr, su_la, su_of, su_mo, su_ov, s_n, s_th, s_m, s_fe, s_ln, s_tx, s_ov, s_mo, s_of, s_la, s_cr, s_im, s_kp, s_rn, s_ro]
  exact ⟨rfl, rfl, rfl⟩
theorem wfJ_day {τ : Sg} {u : Js} (h : wfJ (bdS τ) u) : wfJ (day τ) u := wfJ_keep h (day_th τ).1 (day_th τ).2.1 (day_th τ).2.2
set_option maxHeartbeats 4000000 in
set_option maxRecDepth 100000 in
theorem k_X10_fault (l : Launch) (D : va_G) (cy : Nat → ClassId) (ad aw aS aV aT : Nat → Nat) (σ : Sg) (J : Js)  (hw : wfS σ) (hj : wfJ σ J) : MWC l yX10_fault qX10_fault 8 [.ref (ad 0)] D cy (cw cy ad aw σ J) aw aS aV aT (fun (r : Int32) (u : Js) => r = a_fault σ ∧ wfJ (σ) u) (fun u : Js => cw cy ad aw (σ) u) := by
  intro sz
  refine Met.ofW (cc := cX10_fault) (maxL := 1) (ret := (some .int)) (by decide) rfl ?_
  intro p e s m args below meth c s₁ B hml hv
  obtain ⟨rfl, rfl, hP, hK, hN, hD0, hC⟩ := hv
  have hx := B.exec
  have hb := B.bytes
  have hr := B.returns
  have hlocks := B.notSynchronized
  have hts : ∀ cq ∈ tg, cq.before ([.ref (ad 0)] : List Value).toArray s = true := fun cq h => atoms_spec (ws := qX10_fault) B.pre cq (List.mem_cons_of_mem _ h)
  have hown : s.vm.findClass RX10 = some m.cls := findClass_of_methodNamed B.named
  have hD := hD0.self (sz := s.heap.size)
  generalize hAe : va_A (cw cy ad aw σ J) s.heap.size = A at hD hC ⊢
  have hA : ∀ q : Nat, s.heap.size ≤ q → A q := fun q h => by rw [← hAe]; exact Or.inr h
  have hS : va_S A s.heap s.heap [] := va_S.rf
  have hl := lv_entry ([.ref (ad 0)]) (n := 1) (Nat.le_of_ble_eq_true rfl)
  rw [lg_entry_eq]
  generalize (lg_sl ([.ref (ad 0)]) ++ List.replicate (1 - (lg_sl ([.ref (ad 0)])).length) Slot.unset).toArray = ls at hl ⊢
  have hl : lv_has ls 1 [(0, .ref (ad 0))] := hl
  refine lv_aload_n hx hb dX10_fault_0 rfl (lv_at hl 0 rfl) ?_
  refine va_get (D := D) (ci := 9) (v := .ref (ad 8)) (C := RX10) (T := TX10) (N := 8) hx hb hts ni10 hown hK hP 0 (cw_c0 cy ad aw σ J) rfl 2 (by decide) (hts _ flX10_28) (fun _ h => h) rfl dX10_fault_1 ?_
  refine kw_v (n := 0) (As := []) (rest := []) ⟨hx, hb, hml, hown, hts⟩ (k_X2_read l D cy ad aw aS aV aT σ J hw hj) gvX10_76 (by decide +kernel) ⟨Nat.le_of_ble_eq_true rfl, Nat.le_of_ble_eq_true rfl⟩ hK hN hP hD hS hA hC 8 (cw_c8 cy ad aw σ J) rfl rfl hl.1 rfl (Nat.le_of_ble_eq_true rfl) dX10_fault_4 ⟨Nat.zero_le _, Nat.zero_le _⟩ (fun _ => (cw_ad _ _ _ _ _).trans (cw_ad _ _ _ _ _).symm) (fun u1 H locs hpu1 hP hD hS => ?_)
  have hP : va_P D vwCl (cw cy ad aw σ u1) H := hP
  have hD : va_D A (cw cy ad aw σ u1) := hD
  refine lv_aload_n hx hb dX10_fault_7 rfl (lv_at hl 0 rfl) ?_
  refine va_get (D := D) (ci := 9) (v := .ref (ad 8)) (C := RX10) (T := TX10) (N := 8) hx hb hts ni10 hown hK hP 0 (cw_c0 cy ad aw σ u1) rfl 2 (by decide) (hts _ flX10_28) (fun _ h => h) rfl dX10_fault_8 ?_
  refine va_get (D := D) (ci := 2) (v := .int (j_fa u1)) (C := RX2) (T := TX2) (N := 11) hx hb hts ni2 hown hK hP 8 (cw_c8 cy ad aw σ u1) rfl 2 (by decide) (hts _ flX10_79) (fun _ h => h) rfl dX10_fault_11 ?_
  exact rw_i hx hb hr hlocks hS u1 (⟨RDP_fault hpu1, hpu1.1.wf hj⟩) hP dX10_fault_14
set_option maxHeartbeats 4000000 in
set_option maxRecDepth 100000 in
theorem k_X10_shore (l : Launch) (D : va_G) (cy : Nat → ClassId) (ad aw aS aV aT : Nat → Nat) (σ : Sg) (J : Js)  (hw : wfS σ) (hj : wfJ σ J) : MWC l yX10_shore qX10_shore 8 [.ref (ad 0)] D cy (cw cy ad aw σ J) aw aS aV aT (fun (r : Int32) (u : Js) => r = a_shore σ ∧ wfJ (n_shore σ) u) (fun u : Js => cw cy ad aw (n_shore σ) u) := by
  intro sz
  refine Met.ofW (cc := cX10_shore) (maxL := 2) (ret := (some .int)) (by decide) rfl ?_
  intro p e s m args below meth c s₁ B hml hv
  obtain ⟨rfl, rfl, hP, hK, hN, hD0, hC⟩ := hv
  have hx := B.exec
  have hb := B.bytes
  have hr := B.returns
  have hlocks := B.notSynchronized
  have hts : ∀ cq ∈ tg, cq.before ([.ref (ad 0)] : List Value).toArray s = true := fun cq h => atoms_spec (ws := qX10_shore) B.pre cq (List.mem_cons_of_mem _ h)
  have hown : s.vm.findClass RX10 = some m.cls := findClass_of_methodNamed B.named
  have hD := hD0.self (sz := s.heap.size)
  generalize hAe : va_A (cw cy ad aw σ J) s.heap.size = A at hD hC ⊢
  have hA : ∀ q : Nat, s.heap.size ≤ q → A q := fun q h => by rw [← hAe]; exact Or.inr h
  have hS : va_S A s.heap s.heap [] := va_S.rf
  have hl := lv_entry ([.ref (ad 0)]) (n := 2) (Nat.le_of_ble_eq_true rfl)
  rw [lg_entry_eq]
  generalize (lg_sl ([.ref (ad 0)]) ++ List.replicate (2 - (lg_sl ([.ref (ad 0)])).length) Slot.unset).toArray = ls at hl ⊢
  have hl : lv_has ls 2 [(0, .ref (ad 0))] := hl
  refine lv_aload_n hx hb dX10_shore_0 rfl (lv_at hl 0 rfl) ?_
  refine va_get (D := D) (ci := 9) (v := .ref (ad 8)) (C := RX10) (T := TX10) (N := 8) hx hb hts ni10 hown hK hP 0 (cw_c0 cy ad aw σ J) rfl 2 (by decide) (hts _ flX10_28) (fun _ h => h) rfl dX10_shore_1 ?_
  refine kw_v (n := 0) (As := []) (rest := []) ⟨hx, hb, hml, hown, hts⟩ (k_X2_read l D cy ad aw aS aV aT σ J hw hj) gvX10_76 (by decide +kernel) ⟨Nat.le_of_ble_eq_true rfl, Nat.le_of_ble_eq_true rfl⟩ hK hN hP hD hS hA hC 8 (cw_c8 cy ad aw σ J) rfl rfl hl.1 rfl (Nat.le_of_ble_eq_true rfl) dX10_shore_4 ⟨Nat.zero_le _, Nat.zero_le _⟩ (fun _ => (cw_ad _ _ _ _ _).trans (cw_ad _ _ _ _ _).symm) (fun u1 H locs hpu1 hP hD hS => ?_)
  have hP : va_P D vwCl (cw cy ad aw σ u1) H := hP
  have hD : va_D A (cw cy ad aw σ u1) := hD
  have hku := hpu1.1
  have hz := hpu1.2
  rcases hR : rRun σ 12 σ 0 with f | q
  · rw [hR] at hz
    have hz : j_fa u1 = nI f := hz
    have hfl := rRun_fl (Nat.zero_le _) hR
    have hln := hw.2.2.2.2.1
    refine lv_aload_n hx hb dX10_shore_7 rfl (lv_at hl 0 rfl) ?_
    refine va_get (D := D) (ci := 9) (v := .ref (ad 8)) (C := RX10) (T := TX10) (N := 8) hx hb hts ni10 hown hK hP 0 (cw_c0 cy ad aw σ u1) rfl 2 (by decide) (hts _ flX10_28) (fun _ h => h) rfl dX10_shore_8 ?_
    refine va_get (D := D) (ci := 2) (v := .int (j_fa u1)) (C := RX2) (T := TX2) (N := 11) hx hb hts ni2 hown hK hP 8 (cw_c8 cy ad aw σ u1) rfl 2 (by decide) (hts _ flX10_79) (fun _ h => h) rfl dX10_shore_11 ?_
    refine ln_eq (show (j_fa u1) = (nI (f)) from hz) ?_
    refine lv_iconst (v := -1) hx hb dX10_shore_14 (by decide) ?_
    refine lv_icmp_eq (tgt := 21) hx hb dX10_shore_15 (by decide) (fun c => absurd c (m1_ne _ (by omega))) (fun _ => ?_)
    refine lv_bipush (v := -4) hx hb dX10_shore_18 (by decide) ?_
    exact rw_i hx hb hr hlocks hS u1 (⟨by rw [a_shore, hR], by rw [n_shore, hR]; exact hku.wf hj⟩) (by show va_P D vwCl (cw cy ad aw (n_shore σ) u1) _; rw [n_shore, hR]; exact hP) dX10_shore_20
  · rw [hR] at hz
    obtain ⟨hfa1, hlc1, hLJ1⟩ := hz
    obtain ⟨hokq, hlen⟩ := rRun_ok (wf1_of hw) hR
    refine lv_aload_n hx hb dX10_shore_7 rfl (lv_at hl 0 rfl) ?_
    refine va_get (D := D) (ci := 9) (v := .ref (ad 8)) (C := RX10) (T := TX10) (N := 8) hx hb hts ni10 hown hK hP 0 (cw_c0 cy ad aw σ u1) rfl 2 (by decide) (hts _ flX10_28) (fun _ h => h) rfl dX10_shore_8 ?_
    refine va_get (D := D) (ci := 2) (v := .int (j_fa u1)) (C := RX2) (T := TX2) (N := 11) hx hb hts ni2 hown hK hP 8 (cw_c8 cy ad aw σ u1) rfl 2 (by decide) (hts _ flX10_79) (fun _ h => h) rfl dX10_shore_11 ?_
    refine ln_eq (show (j_fa u1) = (-1) from hfa1) ?_
    refine lv_iconst (v := -1) hx hb dX10_shore_14 (by decide) ?_
    refine lv_icmp_eq (tgt := 21) hx hb dX10_shore_15 (by decide) (fun _ => ?_) (fun c => absurd rfl c)
    refine lv_iconst (v := nI 0) hx hb dX10_shore_21 (by decide) ?_
    refine lv_istore_n (lv' := [(1, .int (nI (0))), (0, .ref (ad 0))]) hx hb dX10_shore_22 rfl hl (by decide) rfl (fun ls hl => ?_)
    have sl : ∀ (r : List (Nat × List Nat)) (τ : Sg) (i : Nat) (H : Heap) (locs : List Loc) (ls : Array Slot), i + r.length = q.length → wf1 τ → okR τ r → runL τ r = runL σ q → (∀ j x, r[j]? = some x → LJ u1 (i + j) x) → va_P D vwCl (cw cy ad aw τ u1) H → va_D A (cw cy ad aw τ u1) → va_S A s.heap H locs → lv_has ls 2 [(1, .int (nI (i))), (0, .ref (ad 0))] → W p l e (headSpec qX10_shore (rq 8)).room s m ([.ref (ad 0)] : List Value).toArray below meth c H locs 0 0 (MQ below (va_Qi (fun (r : Int32) (u : Js) => r = a_shore σ ∧ wfJ (n_shore σ) u) (fun u t => va_P D vwCl ((fun u : Js => cw cy ad aw (n_shore σ) u) u) t.heap) A) ([.ref (ad 0)] : List Value).toArray s 0 0 A) (F0 m 23 ls []) := by
      intro r
      induction r with
      | nil =>
        intro τ i H locs ls hi hwf hokr hrun hLB hP hD hS hl
        have hi : i = q.length := hi
        have hrun : τ = runL σ q := hrun
        refine lv_iload_n hx hb dX10_shore_23 rfl (lv_at hl 0 rfl) ?_
        refine lv_aload_n hx hb dX10_shore_24 rfl (lv_at hl 1 rfl) ?_
        refine va_get (D := D) (ci := 9) (v := .ref (ad 8)) (C := RX10) (T := TX10) (N := 8) hx hb hts ni10 hown hK hP 0 (cw_c0 cy ad aw τ u1) rfl 2 (by decide) (hts _ flX10_28) (fun _ h => h) rfl dX10_shore_25 ?_
        refine va_get (D := D) (ci := 2) (v := .int (j_lc u1)) (C := RX2) (T := TX2) (N := 11) hx hb hts ni2 hown hK hP 8 (cw_c8 cy ad aw τ u1) rfl 1 (by decide) (hts _ flX10_82) (fun _ h => h) rfl dX10_shore_28 ?_
        refine ln_eq (show (j_lc u1) = (nI (q.length)) from hlc1) ?_
        refine ln_icmp_ge (tgt := 62) hx hb dX10_shore_31 (by decide) (by omega) (by omega) (fun c31 => ?_) (fun c31 => ?_)
        · refine lv_aload_n hx hb dX10_shore_62 rfl (lv_at hl 1 rfl) ?_
          refine va_get (D := D) (ci := 9) (v := .ref (ad 3)) (C := RX10) (T := TX10) (N := 8) hx hb hts ni10 hown hK hP 0 (cw_c0 cy ad aw τ u1) rfl 1 (by decide) (hts _ flX10_19) (fun _ h => h) rfl dX10_shore_63 ?_
          refine cr_vv (n := 0) (As := []) (rest := []) ⟨hx, hb, hml, hown, hts⟩ (k_X3_beginDay l D cy ad aw τ u1 hwf (by rw [hku.2.2.2]; exact wfJ_pb0 hj)) gvX10_93 (by decide +kernel) ⟨Nat.le_of_ble_eq_true rfl, Nat.le_of_ble_eq_true rfl⟩ hK hN hP hD hS hA 3 (cw_c3 cy ad aw τ u1) rfl rfl hl.1 rfl (Nat.le_of_ble_eq_true rfl) dX10_shore_66 ⟨Nat.zero_le _, Nat.zero_le _⟩ (fun _ => (cw_ad _ _ _ _ _).trans (cw_ad _ _ _ _ _).symm) (fun u2 H locs hpu2 hP hD hS => ?_)
          have hP : va_P D vwCl (cw cy ad aw (bdS τ) u2) H := hP
          have hD : va_D A (cw cy ad aw (bdS τ) u2) := hD
          refine lv_aload_n hx hb dX10_shore_69 rfl (lv_at hl 1 rfl) ?_
          refine lv_iconst (v := nI 0) hx hb dX10_shore_70 (by decide) ?_
          refine ln_put (ci := 9) (C := RX10) (T := TX10) (N := 8) (ty := .int) (v := .int (nI (0))) hx hb hts ni10 tyX10 tyX10_ok nmX10 hown hK hP hD hS 0 (cw_c0 cy ad aw (bdS τ) u2) rfl 7 (by decide) (hts _ flX10_58) (fun _ h => h) rfl (by decide +kernel) rfl rfl (Nat.le_of_ble_eq_true rfl) (cp_0_7 cy ad aw (bdS τ) u2 0) dX10_shore_71 (fun H locs hP hD hS => ?_)
          refine lv_iconst (v := nI 0) hx hb dX10_shore_74 (by decide) ?_
          refine lv_istore_n (lv' := [(1, .int (nI (0))), (0, .ref (ad 0))]) hx hb dX10_shore_75 rfl hl (by decide) rfl (fun ls hl => ?_)
          refine lv_iload_n hx hb dX10_shore_76 rfl (lv_at hl 0 rfl) ?_
          refine lv_iconst (v := nI 2) hx hb dX10_shore_77 (by decide) ?_
          refine lv_icmp_ge (tgt := 97) hx hb dX10_shore_78 (by decide) (fun c => absurd c (by decide)) (fun _ => ?_)
          refine lv_aload_n hx hb dX10_shore_81 rfl (lv_at hl 1 rfl) ?_
          refine va_get (D := D) (ci := 9) (v := .ref (ad 19)) (C := RX10) (T := TX10) (N := 8) hx hb hts ni10 hown hK hP 0 (cw_c0 cy ad aw (su_rn (bdS τ) 0) u2) rfl 5 (by decide) (hts _ flX10_50) (fun _ h => h) rfl dX10_shore_82 ?_
          refine lv_iload_n hx hb dX10_shore_85 rfl (lv_at hl 0 rfl) ?_
          refine ln_aald (x := ad (32 + 0)) hx hb hK hP 19 4 (cw_c19 cy ad aw (su_rn (bdS τ) 0) u2) rfl (by omega) (by decide) rfl dX10_shore_86 ?_
          refine lv_iconst (v := nI 0) hx hb dX10_shore_87 (by decide) ?_
          refine ln_eq (show (nI (0)) = (bI (false)) from rfl) ?_
          refine ln_put (ci := 5) (C := RX5) (T := TX5) (N := 5) (ty := .boolean) (v := .int (bI (false))) hx hb hts ni5 tyX5 tyX5_ok nmX5 hown hK hP hD hS (32 + 0) (cw_kept cy ad aw (su_rn (bdS τ) 0) u2 (t := 0) (by omega)) rfl 0 (by decide) (hts _ flX10_96) (fun _ h => h) rfl (by decide +kernel) (bI_n _) rfl (Nat.le_of_ble_eq_true rfl) (cp_kept_0 cy ad aw (su_rn (bdS τ) 0) u2 false (t := 0) (by decide)) dX10_shore_88 (fun H locs hP hD hS => ?_)
          refine ln_iinc (lv' := [(1, .int (nI (1))), (0, .ref (ad 0))]) hx hb dX10_shore_91 hl (k := 0) (n := 1) rfl (by decide) rfl (fun ls hl => ?_)
          refine lv_goto (tgt := 76) hx hb dX10_shore_94 (by decide) ?_
          refine lv_iload_n hx hb dX10_shore_76 rfl (lv_at hl 0 rfl) ?_
          refine lv_iconst (v := nI 2) hx hb dX10_shore_77 (by decide) ?_
          refine lv_icmp_ge (tgt := 97) hx hb dX10_shore_78 (by decide) (fun c => absurd c (by decide)) (fun _ => ?_)
          refine lv_aload_n hx hb dX10_shore_81 rfl (lv_at hl 1 rfl) ?_
          refine va_get (D := D) (ci := 9) (v := .ref (ad 19)) (C := RX10) (T := TX10) (N := 8) hx hb hts ni10 hown hK hP 0 (cw_c0 cy ad aw (su_kp (su_rn (bdS τ) 0) (updB (s_kp τ) 0 false)) u2) rfl 5 (by decide) (hts _ flX10_50) (fun _ h => h) rfl dX10_shore_82 ?_
          refine lv_iload_n hx hb dX10_shore_85 rfl (lv_at hl 0 rfl) ?_
          refine ln_aald (x := ad (32 + 1)) hx hb hK hP 19 4 (cw_c19 cy ad aw (su_kp (su_rn (bdS τ) 0) (updB (s_kp τ) 0 false)) u2) rfl (by omega) (by decide) rfl dX10_shore_86 ?_
          refine lv_iconst (v := nI 0) hx hb dX10_shore_87 (by decide) ?_
          refine ln_eq (show (nI (0)) = (bI (false)) from rfl) ?_
          refine ln_put (ci := 5) (C := RX5) (T := TX5) (N := 5) (ty := .boolean) (v := .int (bI (false))) hx hb hts ni5 tyX5 tyX5_ok nmX5 hown hK hP hD hS (32 + 1) (cw_kept cy ad aw (su_kp (su_rn (bdS τ) 0) (updB (s_kp τ) 0 false)) u2 (t := 1) (by omega)) rfl 0 (by decide) (hts _ flX10_96) (fun _ h => h) rfl (by decide +kernel) (bI_n _) rfl (Nat.le_of_ble_eq_true rfl) (cp_kept_0 cy ad aw (su_kp (su_rn (bdS τ) 0) (updB (s_kp τ) 0 false)) u2 false (t := 1) (by decide)) dX10_shore_88 (fun H locs hP hD hS => ?_)
          refine ln_iinc (lv' := [(1, .int (nI (2))), (0, .ref (ad 0))]) hx hb dX10_shore_91 hl (k := 0) (n := 1) rfl (by decide) rfl (fun ls hl => ?_)
          refine lv_goto (tgt := 76) hx hb dX10_shore_94 (by decide) ?_
          refine lv_iload_n hx hb dX10_shore_76 rfl (lv_at hl 0 rfl) ?_
          refine lv_iconst (v := nI 2) hx hb dX10_shore_77 (by decide) ?_
          refine lv_icmp_ge (tgt := 97) hx hb dX10_shore_78 (by decide) (fun _ => ?_) (fun c => absurd (by decide) c)
          refine lv_aload_n hx hb dX10_shore_97 rfl (lv_at hl 1 rfl) ?_
          refine va_get (D := D) (ci := 9) (v := .ref (ad 1)) (C := RX10) (T := TX10) (N := 8) hx hb hts ni10 hown hK hP 0 (cw_c0 cy ad aw (su_kp (su_kp (su_rn (bdS τ) 0) (updB (s_kp τ) 0 false)) (updB (updB (s_kp τ) 0 false) 1 false)) u2) rfl 0 (by decide) (hts _ flX10_12) (fun _ h => h) rfl dX10_shore_98 ?_
          refine cr_w (n := 0) (As := []) (rest := []) ⟨hx, hb, hml, hown, hts⟩ (k_X7_empty l D cy ad aw (su_kp (su_kp (su_rn (bdS τ) 0) (updB (s_kp τ) 0 false)) (updB (updB (s_kp τ) 0 false) 1 false)) u2 ) gvX10_72 (by decide +kernel) ⟨Nat.le_of_ble_eq_true rfl, Nat.le_of_ble_eq_true rfl⟩ hK hN hP hD hS hA 1 (cw_c1 cy ad aw (su_kp (su_kp (su_rn (bdS τ) 0) (updB (s_kp τ) 0 false)) (updB (updB (s_kp τ) 0 false) 1 false)) u2) rfl rfl hl.1 rfl (Nat.le_of_ble_eq_true rfl) dX10_shore_101 ⟨Nat.zero_le _, Nat.zero_le _⟩ (fun _ => (cw_ad _ _ _ _ _).trans (cw_ad _ _ _ _ _).symm) (fun r4 u3 H locs hpu3 hP hD hS => ?_)
          have hP : va_P D vwCl (cw cy ad aw (su_ln (su_kp (su_kp (su_rn (bdS τ) 0) (updB (s_kp τ) 0 false)) (updB (updB (s_kp τ) 0 false) 1 false)) 0) u2) H := hP
          have hD : va_D A (cw cy ad aw (su_ln (su_kp (su_kp (su_rn (bdS τ) 0) (updB (s_kp τ) 0 false)) (updB (updB (s_kp τ) 0 false) 1 false)) 0) u2) := hD
          refine lv_pop hx hb dX10_shore_104 rfl ?_
          refine lv_aload_n hx hb dX10_shore_105 rfl (lv_at hl 1 rfl) ?_
          refine va_get (D := D) (ci := 9) (v := .ref (ad 8)) (C := RX10) (T := TX10) (N := 8) hx hb hts ni10 hown hK hP 0 (cw_c0 cy ad aw (su_ln (su_kp (su_kp (su_rn (bdS τ) 0) (updB (s_kp τ) 0 false)) (updB (updB (s_kp τ) 0 false) 1 false)) 0) u2) rfl 2 (by decide) (hts _ flX10_28) (fun _ h => h) rfl dX10_shore_106 ?_
          refine va_get (D := D) (ci := 2) (v := .int (j_lc u2)) (C := RX2) (T := TX2) (N := 11) hx hb hts ni2 hown hK hP 8 (cw_c8 cy ad aw (su_ln (su_kp (su_kp (su_rn (bdS τ) 0) (updB (s_kp τ) 0 false)) (updB (updB (s_kp τ) 0 false) 1 false)) 0) u2) rfl 1 (by decide) (hts _ flX10_82) (fun _ h => h) rfl dX10_shore_109 ?_
          refine ln_eq (show (j_lc u2) = (nI (q.length)) from hpu2.2.trans hlc1) ?_
          exact rw_i hx hb hr hlocks hS u2 (⟨by rw [a_shore, hR], by rw [n_shore, hR]; show wfJ (day (runL σ q)) u2; rw [← hrun]; exact wfJ_day hpu2.1⟩) (by show va_P D vwCl (cw cy ad aw (n_shore σ) u2) _; rw [n_shore, hR]; show va_P D vwCl (cw cy ad aw (day (runL σ q)) u2) _; rw [← hrun, ← day_eq]; exact hP) dX10_shore_112
        · exact absurd c31 (by omega)
      | cons x r ih =>
        intro τ i H locs ls hi hwf hokr hrun hLB hP hD hS hl
        simp only [List.length_cons] at hi
        refine lv_iload_n hx hb dX10_shore_23 rfl (lv_at hl 0 rfl) ?_
        refine lv_aload_n hx hb dX10_shore_24 rfl (lv_at hl 1 rfl) ?_
        refine va_get (D := D) (ci := 9) (v := .ref (ad 8)) (C := RX10) (T := TX10) (N := 8) hx hb hts ni10 hown hK hP 0 (cw_c0 cy ad aw τ u1) rfl 2 (by decide) (hts _ flX10_28) (fun _ h => h) rfl dX10_shore_25 ?_
        refine va_get (D := D) (ci := 2) (v := .int (j_lc u1)) (C := RX2) (T := TX2) (N := 11) hx hb hts ni2 hown hK hP 8 (cw_c8 cy ad aw τ u1) rfl 1 (by decide) (hts _ flX10_82) (fun _ h => h) rfl dX10_shore_28 ?_
        refine ln_eq (show (j_lc u1) = (nI (q.length)) from hlc1) ?_
        refine ln_icmp_ge (tgt := 62) hx hb dX10_shore_31 (by decide) (by omega) (by omega) (fun c31 => ?_) (fun c31 => ?_)
        · exact absurd c31 (by omega)
        · refine lv_iload_n hx hb dX10_shore_34 rfl (lv_at hl 0 rfl) ?_
          refine lv_bipush (v := nI 12) hx hb dX10_shore_35 (by decide) ?_
          refine ln_icmp_ge (tgt := 62) hx hb dX10_shore_37 (by decide) (by omega) (by omega) (fun c37 => ?_) (fun c37 => ?_)
          · exact absurd c37 (by omega)
          · refine lv_aload_n hx hb dX10_shore_40 rfl (lv_at hl 1 rfl) ?_
            refine va_get (D := D) (ci := 9) (v := .ref (ad 3)) (C := RX10) (T := TX10) (N := 8) hx hb hts ni10 hown hK hP 0 (cw_c0 cy ad aw τ u1) rfl 1 (by decide) (hts _ flX10_19) (fun _ h => h) rfl dX10_shore_41 ?_
            refine lv_aload_n hx hb dX10_shore_44 rfl (lv_at hl 1 rfl) ?_
            refine va_get (D := D) (ci := 9) (v := .ref (ad 8)) (C := RX10) (T := TX10) (N := 8) hx hb hts ni10 hown hK hP 0 (cw_c0 cy ad aw τ u1) rfl 2 (by decide) (hts _ flX10_28) (fun _ h => h) rfl dX10_shore_45 ?_
            refine va_get (D := D) (ci := 2) (v := .ref (ad 9)) (C := RX2) (T := TX2) (N := 11) hx hb hts ni2 hown hK hP 8 (cw_c8 cy ad aw τ u1) rfl 0 (by decide) (hts _ flX10_85) (fun _ h => h) rfl dX10_shore_48 ?_
            refine lv_iload_n hx hb dX10_shore_51 rfl (lv_at hl 0 rfl) ?_
            refine ln_aald (x := ad (34 + i)) hx hb hK hP 9 3 (cw_c9 cy ad aw τ u1) rfl (by omega) (by decide) rfl dX10_shore_52 ?_
            refine kw_v (n := 1) (As := [.ref (ad (34 + i))]) (rest := []) ⟨hx, hb, hml, hown, hts⟩ (k_X3_carryOut l D cy ad aw aS aV aT τ u1 i x.1 x.2 (by omega) hwf.1 hokr.1 (hLB 0 x rfl)) gvX10_89 (by decide +kernel) ⟨Nat.le_of_ble_eq_true rfl, Nat.le_of_ble_eq_true rfl⟩ hK hN hP hD hS hA hC 3 (cw_c3 cy ad aw τ u1) rfl rfl hl.1 rfl (Nat.le_of_ble_eq_true rfl) dX10_shore_53 ⟨Nat.zero_le _, Nat.zero_le _⟩ (fun _ => (cw_ad _ _ _ _ _).trans (cw_ad _ _ _ _ _).symm) (fun u5 H locs hpu5 hP hD hS => ?_)
            have hP : va_P D vwCl (cw cy ad aw (doL τ x.1 x.2) u1) H := hP
            have hD : va_D A (cw cy ad aw (doL τ x.1 x.2) u1) := hD
            refine ln_iinc (lv' := [(1, .int (nI (i + 1))), (0, .ref (ad 0))]) hx hb dX10_shore_56 hl (k := 0) (n := 1) rfl (by decide) rfl (fun ls hl => ?_)
            refine lv_goto (tgt := 23) hx hb dX10_shore_59 (by decide) ?_
            exact ih (doL τ x.1 x.2) (i + 1) _ _ ls (by omega) (wf1_do hwf hokr.1) hokr.2 hrun (fun j y hy => by rw [show i + 1 + j = i + (j + 1) by omega]; exact hLB (j + 1) y hy) hP hD hS (lv_sub hl [0, 1] rfl)
    exact sl q σ 0 _ _ ls (Nat.zero_add _) (wf1_of hw) hokq rfl (fun j x hx => by rw [Nat.zero_add]; exact hLJ1 j x hx) hP hD hS (lv_sub hl [0, 1] rfl)
set_option maxHeartbeats 4000000 in
set_option maxRecDepth 100000 in
theorem k_X8_isUnder (l : Launch) (D : va_G) (cy : Nat → ClassId) (ad aw aS aV aT : Nat → Nat) (σ : Sg) (J : Js) (t k : Nat) (ht : t < 8) (hk6 : k < 6) (hk3 : s_th σ (6 * t) ≤ 3) : MRC l yX8_isUnder qX8_isUnder 0 [.ref (ad (21 + t)), .int (nI (k))] D cy (cw cy ad aw σ J) aw aS aV aT (bI (isAs (s_th σ (6 * t)) k)) := by
  refine Met.ofW (cc := cX8_isUnder) (maxL := 4) (ret := (some .boolean)) (by decide) rfl ?_
  intro p e s m args below meth c s₁ B hml hv
  obtain ⟨rfl, hP, hK, hN, hC⟩ := hv
  have hx := B.exec
  have hb := B.bytes
  have hr := B.returns
  have hlocks := B.notSynchronized
  have hts : ∀ cq ∈ tg, cq.before ([.ref (ad (21 + t)), .int (nI (k))] : List Value).toArray s = true := fun cq h => atoms_spec (ws := qX8_isUnder) B.pre cq (List.mem_cons_of_mem _ h)
  have hown : s.vm.findClass RX8 = some m.cls := findClass_of_methodNamed B.named
  have hS : va_S (fun _ => False) s.heap s.heap [] := va_S.rf
  have hl := lv_entry ([.ref (ad (21 + t)), .int (nI (k))]) (n := 4) (Nat.le_of_ble_eq_true rfl)
  rw [lg_entry_eq]
  generalize (lg_sl ([.ref (ad (21 + t)), .int (nI (k))]) ++ List.replicate (4 - (lg_sl ([.ref (ad (21 + t)), .int (nI (k))])).length) Slot.unset).toArray = ls at hl ⊢
  have hl : lv_has ls 4 [(0, .ref (ad (21 + t))), (1, .int (nI (k)))] := hl
  rcases (show s_th σ (6 * t) = 0 ∨ s_th σ (6 * t) = 1 ∨ s_th σ (6 * t) = 2 ∨ s_th σ (6 * t) = 3 by omega) with hk | hk | hk | hk
  · refine lv_iconst (v := nI 2) hx hb dX8_isUnder_0 (by decide) ?_
    refine lv_aload_n hx hb dX8_isUnder_1 rfl (lv_at hl 0 rfl) ?_
    refine va_get (D := D) (ci := 8) (v := .int (nI (s_th σ (6 * t)))) (C := RX8) (T := TX8) (N := 6) hx hb hts ni8 hown hK hP (21 + t) (cw_thing cy ad aw σ J (t := t) (by omega)) rfl 0 (by decide) (hts _ flX8_9) (fun _ h => h) rfl dX8_isUnder_2 ?_
    refine ln_nat (show s_th σ (6 * t) = 0 from hk) ?_
    refine ln_iadd hx hb dX8_isUnder_5 ?_
    refine ln_nat (show 2 + 0 = 2 from rfl) ?_
    refine lv_istore_n (lv' := [(2, .int (nI (2))), (0, .ref (ad (21 + t))), (1, .int (nI (k)))]) hx hb dX8_isUnder_6 rfl hl (by decide) rfl (fun ls hl => ?_)
    refine lv_iconst (v := nI 0) hx hb dX8_isUnder_7 (by decide) ?_
    refine lv_istore_n (lv' := [(3, .int (nI (0))), (2, .int (nI (2))), (0, .ref (ad (21 + t))), (1, .int (nI (k)))]) hx hb dX8_isUnder_8 rfl hl (by decide) rfl (fun ls hl => ?_)
    refine lv_iload_n hx hb dX8_isUnder_9 rfl (lv_at hl 0 rfl) ?_
    refine va_gets hx hb hC.2.2.2.2.2.2.1.1 hS hown (hts _ flX8_35) (fun _ h => h) dX8_isUnder_10 ?_
    refine va_tlen (v := (nI (6))) hx hb hC.2.2.2.2.2.2.1.2 hS rfl dX8_isUnder_13 ?_
    refine lv_icmp_ge (tgt := 48) hx hb dX8_isUnder_14 (by decide) (fun c => absurd c (by decide)) (fun _ => ?_)
    refine lv_iload_n hx hb dX8_isUnder_17 rfl (lv_at hl 1 rfl) ?_
    refine ln_if_lt (tgt := 48) hx hb dX8_isUnder_18 (by decide) (by omega) ?_
    refine lv_iload_n hx hb dX8_isUnder_21 rfl (lv_at hl 1 rfl) ?_
    refine va_gets hx hb hC.2.2.2.2.2.2.1.1 hS hown (hts _ flX8_35) (fun _ h => h) dX8_isUnder_22 ?_
    refine va_tlen (v := (nI (6))) hx hb hC.2.2.2.2.2.2.1.2 hS rfl dX8_isUnder_25 ?_
    refine lv_icmp_ge (tgt := 48) hx hb dX8_isUnder_26 (by decide) (fun c => absurd c (by decide)) (fun _ => ?_)
    refine lv_iload_n hx hb dX8_isUnder_29 rfl (lv_at hl 1 rfl) ?_
    refine lv_iload_n hx hb dX8_isUnder_30 rfl (lv_at hl 3 rfl) ?_
    refine ln_icmp_ne (tgt := 36) hx hb dX8_isUnder_31 (by decide) (by omega) (by omega) (fun c31 => ?_) (fun c31 => ?_)
    · refine va_gets hx hb hC.2.2.2.2.2.2.1.1 hS hown (hts _ flX8_35) (fun _ h => h) dX8_isUnder_36 ?_
      refine lv_iload_n hx hb dX8_isUnder_39 rfl (lv_at hl 1 rfl) ?_
      refine lk_ti (v := .int (nI (1))) hx hb hC.2.2.2.2.2.2.1.2 hS (by decide) (by decide) rfl dX8_isUnder_40 ?_
      refine lv_istore_n (lv' := [(2, .int (nI (1))), (3, .int (nI (0))), (0, .ref (ad (21 + t))), (1, .int (nI (k)))]) hx hb dX8_isUnder_41 rfl hl (by decide) rfl (fun ls hl => ?_)
      refine ln_iinc (lv' := [(3, .int (nI (1))), (2, .int (nI (1))), (0, .ref (ad (21 + t))), (1, .int (nI (k)))]) hx hb dX8_isUnder_42 hl (k := 1) (n := 1) rfl (by decide) rfl (fun ls hl => ?_)
      refine lv_goto (tgt := 9) hx hb dX8_isUnder_45 (by decide) ?_
      refine lv_iload_n hx hb dX8_isUnder_9 rfl (lv_at hl 0 rfl) ?_
      refine va_gets hx hb hC.2.2.2.2.2.2.1.1 hS hown (hts _ flX8_35) (fun _ h => h) dX8_isUnder_10 ?_
      refine va_tlen (v := (nI (6))) hx hb hC.2.2.2.2.2.2.1.2 hS rfl dX8_isUnder_13 ?_
      refine lv_icmp_ge (tgt := 48) hx hb dX8_isUnder_14 (by decide) (fun c => absurd c (by decide)) (fun _ => ?_)
      refine lv_iload_n hx hb dX8_isUnder_17 rfl (lv_at hl 1 rfl) ?_
      refine ln_if_lt (tgt := 48) hx hb dX8_isUnder_18 (by decide) (by omega) ?_
      refine lv_iload_n hx hb dX8_isUnder_21 rfl (lv_at hl 1 rfl) ?_
      refine va_gets hx hb hC.2.2.2.2.2.2.1.1 hS hown (hts _ flX8_35) (fun _ h => h) dX8_isUnder_22 ?_
      refine va_tlen (v := (nI (6))) hx hb hC.2.2.2.2.2.2.1.2 hS rfl dX8_isUnder_25 ?_
      refine lv_icmp_ge (tgt := 48) hx hb dX8_isUnder_26 (by decide) (fun c => absurd c (by decide)) (fun _ => ?_)
      refine lv_iload_n hx hb dX8_isUnder_29 rfl (lv_at hl 1 rfl) ?_
      refine lv_iload_n hx hb dX8_isUnder_30 rfl (lv_at hl 3 rfl) ?_
      refine ln_icmp_ne (tgt := 36) hx hb dX8_isUnder_31 (by decide) (by omega) (by omega) (fun c31 => ?_) (fun c31 => ?_)
      · refine va_gets hx hb hC.2.2.2.2.2.2.1.1 hS hown (hts _ flX8_35) (fun _ h => h) dX8_isUnder_36 ?_
        refine lv_iload_n hx hb dX8_isUnder_39 rfl (lv_at hl 1 rfl) ?_
        refine lk_ti (v := .int (nI (0))) hx hb hC.2.2.2.2.2.2.1.2 hS (by decide) (by decide) rfl dX8_isUnder_40 ?_
        refine lv_istore_n (lv' := [(2, .int (nI (0))), (3, .int (nI (1))), (0, .ref (ad (21 + t))), (1, .int (nI (k)))]) hx hb dX8_isUnder_41 rfl hl (by decide) rfl (fun ls hl => ?_)
        refine ln_iinc (lv' := [(3, .int (nI (2))), (2, .int (nI (0))), (0, .ref (ad (21 + t))), (1, .int (nI (k)))]) hx hb dX8_isUnder_42 hl (k := 1) (n := 1) rfl (by decide) rfl (fun ls hl => ?_)
        refine lv_goto (tgt := 9) hx hb dX8_isUnder_45 (by decide) ?_
        refine lv_iload_n hx hb dX8_isUnder_9 rfl (lv_at hl 0 rfl) ?_
        refine va_gets hx hb hC.2.2.2.2.2.2.1.1 hS hown (hts _ flX8_35) (fun _ h => h) dX8_isUnder_10 ?_
        refine va_tlen (v := (nI (6))) hx hb hC.2.2.2.2.2.2.1.2 hS rfl dX8_isUnder_13 ?_
        refine lv_icmp_ge (tgt := 48) hx hb dX8_isUnder_14 (by decide) (fun c => absurd c (by decide)) (fun _ => ?_)
        refine lv_iload_n hx hb dX8_isUnder_17 rfl (lv_at hl 1 rfl) ?_
        refine ln_if_lt (tgt := 48) hx hb dX8_isUnder_18 (by decide) (by omega) ?_
        refine lv_iload_n hx hb dX8_isUnder_21 rfl (lv_at hl 1 rfl) ?_
        refine va_gets hx hb hC.2.2.2.2.2.2.1.1 hS hown (hts _ flX8_35) (fun _ h => h) dX8_isUnder_22 ?_
        refine va_tlen (v := (nI (6))) hx hb hC.2.2.2.2.2.2.1.2 hS rfl dX8_isUnder_25 ?_
        refine lv_icmp_ge (tgt := 48) hx hb dX8_isUnder_26 (by decide) (fun c => absurd c (by decide)) (fun _ => ?_)
        refine lv_iload_n hx hb dX8_isUnder_29 rfl (lv_at hl 1 rfl) ?_
        refine lv_iload_n hx hb dX8_isUnder_30 rfl (lv_at hl 3 rfl) ?_
        refine ln_icmp_ne (tgt := 36) hx hb dX8_isUnder_31 (by decide) (by omega) (by omega) (fun c31 => ?_) (fun c31 => ?_)
        · refine va_gets hx hb hC.2.2.2.2.2.2.1.1 hS hown (hts _ flX8_35) (fun _ h => h) dX8_isUnder_36 ?_
          refine lv_iload_n hx hb dX8_isUnder_39 rfl (lv_at hl 1 rfl) ?_
          refine lk_ti (v := .int (-1)) hx hb hC.2.2.2.2.2.2.1.2 hS (by decide) (by decide) rfl dX8_isUnder_40 ?_
          refine lv_istore_n (lv' := [(2, .int (-1)), (3, .int (nI (2))), (0, .ref (ad (21 + t))), (1, .int (nI (k)))]) hx hb dX8_isUnder_41 rfl hl (by decide) rfl (fun ls hl => ?_)
          refine ln_iinc (lv' := [(3, .int (nI (3))), (2, .int (-1)), (0, .ref (ad (21 + t))), (1, .int (nI (k)))]) hx hb dX8_isUnder_42 hl (k := 1) (n := 1) rfl (by decide) rfl (fun ls hl => ?_)
          refine lv_goto (tgt := 9) hx hb dX8_isUnder_45 (by decide) ?_
          refine lv_iload_n hx hb dX8_isUnder_9 rfl (lv_at hl 0 rfl) ?_
          refine va_gets hx hb hC.2.2.2.2.2.2.1.1 hS hown (hts _ flX8_35) (fun _ h => h) dX8_isUnder_10 ?_
          refine va_tlen (v := (nI (6))) hx hb hC.2.2.2.2.2.2.1.2 hS rfl dX8_isUnder_13 ?_
          refine lv_icmp_ge (tgt := 48) hx hb dX8_isUnder_14 (by decide) (fun c => absurd c (by decide)) (fun _ => ?_)
          refine lv_iload_n hx hb dX8_isUnder_17 rfl (lv_at hl 1 rfl) ?_
          refine lv_if_lt (tgt := 48) hx hb dX8_isUnder_18 (by decide) (fun _ => ?_) (fun c => absurd (by decide) c)
          refine lv_iconst (v := nI 0) hx hb dX8_isUnder_48 (by decide) ?_
          refine ln_eq bI_f.symm ?_
          exact rt_z hx hb hr hlocks ((show isAs (s_th σ (6 * t)) k = false from decide_eq_false (by omega)).symm) dX8_isUnder_49
        · refine lv_iconst (v := nI 1) hx hb dX8_isUnder_34 (by decide) ?_
          refine ln_eq bI_t.symm ?_
          exact rt_z hx hb hr hlocks ((show isAs (s_th σ (6 * t)) k = true from decide_eq_true (by omega)).symm) dX8_isUnder_35
      · refine lv_iconst (v := nI 1) hx hb dX8_isUnder_34 (by decide) ?_
        refine ln_eq bI_t.symm ?_
        exact rt_z hx hb hr hlocks ((show isAs (s_th σ (6 * t)) k = true from decide_eq_true (by omega)).symm) dX8_isUnder_35
    · refine lv_iconst (v := nI 1) hx hb dX8_isUnder_34 (by decide) ?_
      refine ln_eq bI_t.symm ?_
      exact rt_z hx hb hr hlocks ((show isAs (s_th σ (6 * t)) k = true from decide_eq_true (by omega)).symm) dX8_isUnder_35
  · refine lv_iconst (v := nI 2) hx hb dX8_isUnder_0 (by decide) ?_
    refine lv_aload_n hx hb dX8_isUnder_1 rfl (lv_at hl 0 rfl) ?_
    refine va_get (D := D) (ci := 8) (v := .int (nI (s_th σ (6 * t)))) (C := RX8) (T := TX8) (N := 6) hx hb hts ni8 hown hK hP (21 + t) (cw_thing cy ad aw σ J (t := t) (by omega)) rfl 0 (by decide) (hts _ flX8_9) (fun _ h => h) rfl dX8_isUnder_2 ?_
    refine ln_nat (show s_th σ (6 * t) = 1 from hk) ?_
    refine ln_iadd hx hb dX8_isUnder_5 ?_
    refine ln_nat (show 2 + 1 = 3 from rfl) ?_
    refine lv_istore_n (lv' := [(2, .int (nI (3))), (0, .ref (ad (21 + t))), (1, .int (nI (k)))]) hx hb dX8_isUnder_6 rfl hl (by decide) rfl (fun ls hl => ?_)
    refine lv_iconst (v := nI 0) hx hb dX8_isUnder_7 (by decide) ?_
    refine lv_istore_n (lv' := [(3, .int (nI (0))), (2, .int (nI (3))), (0, .ref (ad (21 + t))), (1, .int (nI (k)))]) hx hb dX8_isUnder_8 rfl hl (by decide) rfl (fun ls hl => ?_)
    refine lv_iload_n hx hb dX8_isUnder_9 rfl (lv_at hl 0 rfl) ?_
    refine va_gets hx hb hC.2.2.2.2.2.2.1.1 hS hown (hts _ flX8_35) (fun _ h => h) dX8_isUnder_10 ?_
    refine va_tlen (v := (nI (6))) hx hb hC.2.2.2.2.2.2.1.2 hS rfl dX8_isUnder_13 ?_
    refine lv_icmp_ge (tgt := 48) hx hb dX8_isUnder_14 (by decide) (fun c => absurd c (by decide)) (fun _ => ?_)
    refine lv_iload_n hx hb dX8_isUnder_17 rfl (lv_at hl 1 rfl) ?_
    refine ln_if_lt (tgt := 48) hx hb dX8_isUnder_18 (by decide) (by omega) ?_
    refine lv_iload_n hx hb dX8_isUnder_21 rfl (lv_at hl 1 rfl) ?_
    refine va_gets hx hb hC.2.2.2.2.2.2.1.1 hS hown (hts _ flX8_35) (fun _ h => h) dX8_isUnder_22 ?_
    refine va_tlen (v := (nI (6))) hx hb hC.2.2.2.2.2.2.1.2 hS rfl dX8_isUnder_25 ?_
    refine lv_icmp_ge (tgt := 48) hx hb dX8_isUnder_26 (by decide) (fun c => absurd c (by decide)) (fun _ => ?_)
    refine lv_iload_n hx hb dX8_isUnder_29 rfl (lv_at hl 1 rfl) ?_
    refine lv_iload_n hx hb dX8_isUnder_30 rfl (lv_at hl 3 rfl) ?_
    refine ln_icmp_ne (tgt := 36) hx hb dX8_isUnder_31 (by decide) (by omega) (by omega) (fun c31 => ?_) (fun c31 => ?_)
    · refine va_gets hx hb hC.2.2.2.2.2.2.1.1 hS hown (hts _ flX8_35) (fun _ h => h) dX8_isUnder_36 ?_
      refine lv_iload_n hx hb dX8_isUnder_39 rfl (lv_at hl 1 rfl) ?_
      refine lk_ti (v := .int (nI (2))) hx hb hC.2.2.2.2.2.2.1.2 hS (by decide) (by decide) rfl dX8_isUnder_40 ?_
      refine lv_istore_n (lv' := [(2, .int (nI (2))), (3, .int (nI (0))), (0, .ref (ad (21 + t))), (1, .int (nI (k)))]) hx hb dX8_isUnder_41 rfl hl (by decide) rfl (fun ls hl => ?_)
      refine ln_iinc (lv' := [(3, .int (nI (1))), (2, .int (nI (2))), (0, .ref (ad (21 + t))), (1, .int (nI (k)))]) hx hb dX8_isUnder_42 hl (k := 1) (n := 1) rfl (by decide) rfl (fun ls hl => ?_)
      refine lv_goto (tgt := 9) hx hb dX8_isUnder_45 (by decide) ?_
      refine lv_iload_n hx hb dX8_isUnder_9 rfl (lv_at hl 0 rfl) ?_
      refine va_gets hx hb hC.2.2.2.2.2.2.1.1 hS hown (hts _ flX8_35) (fun _ h => h) dX8_isUnder_10 ?_
      refine va_tlen (v := (nI (6))) hx hb hC.2.2.2.2.2.2.1.2 hS rfl dX8_isUnder_13 ?_
      refine lv_icmp_ge (tgt := 48) hx hb dX8_isUnder_14 (by decide) (fun c => absurd c (by decide)) (fun _ => ?_)
      refine lv_iload_n hx hb dX8_isUnder_17 rfl (lv_at hl 1 rfl) ?_
      refine ln_if_lt (tgt := 48) hx hb dX8_isUnder_18 (by decide) (by omega) ?_
      refine lv_iload_n hx hb dX8_isUnder_21 rfl (lv_at hl 1 rfl) ?_
      refine va_gets hx hb hC.2.2.2.2.2.2.1.1 hS hown (hts _ flX8_35) (fun _ h => h) dX8_isUnder_22 ?_
      refine va_tlen (v := (nI (6))) hx hb hC.2.2.2.2.2.2.1.2 hS rfl dX8_isUnder_25 ?_
      refine lv_icmp_ge (tgt := 48) hx hb dX8_isUnder_26 (by decide) (fun c => absurd c (by decide)) (fun _ => ?_)
      refine lv_iload_n hx hb dX8_isUnder_29 rfl (lv_at hl 1 rfl) ?_
      refine lv_iload_n hx hb dX8_isUnder_30 rfl (lv_at hl 3 rfl) ?_
      refine ln_icmp_ne (tgt := 36) hx hb dX8_isUnder_31 (by decide) (by omega) (by omega) (fun c31 => ?_) (fun c31 => ?_)
      · refine va_gets hx hb hC.2.2.2.2.2.2.1.1 hS hown (hts _ flX8_35) (fun _ h => h) dX8_isUnder_36 ?_
        refine lv_iload_n hx hb dX8_isUnder_39 rfl (lv_at hl 1 rfl) ?_
        refine lk_ti (v := .int (nI (1))) hx hb hC.2.2.2.2.2.2.1.2 hS (by decide) (by decide) rfl dX8_isUnder_40 ?_
        refine lv_istore_n (lv' := [(2, .int (nI (1))), (3, .int (nI (1))), (0, .ref (ad (21 + t))), (1, .int (nI (k)))]) hx hb dX8_isUnder_41 rfl hl (by decide) rfl (fun ls hl => ?_)
        refine ln_iinc (lv' := [(3, .int (nI (2))), (2, .int (nI (1))), (0, .ref (ad (21 + t))), (1, .int (nI (k)))]) hx hb dX8_isUnder_42 hl (k := 1) (n := 1) rfl (by decide) rfl (fun ls hl => ?_)
        refine lv_goto (tgt := 9) hx hb dX8_isUnder_45 (by decide) ?_
        refine lv_iload_n hx hb dX8_isUnder_9 rfl (lv_at hl 0 rfl) ?_
        refine va_gets hx hb hC.2.2.2.2.2.2.1.1 hS hown (hts _ flX8_35) (fun _ h => h) dX8_isUnder_10 ?_
        refine va_tlen (v := (nI (6))) hx hb hC.2.2.2.2.2.2.1.2 hS rfl dX8_isUnder_13 ?_
        refine lv_icmp_ge (tgt := 48) hx hb dX8_isUnder_14 (by decide) (fun c => absurd c (by decide)) (fun _ => ?_)
        refine lv_iload_n hx hb dX8_isUnder_17 rfl (lv_at hl 1 rfl) ?_
        refine ln_if_lt (tgt := 48) hx hb dX8_isUnder_18 (by decide) (by omega) ?_
        refine lv_iload_n hx hb dX8_isUnder_21 rfl (lv_at hl 1 rfl) ?_
        refine va_gets hx hb hC.2.2.2.2.2.2.1.1 hS hown (hts _ flX8_35) (fun _ h => h) dX8_isUnder_22 ?_
        refine va_tlen (v := (nI (6))) hx hb hC.2.2.2.2.2.2.1.2 hS rfl dX8_isUnder_25 ?_
        refine lv_icmp_ge (tgt := 48) hx hb dX8_isUnder_26 (by decide) (fun c => absurd c (by decide)) (fun _ => ?_)
        refine lv_iload_n hx hb dX8_isUnder_29 rfl (lv_at hl 1 rfl) ?_
        refine lv_iload_n hx hb dX8_isUnder_30 rfl (lv_at hl 3 rfl) ?_
        refine ln_icmp_ne (tgt := 36) hx hb dX8_isUnder_31 (by decide) (by omega) (by omega) (fun c31 => ?_) (fun c31 => ?_)
        · refine va_gets hx hb hC.2.2.2.2.2.2.1.1 hS hown (hts _ flX8_35) (fun _ h => h) dX8_isUnder_36 ?_
          refine lv_iload_n hx hb dX8_isUnder_39 rfl (lv_at hl 1 rfl) ?_
          refine lk_ti (v := .int (nI (0))) hx hb hC.2.2.2.2.2.2.1.2 hS (by decide) (by decide) rfl dX8_isUnder_40 ?_
          refine lv_istore_n (lv' := [(2, .int (nI (0))), (3, .int (nI (2))), (0, .ref (ad (21 + t))), (1, .int (nI (k)))]) hx hb dX8_isUnder_41 rfl hl (by decide) rfl (fun ls hl => ?_)
          refine ln_iinc (lv' := [(3, .int (nI (3))), (2, .int (nI (0))), (0, .ref (ad (21 + t))), (1, .int (nI (k)))]) hx hb dX8_isUnder_42 hl (k := 1) (n := 1) rfl (by decide) rfl (fun ls hl => ?_)
          refine lv_goto (tgt := 9) hx hb dX8_isUnder_45 (by decide) ?_
          refine lv_iload_n hx hb dX8_isUnder_9 rfl (lv_at hl 0 rfl) ?_
          refine va_gets hx hb hC.2.2.2.2.2.2.1.1 hS hown (hts _ flX8_35) (fun _ h => h) dX8_isUnder_10 ?_
          refine va_tlen (v := (nI (6))) hx hb hC.2.2.2.2.2.2.1.2 hS rfl dX8_isUnder_13 ?_
          refine lv_icmp_ge (tgt := 48) hx hb dX8_isUnder_14 (by decide) (fun c => absurd c (by decide)) (fun _ => ?_)
          refine lv_iload_n hx hb dX8_isUnder_17 rfl (lv_at hl 1 rfl) ?_
          refine ln_if_lt (tgt := 48) hx hb dX8_isUnder_18 (by decide) (by omega) ?_
          refine lv_iload_n hx hb dX8_isUnder_21 rfl (lv_at hl 1 rfl) ?_
          refine va_gets hx hb hC.2.2.2.2.2.2.1.1 hS hown (hts _ flX8_35) (fun _ h => h) dX8_isUnder_22 ?_
          refine va_tlen (v := (nI (6))) hx hb hC.2.2.2.2.2.2.1.2 hS rfl dX8_isUnder_25 ?_
          refine lv_icmp_ge (tgt := 48) hx hb dX8_isUnder_26 (by decide) (fun c => absurd c (by decide)) (fun _ => ?_)
          refine lv_iload_n hx hb dX8_isUnder_29 rfl (lv_at hl 1 rfl) ?_
          refine lv_iload_n hx hb dX8_isUnder_30 rfl (lv_at hl 3 rfl) ?_
          refine ln_icmp_ne (tgt := 36) hx hb dX8_isUnder_31 (by decide) (by omega) (by omega) (fun c31 => ?_) (fun c31 => ?_)
          · refine va_gets hx hb hC.2.2.2.2.2.2.1.1 hS hown (hts _ flX8_35) (fun _ h => h) dX8_isUnder_36 ?_
            refine lv_iload_n hx hb dX8_isUnder_39 rfl (lv_at hl 1 rfl) ?_
            refine lk_ti (v := .int (-1)) hx hb hC.2.2.2.2.2.2.1.2 hS (by decide) (by decide) rfl dX8_isUnder_40 ?_
            refine lv_istore_n (lv' := [(2, .int (-1)), (3, .int (nI (3))), (0, .ref (ad (21 + t))), (1, .int (nI (k)))]) hx hb dX8_isUnder_41 rfl hl (by decide) rfl (fun ls hl => ?_)
            refine ln_iinc (lv' := [(3, .int (nI (4))), (2, .int (-1)), (0, .ref (ad (21 + t))), (1, .int (nI (k)))]) hx hb dX8_isUnder_42 hl (k := 1) (n := 1) rfl (by decide) rfl (fun ls hl => ?_)
            refine lv_goto (tgt := 9) hx hb dX8_isUnder_45 (by decide) ?_
            refine lv_iload_n hx hb dX8_isUnder_9 rfl (lv_at hl 0 rfl) ?_
            refine va_gets hx hb hC.2.2.2.2.2.2.1.1 hS hown (hts _ flX8_35) (fun _ h => h) dX8_isUnder_10 ?_
            refine va_tlen (v := (nI (6))) hx hb hC.2.2.2.2.2.2.1.2 hS rfl dX8_isUnder_13 ?_
            refine lv_icmp_ge (tgt := 48) hx hb dX8_isUnder_14 (by decide) (fun c => absurd c (by decide)) (fun _ => ?_)
            refine lv_iload_n hx hb dX8_isUnder_17 rfl (lv_at hl 1 rfl) ?_
            refine lv_if_lt (tgt := 48) hx hb dX8_isUnder_18 (by decide) (fun _ => ?_) (fun c => absurd (by decide) c)
            refine lv_iconst (v := nI 0) hx hb dX8_isUnder_48 (by decide) ?_
            refine ln_eq bI_f.symm ?_
            exact rt_z hx hb hr hlocks ((show isAs (s_th σ (6 * t)) k = false from decide_eq_false (by omega)).symm) dX8_isUnder_49
          · refine lv_iconst (v := nI 1) hx hb dX8_isUnder_34 (by decide) ?_
            refine ln_eq bI_t.symm ?_
            exact rt_z hx hb hr hlocks ((show isAs (s_th σ (6 * t)) k = true from decide_eq_true (by omega)).symm) dX8_isUnder_35
        · refine lv_iconst (v := nI 1) hx hb dX8_isUnder_34 (by decide) ?_
          refine ln_eq bI_t.symm ?_
          exact rt_z hx hb hr hlocks ((show isAs (s_th σ (6 * t)) k = true from decide_eq_true (by omega)).symm) dX8_isUnder_35
      · refine lv_iconst (v := nI 1) hx hb dX8_isUnder_34 (by decide) ?_
        refine ln_eq bI_t.symm ?_
        exact rt_z hx hb hr hlocks ((show isAs (s_th σ (6 * t)) k = true from decide_eq_true (by omega)).symm) dX8_isUnder_35
    · refine lv_iconst (v := nI 1) hx hb dX8_isUnder_34 (by decide) ?_
      refine ln_eq bI_t.symm ?_
      exact rt_z hx hb hr hlocks ((show isAs (s_th σ (6 * t)) k = true from decide_eq_true (by omega)).symm) dX8_isUnder_35
  · refine lv_iconst (v := nI 2) hx hb dX8_isUnder_0 (by decide) ?_
    refine lv_aload_n hx hb dX8_isUnder_1 rfl (lv_at hl 0 rfl) ?_
    refine va_get (D := D) (ci := 8) (v := .int (nI (s_th σ (6 * t)))) (C := RX8) (T := TX8) (N := 6) hx hb hts ni8 hown hK hP (21 + t) (cw_thing cy ad aw σ J (t := t) (by omega)) rfl 0 (by decide) (hts _ flX8_9) (fun _ h => h) rfl dX8_isUnder_2 ?_
    refine ln_nat (show s_th σ (6 * t) = 2 from hk) ?_
    refine ln_iadd hx hb dX8_isUnder_5 ?_
    refine ln_nat (show 2 + 2 = 4 from rfl) ?_
    refine lv_istore_n (lv' := [(2, .int (nI (4))), (0, .ref (ad (21 + t))), (1, .int (nI (k)))]) hx hb dX8_isUnder_6 rfl hl (by decide) rfl (fun ls hl => ?_)
    refine lv_iconst (v := nI 0) hx hb dX8_isUnder_7 (by decide) ?_
    refine lv_istore_n (lv' := [(3, .int (nI (0))), (2, .int (nI (4))), (0, .ref (ad (21 + t))), (1, .int (nI (k)))]) hx hb dX8_isUnder_8 rfl hl (by decide) rfl (fun ls hl => ?_)
    refine lv_iload_n hx hb dX8_isUnder_9 rfl (lv_at hl 0 rfl) ?_
    refine va_gets hx hb hC.2.2.2.2.2.2.1.1 hS hown (hts _ flX8_35) (fun _ h => h) dX8_isUnder_10 ?_
    refine va_tlen (v := (nI (6))) hx hb hC.2.2.2.2.2.2.1.2 hS rfl dX8_isUnder_13 ?_
    refine lv_icmp_ge (tgt := 48) hx hb dX8_isUnder_14 (by decide) (fun c => absurd c (by decide)) (fun _ => ?_)
    refine lv_iload_n hx hb dX8_isUnder_17 rfl (lv_at hl 1 rfl) ?_
    refine ln_if_lt (tgt := 48) hx hb dX8_isUnder_18 (by decide) (by omega) ?_
    refine lv_iload_n hx hb dX8_isUnder_21 rfl (lv_at hl 1 rfl) ?_
    refine va_gets hx hb hC.2.2.2.2.2.2.1.1 hS hown (hts _ flX8_35) (fun _ h => h) dX8_isUnder_22 ?_
    refine va_tlen (v := (nI (6))) hx hb hC.2.2.2.2.2.2.1.2 hS rfl dX8_isUnder_25 ?_
    refine lv_icmp_ge (tgt := 48) hx hb dX8_isUnder_26 (by decide) (fun c => absurd c (by decide)) (fun _ => ?_)
    refine lv_iload_n hx hb dX8_isUnder_29 rfl (lv_at hl 1 rfl) ?_
    refine lv_iload_n hx hb dX8_isUnder_30 rfl (lv_at hl 3 rfl) ?_
    refine ln_icmp_ne (tgt := 36) hx hb dX8_isUnder_31 (by decide) (by omega) (by omega) (fun c31 => ?_) (fun c31 => ?_)
    · refine va_gets hx hb hC.2.2.2.2.2.2.1.1 hS hown (hts _ flX8_35) (fun _ h => h) dX8_isUnder_36 ?_
      refine lv_iload_n hx hb dX8_isUnder_39 rfl (lv_at hl 1 rfl) ?_
      refine lk_ti (v := .int (nI (1))) hx hb hC.2.2.2.2.2.2.1.2 hS (by decide) (by decide) rfl dX8_isUnder_40 ?_
      refine lv_istore_n (lv' := [(2, .int (nI (1))), (3, .int (nI (0))), (0, .ref (ad (21 + t))), (1, .int (nI (k)))]) hx hb dX8_isUnder_41 rfl hl (by decide) rfl (fun ls hl => ?_)
      refine ln_iinc (lv' := [(3, .int (nI (1))), (2, .int (nI (1))), (0, .ref (ad (21 + t))), (1, .int (nI (k)))]) hx hb dX8_isUnder_42 hl (k := 1) (n := 1) rfl (by decide) rfl (fun ls hl => ?_)
      refine lv_goto (tgt := 9) hx hb dX8_isUnder_45 (by decide) ?_
      refine lv_iload_n hx hb dX8_isUnder_9 rfl (lv_at hl 0 rfl) ?_
      refine va_gets hx hb hC.2.2.2.2.2.2.1.1 hS hown (hts _ flX8_35) (fun _ h => h) dX8_isUnder_10 ?_
      refine va_tlen (v := (nI (6))) hx hb hC.2.2.2.2.2.2.1.2 hS rfl dX8_isUnder_13 ?_
      refine lv_icmp_ge (tgt := 48) hx hb dX8_isUnder_14 (by decide) (fun c => absurd c (by decide)) (fun _ => ?_)
      refine lv_iload_n hx hb dX8_isUnder_17 rfl (lv_at hl 1 rfl) ?_
      refine ln_if_lt (tgt := 48) hx hb dX8_isUnder_18 (by decide) (by omega) ?_
      refine lv_iload_n hx hb dX8_isUnder_21 rfl (lv_at hl 1 rfl) ?_
      refine va_gets hx hb hC.2.2.2.2.2.2.1.1 hS hown (hts _ flX8_35) (fun _ h => h) dX8_isUnder_22 ?_
      refine va_tlen (v := (nI (6))) hx hb hC.2.2.2.2.2.2.1.2 hS rfl dX8_isUnder_25 ?_
      refine lv_icmp_ge (tgt := 48) hx hb dX8_isUnder_26 (by decide) (fun c => absurd c (by decide)) (fun _ => ?_)
      refine lv_iload_n hx hb dX8_isUnder_29 rfl (lv_at hl 1 rfl) ?_
      refine lv_iload_n hx hb dX8_isUnder_30 rfl (lv_at hl 3 rfl) ?_
      refine ln_icmp_ne (tgt := 36) hx hb dX8_isUnder_31 (by decide) (by omega) (by omega) (fun c31 => ?_) (fun c31 => ?_)
      · refine va_gets hx hb hC.2.2.2.2.2.2.1.1 hS hown (hts _ flX8_35) (fun _ h => h) dX8_isUnder_36 ?_
        refine lv_iload_n hx hb dX8_isUnder_39 rfl (lv_at hl 1 rfl) ?_
        refine lk_ti (v := .int (nI (0))) hx hb hC.2.2.2.2.2.2.1.2 hS (by decide) (by decide) rfl dX8_isUnder_40 ?_
        refine lv_istore_n (lv' := [(2, .int (nI (0))), (3, .int (nI (1))), (0, .ref (ad (21 + t))), (1, .int (nI (k)))]) hx hb dX8_isUnder_41 rfl hl (by decide) rfl (fun ls hl => ?_)
        refine ln_iinc (lv' := [(3, .int (nI (2))), (2, .int (nI (0))), (0, .ref (ad (21 + t))), (1, .int (nI (k)))]) hx hb dX8_isUnder_42 hl (k := 1) (n := 1) rfl (by decide) rfl (fun ls hl => ?_)
        refine lv_goto (tgt := 9) hx hb dX8_isUnder_45 (by decide) ?_
        refine lv_iload_n hx hb dX8_isUnder_9 rfl (lv_at hl 0 rfl) ?_
        refine va_gets hx hb hC.2.2.2.2.2.2.1.1 hS hown (hts _ flX8_35) (fun _ h => h) dX8_isUnder_10 ?_
        refine va_tlen (v := (nI (6))) hx hb hC.2.2.2.2.2.2.1.2 hS rfl dX8_isUnder_13 ?_
        refine lv_icmp_ge (tgt := 48) hx hb dX8_isUnder_14 (by decide) (fun c => absurd c (by decide)) (fun _ => ?_)
        refine lv_iload_n hx hb dX8_isUnder_17 rfl (lv_at hl 1 rfl) ?_
        refine ln_if_lt (tgt := 48) hx hb dX8_isUnder_18 (by decide) (by omega) ?_
        refine lv_iload_n hx hb dX8_isUnder_21 rfl (lv_at hl 1 rfl) ?_
        refine va_gets hx hb hC.2.2.2.2.2.2.1.1 hS hown (hts _ flX8_35) (fun _ h => h) dX8_isUnder_22 ?_
        refine va_tlen (v := (nI (6))) hx hb hC.2.2.2.2.2.2.1.2 hS rfl dX8_isUnder_25 ?_
        refine lv_icmp_ge (tgt := 48) hx hb dX8_isUnder_26 (by decide) (fun c => absurd c (by decide)) (fun _ => ?_)
        refine lv_iload_n hx hb dX8_isUnder_29 rfl (lv_at hl 1 rfl) ?_
        refine lv_iload_n hx hb dX8_isUnder_30 rfl (lv_at hl 3 rfl) ?_
        refine ln_icmp_ne (tgt := 36) hx hb dX8_isUnder_31 (by decide) (by omega) (by omega) (fun c31 => ?_) (fun c31 => ?_)
        · refine va_gets hx hb hC.2.2.2.2.2.2.1.1 hS hown (hts _ flX8_35) (fun _ h => h) dX8_isUnder_36 ?_
          refine lv_iload_n hx hb dX8_isUnder_39 rfl (lv_at hl 1 rfl) ?_
          refine lk_ti (v := .int (-1)) hx hb hC.2.2.2.2.2.2.1.2 hS (by decide) (by decide) rfl dX8_isUnder_40 ?_
          refine lv_istore_n (lv' := [(2, .int (-1)), (3, .int (nI (2))), (0, .ref (ad (21 + t))), (1, .int (nI (k)))]) hx hb dX8_isUnder_41 rfl hl (by decide) rfl (fun ls hl => ?_)
          refine ln_iinc (lv' := [(3, .int (nI (3))), (2, .int (-1)), (0, .ref (ad (21 + t))), (1, .int (nI (k)))]) hx hb dX8_isUnder_42 hl (k := 1) (n := 1) rfl (by decide) rfl (fun ls hl => ?_)
          refine lv_goto (tgt := 9) hx hb dX8_isUnder_45 (by decide) ?_
          refine lv_iload_n hx hb dX8_isUnder_9 rfl (lv_at hl 0 rfl) ?_
          refine va_gets hx hb hC.2.2.2.2.2.2.1.1 hS hown (hts _ flX8_35) (fun _ h => h) dX8_isUnder_10 ?_
          refine va_tlen (v := (nI (6))) hx hb hC.2.2.2.2.2.2.1.2 hS rfl dX8_isUnder_13 ?_
          refine lv_icmp_ge (tgt := 48) hx hb dX8_isUnder_14 (by decide) (fun c => absurd c (by decide)) (fun _ => ?_)
          refine lv_iload_n hx hb dX8_isUnder_17 rfl (lv_at hl 1 rfl) ?_
          refine lv_if_lt (tgt := 48) hx hb dX8_isUnder_18 (by decide) (fun _ => ?_) (fun c => absurd (by decide) c)
          refine lv_iconst (v := nI 0) hx hb dX8_isUnder_48 (by decide) ?_
          refine ln_eq bI_f.symm ?_
          exact rt_z hx hb hr hlocks ((show isAs (s_th σ (6 * t)) k = false from decide_eq_false (by omega)).symm) dX8_isUnder_49
        · refine lv_iconst (v := nI 1) hx hb dX8_isUnder_34 (by decide) ?_
          refine ln_eq bI_t.symm ?_
          exact rt_z hx hb hr hlocks ((show isAs (s_th σ (6 * t)) k = true from decide_eq_true (by omega)).symm) dX8_isUnder_35
      · refine lv_iconst (v := nI 1) hx hb dX8_isUnder_34 (by decide) ?_
        refine ln_eq bI_t.symm ?_
        exact rt_z hx hb hr hlocks ((show isAs (s_th σ (6 * t)) k = true from decide_eq_true (by omega)).symm) dX8_isUnder_35
    · refine lv_iconst (v := nI 1) hx hb dX8_isUnder_34 (by decide) ?_
      refine ln_eq bI_t.symm ?_
      exact rt_z hx hb hr hlocks ((show isAs (s_th σ (6 * t)) k = true from decide_eq_true (by omega)).symm) dX8_isUnder_35
  · refine lv_iconst (v := nI 2) hx hb dX8_isUnder_0 (by decide) ?_
    refine lv_aload_n hx hb dX8_isUnder_1 rfl (lv_at hl 0 rfl) ?_
    refine va_get (D := D) (ci := 8) (v := .int (nI (s_th σ (6 * t)))) (C := RX8) (T := TX8) (N := 6) hx hb hts ni8 hown hK hP (21 + t) (cw_thing cy ad aw σ J (t := t) (by omega)) rfl 0 (by decide) (hts _ flX8_9) (fun _ h => h) rfl dX8_isUnder_2 ?_
    refine ln_nat (show s_th σ (6 * t) = 3 from hk) ?_
    refine ln_iadd hx hb dX8_isUnder_5 ?_
    refine ln_nat (show 2 + 3 = 5 from rfl) ?_
    refine lv_istore_n (lv' := [(2, .int (nI (5))), (0, .ref (ad (21 + t))), (1, .int (nI (k)))]) hx hb dX8_isUnder_6 rfl hl (by decide) rfl (fun ls hl => ?_)
    refine lv_iconst (v := nI 0) hx hb dX8_isUnder_7 (by decide) ?_
    refine lv_istore_n (lv' := [(3, .int (nI (0))), (2, .int (nI (5))), (0, .ref (ad (21 + t))), (1, .int (nI (k)))]) hx hb dX8_isUnder_8 rfl hl (by decide) rfl (fun ls hl => ?_)
    refine lv_iload_n hx hb dX8_isUnder_9 rfl (lv_at hl 0 rfl) ?_
    refine va_gets hx hb hC.2.2.2.2.2.2.1.1 hS hown (hts _ flX8_35) (fun _ h => h) dX8_isUnder_10 ?_
    refine va_tlen (v := (nI (6))) hx hb hC.2.2.2.2.2.2.1.2 hS rfl dX8_isUnder_13 ?_
    refine lv_icmp_ge (tgt := 48) hx hb dX8_isUnder_14 (by decide) (fun c => absurd c (by decide)) (fun _ => ?_)
    refine lv_iload_n hx hb dX8_isUnder_17 rfl (lv_at hl 1 rfl) ?_
    refine ln_if_lt (tgt := 48) hx hb dX8_isUnder_18 (by decide) (by omega) ?_
    refine lv_iload_n hx hb dX8_isUnder_21 rfl (lv_at hl 1 rfl) ?_
    refine va_gets hx hb hC.2.2.2.2.2.2.1.1 hS hown (hts _ flX8_35) (fun _ h => h) dX8_isUnder_22 ?_
    refine va_tlen (v := (nI (6))) hx hb hC.2.2.2.2.2.2.1.2 hS rfl dX8_isUnder_25 ?_
    refine lv_icmp_ge (tgt := 48) hx hb dX8_isUnder_26 (by decide) (fun c => absurd c (by decide)) (fun _ => ?_)
    refine lv_iload_n hx hb dX8_isUnder_29 rfl (lv_at hl 1 rfl) ?_
    refine lv_iload_n hx hb dX8_isUnder_30 rfl (lv_at hl 3 rfl) ?_
    refine ln_icmp_ne (tgt := 36) hx hb dX8_isUnder_31 (by decide) (by omega) (by omega) (fun c31 => ?_) (fun c31 => ?_)
    · refine va_gets hx hb hC.2.2.2.2.2.2.1.1 hS hown (hts _ flX8_35) (fun _ h => h) dX8_isUnder_36 ?_
      refine lv_iload_n hx hb dX8_isUnder_39 rfl (lv_at hl 1 rfl) ?_
      refine lk_ti (v := .int (nI (0))) hx hb hC.2.2.2.2.2.2.1.2 hS (by decide) (by decide) rfl dX8_isUnder_40 ?_
      refine lv_istore_n (lv' := [(2, .int (nI (0))), (3, .int (nI (0))), (0, .ref (ad (21 + t))), (1, .int (nI (k)))]) hx hb dX8_isUnder_41 rfl hl (by decide) rfl (fun ls hl => ?_)
      refine ln_iinc (lv' := [(3, .int (nI (1))), (2, .int (nI (0))), (0, .ref (ad (21 + t))), (1, .int (nI (k)))]) hx hb dX8_isUnder_42 hl (k := 1) (n := 1) rfl (by decide) rfl (fun ls hl => ?_)
      refine lv_goto (tgt := 9) hx hb dX8_isUnder_45 (by decide) ?_
      refine lv_iload_n hx hb dX8_isUnder_9 rfl (lv_at hl 0 rfl) ?_
      refine va_gets hx hb hC.2.2.2.2.2.2.1.1 hS hown (hts _ flX8_35) (fun _ h => h) dX8_isUnder_10 ?_
      refine va_tlen (v := (nI (6))) hx hb hC.2.2.2.2.2.2.1.2 hS rfl dX8_isUnder_13 ?_
      refine lv_icmp_ge (tgt := 48) hx hb dX8_isUnder_14 (by decide) (fun c => absurd c (by decide)) (fun _ => ?_)
      refine lv_iload_n hx hb dX8_isUnder_17 rfl (lv_at hl 1 rfl) ?_
      refine ln_if_lt (tgt := 48) hx hb dX8_isUnder_18 (by decide) (by omega) ?_
      refine lv_iload_n hx hb dX8_isUnder_21 rfl (lv_at hl 1 rfl) ?_
      refine va_gets hx hb hC.2.2.2.2.2.2.1.1 hS hown (hts _ flX8_35) (fun _ h => h) dX8_isUnder_22 ?_
      refine va_tlen (v := (nI (6))) hx hb hC.2.2.2.2.2.2.1.2 hS rfl dX8_isUnder_25 ?_
      refine lv_icmp_ge (tgt := 48) hx hb dX8_isUnder_26 (by decide) (fun c => absurd c (by decide)) (fun _ => ?_)
      refine lv_iload_n hx hb dX8_isUnder_29 rfl (lv_at hl 1 rfl) ?_
      refine lv_iload_n hx hb dX8_isUnder_30 rfl (lv_at hl 3 rfl) ?_
      refine ln_icmp_ne (tgt := 36) hx hb dX8_isUnder_31 (by decide) (by omega) (by omega) (fun c31 => ?_) (fun c31 => ?_)
      · refine va_gets hx hb hC.2.2.2.2.2.2.1.1 hS hown (hts _ flX8_35) (fun _ h => h) dX8_isUnder_36 ?_
        refine lv_iload_n hx hb dX8_isUnder_39 rfl (lv_at hl 1 rfl) ?_
        refine lk_ti (v := .int (-1)) hx hb hC.2.2.2.2.2.2.1.2 hS (by decide) (by decide) rfl dX8_isUnder_40 ?_
        refine lv_istore_n (lv' := [(2, .int (-1)), (3, .int (nI (1))), (0, .ref (ad (21 + t))), (1, .int (nI (k)))]) hx hb dX8_isUnder_41 rfl hl (by decide) rfl (fun ls hl => ?_)
        refine ln_iinc (lv' := [(3, .int (nI (2))), (2, .int (-1)), (0, .ref (ad (21 + t))), (1, .int (nI (k)))]) hx hb dX8_isUnder_42 hl (k := 1) (n := 1) rfl (by decide) rfl (fun ls hl => ?_)
        refine lv_goto (tgt := 9) hx hb dX8_isUnder_45 (by decide) ?_
        refine lv_iload_n hx hb dX8_isUnder_9 rfl (lv_at hl 0 rfl) ?_
        refine va_gets hx hb hC.2.2.2.2.2.2.1.1 hS hown (hts _ flX8_35) (fun _ h => h) dX8_isUnder_10 ?_
        refine va_tlen (v := (nI (6))) hx hb hC.2.2.2.2.2.2.1.2 hS rfl dX8_isUnder_13 ?_
        refine lv_icmp_ge (tgt := 48) hx hb dX8_isUnder_14 (by decide) (fun c => absurd c (by decide)) (fun _ => ?_)
        refine lv_iload_n hx hb dX8_isUnder_17 rfl (lv_at hl 1 rfl) ?_
        refine lv_if_lt (tgt := 48) hx hb dX8_isUnder_18 (by decide) (fun _ => ?_) (fun c => absurd (by decide) c)
        refine lv_iconst (v := nI 0) hx hb dX8_isUnder_48 (by decide) ?_
        refine ln_eq bI_f.symm ?_
        exact rt_z hx hb hr hlocks ((show isAs (s_th σ (6 * t)) k = false from decide_eq_false (by omega)).symm) dX8_isUnder_49
      · refine lv_iconst (v := nI 1) hx hb dX8_isUnder_34 (by decide) ?_
        refine ln_eq bI_t.symm ?_
        exact rt_z hx hb hr hlocks ((show isAs (s_th σ (6 * t)) k = true from decide_eq_true (by omega)).symm) dX8_isUnder_35
    · refine lv_iconst (v := nI 1) hx hb dX8_isUnder_34 (by decide) ?_
      refine ln_eq bI_t.symm ?_
      exact rt_z hx hb hr hlocks ((show isAs (s_th σ (6 * t)) k = true from decide_eq_true (by omega)).symm) dX8_isUnder_35
set_option maxHeartbeats 4000000 in
set_option maxRecDepth 100000 in
theorem k_X10_as (l : Launch) (D : va_G) (cy : Nat → ClassId) (ad aw aS aV aT : Nat → Nat) (σ : Sg) (J : Js) (t k : Int32) (hw : wfS σ) (hj : wfJ σ J) : MRC l yX10_as qX10_as 2 [.ref (ad 0), .int (t), .int (k)] D cy (cw cy ad aw σ J) aw aS aV aT (a_as σ t k) := by
  refine Met.ofW (cc := cX10_as) (maxL := 3) (ret := (some .int)) (by decide) rfl ?_
  intro p e s m args below meth c s₁ B hml hv
  obtain ⟨rfl, hP, hK, hN, hC⟩ := hv
  have hx := B.exec
  have hb := B.bytes
  have hr := B.returns
  have hlocks := B.notSynchronized
  have hts : ∀ cq ∈ tg, cq.before ([.ref (ad 0), .int (t), .int (k)] : List Value).toArray s = true := fun cq h => atoms_spec (ws := qX10_as) B.pre cq (List.mem_cons_of_mem _ h)
  have hown : s.vm.findClass RX10 = some m.cls := findClass_of_methodNamed B.named
  have hS : va_S (fun _ => False) s.heap s.heap [] := va_S.rf
  have hl := lv_entry ([.ref (ad 0), .int (t), .int (k)]) (n := 3) (Nat.le_of_ble_eq_true rfl)
  rw [lg_entry_eq]
  generalize (lg_sl ([.ref (ad 0), .int (t), .int (k)]) ++ List.replicate (3 - (lg_sl ([.ref (ad 0), .int (t), .int (k)])).length) Slot.unset).toArray = ls at hl ⊢
  have hl : lv_has ls 3 [(0, .ref (ad 0)), (1, .int (t)), (2, .int (k))] := hl
  have hw1 := hw.1
  have hw2 := hw.2.1
  have hp8 := pw_8 hw1
  have hpp := pw_pos (s_n σ)
  have hov := ov_lt hw
  have hmo := mo_lt hw
  have hof := of_lt hw
  refine lv_aload_n hx hb dX10_as_0 rfl (lv_at hl 0 rfl) ?_
  refine va_get (D := D) (ci := 9) (v := .ref (ad 3)) (C := RX10) (T := TX10) (N := 8) hx hb hts ni10 hown hK hP 0 (cw_c0 cy ad aw σ J) rfl 1 (by decide) (hts _ flX10_19) (fun _ h => h) rfl dX10_as_1 ?_
  refine lv_iload_n hx hb dX10_as_4 rfl (lv_at hl 1 rfl) ?_
  refine cr_v (n := 1) (As := [.int (t)]) (rest := []) ⟨hx, hb, hml, hown, hts⟩ (k_X3_hasThing l D cy ad aw σ J (t) hw) gvX10_100 (by decide +kernel) ⟨Nat.le_of_ble_eq_true rfl, Nat.le_of_ble_eq_true rfl⟩ hK hN hP 3 (cw_c3 cy ad aw σ J) rfl rfl hl.1 rfl (Nat.le_of_ble_eq_true rfl) dX10_as_5 ⟨Nat.zero_le _, Nat.zero_le _⟩ ?_
  refine lb_if_ne (tgt := 14) hx hb dX10_as_8 (by decide) (fun c8 => ?_) (fun c8 => ?_)
  · refine lv_iload_n hx hb dX10_as_14 rfl (lv_at hl 2 rfl) ?_
    refine lv_if_lt (tgt := 26) hx hb dX10_as_15 (by decide) (fun c15 => ?_) (fun c15 => ?_)
    · refine lv_bipush (v := -3) hx hb dX10_as_26 (by decide) ?_
      exact rt_i hx hb hr hlocks (by rw [a_as, c8, show isIx 6 k = false from (by first | exact ixf1 (by decide) c15 | exact ixf3 c23)]; rfl) dX10_as_28
    · refine lv_iload_n hx hb dX10_as_18 rfl (lv_at hl 2 rfl) ?_
      refine va_getsN hx hb hC.2.2.2.2.2.2.1.1 hS hown (va_Nw.use rfl hC.N) (fun _ h => h) dX10_as_19 ?_
      refine va_tlen (v := (nI (6))) hx hb hC.2.2.2.2.2.2.1.2 hS rfl dX10_as_22 ?_
      refine lv_icmp_lt (tgt := 29) hx hb dX10_as_23 (by decide) (fun c23 => ?_) (fun c23 => ?_)
      · obtain ⟨t0, ht, rfl⟩ := ix_of c8 (by omega)
        have hl : lv_has ls 3 [(0, .ref (ad 0)), (1, .int (nI (t0))), (2, .int (k))] := hl
        obtain ⟨k0, hk, rfl⟩ := ix_of (ixt2 c15 c23) (by decide)
        have hl : lv_has ls 3 [(0, .ref (ad 0)), (1, .int (nI (t0))), (2, .int (nI (k0)))] := hl
        have hpt8 := pw_lt8 (k := t0) (by omega)
        have hptn := pw_lt ht
        refine lv_aload_n hx hb dX10_as_29 rfl (lv_at hl 0 rfl) ?_
        refine va_get (D := D) (ci := 9) (v := .ref (ad 3)) (C := RX10) (T := TX10) (N := 8) hx hb hts ni10 hown hK hP 0 (cw_c0 cy ad aw σ J) rfl 1 (by decide) (hts _ flX10_19) (fun _ h => h) rfl dX10_as_30 ?_
        refine va_get (D := D) (ci := 3) (v := .ref (ad 4)) (C := RX3) (T := TX3) (N := 9) hx hb hts ni3 hown hK hP 3 (cw_c3 cy ad aw σ J) rfl 0 (by decide) (hts _ flX10_104) (fun _ h => h) rfl dX10_as_33 ?_
        refine lv_iload_n hx hb dX10_as_36 rfl (lv_at hl 1 rfl) ?_
        refine ln_aald (x := ad (21 + t0)) hx hb hK hP 4 5 (cw_c4 cy ad aw σ J) rfl (by omega) (by decide) rfl dX10_as_37 ?_
        refine lv_iload_n hx hb dX10_as_38 rfl (lv_at hl 2 rfl) ?_
        refine kr_v (n := 1) (As := [.int (nI (k0))]) (rest := []) ⟨hx, hb, hml, hown, hts⟩ (k_X8_isUnder l D cy ad aw aS aV aT σ J t0 k0 (by omega) hk (hw.2.2.1 t0 (by omega)).1) gvX10_169 (by decide +kernel) ⟨Nat.le_of_ble_eq_true rfl, Nat.le_of_ble_eq_true rfl⟩ hK hN hP hC hS (21 + t0) (cw_thing cy ad aw σ J (t := t0) (by omega)) rfl rfl hl.1 rfl (Nat.le_of_ble_eq_true rfl) dX10_as_39 ⟨Nat.zero_le _, Nat.zero_le _⟩ ?_
        refine lb_if_eq (tgt := 58) hx hb dX10_as_42 (by decide) (fun c42 => ?_) (fun c42 => ?_)
        · refine lv_bipush (v := -4) hx hb dX10_as_58 (by decide) ?_
          exact rt_i hx hb hr hlocks (by rw [a_as, c8, show isIx 6 (nI k0) = true from ixt2 c15 c23, tk_nI (k := t0) (by omega), tk_nI (k := k0) (by omega), if_neg (by decide), if_neg (by decide), c42]; rfl) dX10_as_60
        · refine lv_aload_n hx hb dX10_as_45 rfl (lv_at hl 0 rfl) ?_
          refine va_get (D := D) (ci := 9) (v := .ref (ad 3)) (C := RX10) (T := TX10) (N := 8) hx hb hts ni10 hown hK hP 0 (cw_c0 cy ad aw σ J) rfl 1 (by decide) (hts _ flX10_19) (fun _ h => h) rfl dX10_as_46 ?_
          refine lv_iconst (v := nI 1) hx hb dX10_as_49 (by decide) ?_
          refine lv_iload_n hx hb dX10_as_50 rfl (lv_at hl 1 rfl) ?_
          refine ln_ishl hx hb dX10_as_51 (by omega) (by omega) ?_
          refine ln_nat (show 1 * 2 ^ t0 = 2 ^ t0 from Nat.one_mul _) ?_
          refine cr_v (n := 1) (As := [.int (nI (2 ^ t0))]) (rest := []) ⟨hx, hb, hml, hown, hts⟩ (k_X3_poundsOf l D cy ad aw σ J (2 ^ t0) hw hj hptn) gvX10_135 (by decide +kernel) ⟨Nat.le_of_ble_eq_true rfl, Nat.le_of_ble_eq_true rfl⟩ hK hN hP 3 (cw_c3 cy ad aw σ J) rfl rfl hl.1 rfl (Nat.le_of_ble_eq_true rfl) dX10_as_52 ⟨Nat.zero_le _, Nat.zero_le _⟩ ?_
          refine lv_goto (tgt := 60) hx hb dX10_as_55 (by decide) ?_
          exact rt_i hx hb hr hlocks (by rw [a_as, c8, show isIx 6 (nI k0) = true from ixt2 c15 c23, tk_nI (k := t0) (by omega), tk_nI (k := k0) (by omega), if_neg (by decide), if_neg (by decide), c42, if_pos rfl]; exact congrArg nI (pdA_1 ht)) dX10_as_60
      · refine lv_bipush (v := -3) hx hb dX10_as_26 (by decide) ?_
        exact rt_i hx hb hr hlocks (by rw [a_as, c8, show isIx 6 k = false from (by first | exact ixf1 (by decide) c15 | exact ixf3 c23)]; rfl) dX10_as_28
  · refine lv_bipush (v := -2) hx hb dX10_as_11 (by decide) ?_
    exact rt_i hx hb hr hlocks (by rw [a_as, c8]; rfl) dX10_as_13
