theorem cp_kept_0 (cy : Nat → ClassId) (ad aw : Nat → Nat) (σ : Sg) (J : Js) (v : Bool) : ∀ {t : Nat}, t < 2 → (cw cy ad aw σ J).set (32 + t) (ad (32 + t), .inr (5, (cf_kept ad aw σ J t).set 0 (.int (bI v)))) = cw cy ad aw (su_kp σ (updB (s_kp σ) t v)) J
  | 0, _ => rfl
  | 1, _ => rfl
  | _ + 2, h => absurd h (by omega)
theorem cp_kept_1 (cy : Nat → ClassId) (ad aw : Nat → Nat) (σ : Sg) (J : Js) (a b : Nat) : ∀ {t : Nat}, t < 2 → (cw cy ad aw σ J).set (32 + t) (ad (32 + t), .inr (5, (cf_kept ad aw σ J t).set 1 (.int (nI (a + 256 * b))))) = cw cy ad aw (su_im σ (updN (updN (s_im σ) (5 * t) a) (5 * t + 1) b)) J
  | 0, _ => rfl
  | 1, _ => rfl
  | _ + 2, h => absurd h (by omega)
theorem cp_kept_2 (cy : Nat → ClassId) (ad aw : Nat → Nat) (σ : Sg) (J : Js) (v : Nat) : ∀ {t : Nat}, t < 2 → (cw cy ad aw σ J).set (32 + t) (ad (32 + t), .inr (5, (cf_kept ad aw σ J t).set 2 (.int (nI v)))) = cw cy ad aw (su_im σ (updN (s_im σ) (5 * t + 2) v)) J
  | 0, _ => rfl
  | 1, _ => rfl
  | _ + 2, h => absurd h (by omega)
theorem cp_kept_3 (cy : Nat → ClassId) (ad aw : Nat → Nat) (σ : Sg) (J : Js) (v : Nat) : ∀ {t : Nat}, t < 2 → (cw cy ad aw σ J).set (32 + t) (ad (32 + t), .inr (5, (cf_kept ad aw σ J t).set 3 (.int (nI v)))) = cw cy ad aw (su_im σ (updN (s_im σ) (5 * t + 3) v)) J
  | 0, _ => rfl
  | 1, _ => rfl
  | _ + 2, h => absurd h (by omega)
theorem cp_kept_4 (cy : Nat → ClassId) (ad aw : Nat → Nat) (σ : Sg) (J : Js) (v : Nat) : ∀ {t : Nat}, t < 2 → (cw cy ad aw σ J).set (32 + t) (ad (32 + t), .inr (5, (cf_kept ad aw σ J t).set 4 (.int (nI v)))) = cw cy ad aw (su_im σ (updN (s_im σ) (5 * t + 4) v)) J
  | 0, _ => rfl
  | 1, _ => rfl
  | _ + 2, h => absurd h (by omega)
theorem cp_20 (cy : Nat → ClassId) (ad aw : Nat → Nat) (σ : Sg) (J : Js) (i f x : Nat) : (cw cy ad aw σ J).set 20 (ad 20, .inl (cy 0, 12, .inl (upd (fun i => nI (256 * s_ro σ (2 * i) + s_ro σ (2 * i + 1))) i (nI (256 * f + x))))) = cw cy ad aw (su_ro σ (updN (updN (s_ro σ) (2 * i) f) (2 * i + 1) x)) J := by
  have h : upd (fun i => nI (256 * s_ro σ (2 * i) + s_ro σ (2 * i + 1))) i (nI (256 * f + x)) = fun j => nI (256 * updN (updN (s_ro σ) (2 * i) f) (2 * i + 1) x (2 * j) + updN (updN (s_ro σ) (2 * i) f) (2 * i + 1) x (2 * j + 1)) := by
    funext j
    unfold upd updN
    by_cases q : j = i
    · subst q
      rw [if_pos rfl, if_neg (by omega), if_pos rfl, if_pos rfl]
    · rw [if_neg q, if_neg (by omega), if_neg (by omega), if_neg (by omega), if_neg (by omega)]
  rw [h]; rfl
theorem bn_le1 {x : Nat} (h : x ≤ 1) : narrow .boolean (.int (nI x)) = .int (nI x) := by
  rcases (show x = 0 ∨ x = 1 by omega) with rfl | rfl <;> rfl
theorem wfJ_keep {σ σ' : Sg} {J : Js} (hj : wfJ σ J) (h1 : s_th σ' = s_th σ) (h2 : s_n σ' = s_n σ) (h3 : s_of σ' = s_of σ) : wfJ σ' J := by
  have hp : ∀ x h, pdA σ' x h = pdA σ x h := fun x h => by unfold pdA pd; rw [h1, h2]
  refine ⟨by rw [peN, h1, h2]; exact hj.1, by rw [whN, h1, h2]; exact hj.2.1, by rw [usN, h1, h2]; exact hj.2.2.1, fun x hx => ?_⟩
  rw [h2] at hx
  rw [hp, h3]
  exact hj.2.2.2 x hx
set_option maxHeartbeats 4000000 in
set_option maxRecDepth 100000 in
theorem k_X7_empty (l : Launch) (D : va_G) (cy : Nat → ClassId) (ad aw : Nat → Nat) (σ : Sg) (J : Js)   : MW l yX7_empty qX7_empty 0 [.ref (ad 1)] D cy (cw cy ad aw σ J) (fun (r : Int32) (_ : Unit) => r = nI (s_ln σ)) (fun _ : Unit => cw cy ad aw (su_ln σ 0) J) := by
  intro sz
  refine Met.ofW (cc := cX7_empty) (maxL := 2) (ret := (some .int)) (by decide) rfl ?_
  intro p e s m args below meth c s₁ B hml hv
  obtain ⟨rfl, rfl, hP, hK, hN, hD0⟩ := hv
  have hx := B.exec
  have hb := B.bytes
  have hr := B.returns
  have hlocks := B.notSynchronized
  have hts : ∀ cq ∈ tg, cq.before ([.ref (ad 1)] : List Value).toArray s = true := fun cq h => atoms_spec (ws := qX7_empty) B.pre cq (List.mem_cons_of_mem _ h)
  have hown : s.vm.findClass RX7 = some m.cls := findClass_of_methodNamed B.named
  have hD := hD0.self (sz := s.heap.size)
  generalize hAe : va_A (cw cy ad aw σ J) s.heap.size = A at hD ⊢
  have hA : ∀ q : Nat, s.heap.size ≤ q → A q := fun q h => by rw [← hAe]; exact Or.inr h
  have hS : va_S A s.heap s.heap [] := va_S.rf
  have hl := lv_entry ([.ref (ad 1)]) (n := 2) (Nat.le_of_ble_eq_true rfl)
  rw [lg_entry_eq]
  generalize (lg_sl ([.ref (ad 1)]) ++ List.replicate (2 - (lg_sl ([.ref (ad 1)])).length) Slot.unset).toArray = ls at hl ⊢
  have hl : lv_has ls 2 [(0, .ref (ad 1))] := hl
  refine lv_aload_n hx hb dX7_empty_0 rfl (lv_at hl 0 rfl) ?_
  refine va_get (D := D) (ci := 7) (v := .int (nI (s_ln σ))) (C := RX7) (T := TX7) (N := 2) hx hb hts ni7 hown hK hP 1 (cw_c1 cy ad aw σ J) rfl 1 (by decide) (hts _ flX7_15) (fun _ h => h) rfl dX7_empty_1 ?_
  refine lv_istore_n (lv' := [(1, .int (nI (s_ln σ))), (0, .ref (ad 1))]) hx hb dX7_empty_4 rfl hl (by decide) rfl (fun ls hl => ?_)
  refine lv_aload_n hx hb dX7_empty_5 rfl (lv_at hl 1 rfl) ?_
  refine lv_iconst (v := nI 0) hx hb dX7_empty_6 (by decide) ?_
  refine ln_put (ci := 7) (C := RX7) (T := TX7) (N := 2) (ty := .int) (v := .int (nI (0))) hx hb hts ni7 tyX7 tyX7_ok nmX7 hown hK hP hD hS 1 (cw_c1 cy ad aw σ J) rfl 1 (by decide) (hts _ flX7_15) (fun _ h => h) rfl (by decide +kernel) rfl rfl (Nat.le_of_ble_eq_true rfl) (cp_1_1 cy ad aw σ J 0) dX7_empty_7 (fun H locs hP hD hS => ?_)
  refine lv_iload_n hx hb dX7_empty_10 rfl (lv_at hl 0 rfl) ?_
  exact rw_i hx hb hr hlocks hS () (rfl) hP dX7_empty_11
set_option maxHeartbeats 4000000 in
set_option maxRecDepth 100000 in
theorem k_X10_erase (l : Launch) (D : va_G) (cy : Nat → ClassId) (ad aw : Nat → Nat) (σ : Sg) (J : Js)  (hj : wfJ σ J) : MW l yX10_erase qX10_erase 1 [.ref (ad 0)] D cy (cw cy ad aw σ J) (fun (r : Int32) (u : Js) => r = nI (s_ln σ) ∧ wfJ (n_erase σ) u) (fun u : Js => cw cy ad aw (n_erase σ) u) := by
  intro sz
  refine Met.ofW (cc := cX10_erase) (maxL := 1) (ret := (some .int)) (by decide) rfl ?_
  intro p e s m args below meth c s₁ B hml hv
  obtain ⟨rfl, rfl, hP, hK, hN, hD0⟩ := hv
  have hx := B.exec
  have hb := B.bytes
  have hr := B.returns
  have hlocks := B.notSynchronized
  have hts : ∀ cq ∈ tg, cq.before ([.ref (ad 0)] : List Value).toArray s = true := fun cq h => atoms_spec (ws := qX10_erase) B.pre cq (List.mem_cons_of_mem _ h)
  have hown : s.vm.findClass RX10 = some m.cls := findClass_of_methodNamed B.named
  have hD := hD0.self (sz := s.heap.size)
  generalize hAe : va_A (cw cy ad aw σ J) s.heap.size = A at hD ⊢
  have hA : ∀ q : Nat, s.heap.size ≤ q → A q := fun q h => by rw [← hAe]; exact Or.inr h
  have hS : va_S A s.heap s.heap [] := va_S.rf
  have hl := lv_entry ([.ref (ad 0)]) (n := 1) (Nat.le_of_ble_eq_true rfl)
  rw [lg_entry_eq]
  generalize (lg_sl ([.ref (ad 0)]) ++ List.replicate (1 - (lg_sl ([.ref (ad 0)])).length) Slot.unset).toArray = ls at hl ⊢
  have hl : lv_has ls 1 [(0, .ref (ad 0))] := hl
  refine lv_aload_n hx hb dX10_erase_0 rfl (lv_at hl 0 rfl) ?_
  refine va_get (D := D) (ci := 9) (v := .ref (ad 1)) (C := RX10) (T := TX10) (N := 8) hx hb hts ni10 hown hK hP 0 (cw_c0 cy ad aw σ J) rfl 0 (by decide) (hts _ flX10_12) (fun _ h => h) rfl dX10_erase_1 ?_
  refine cr_w (n := 0) (As := []) (rest := []) ⟨hx, hb, hml, hown, hts⟩ (k_X7_empty l D cy ad aw σ J ) gvX10_72 (by decide +kernel) ⟨Nat.le_of_ble_eq_true rfl, Nat.le_of_ble_eq_true rfl⟩ hK hN hP hD hS hA 1 (cw_c1 cy ad aw σ J) rfl rfl hl.1 rfl (Nat.le_of_ble_eq_true rfl) dX10_erase_4 ⟨Nat.zero_le _, Nat.zero_le _⟩ (fun _ => (cw_ad _ _ _ _ _).trans (cw_ad _ _ _ _ _).symm) (fun r2 u1 H locs hpu1 hP hD hS => ?_)
  subst hpu1
  have hP : va_P D vwCl (cw cy ad aw (su_ln σ 0) J) H := hP
  have hD : va_D A (cw cy ad aw (su_ln σ 0) J) := hD
  exact rw_i hx hb hr hlocks hS J (⟨rfl, wfJ_keep hj rfl rfl rfl⟩) hP dX10_erase_7
set_option maxHeartbeats 4000000 in
set_option maxRecDepth 100000 in
theorem k_X10_burn (l : Launch) (D : va_G) (cy : Nat → ClassId) (ad aw : Nat → Nat) (σ : Sg) (J : Js)  (hj : wfJ σ J) : MW l yX10_burn qX10_burn 0 [.ref (ad 0)] D cy (cw cy ad aw σ J) (fun (r : Int32) (u : Js) => r = nI (s_rn σ) ∧ wfJ (n_burn σ) u) (fun u : Js => cw cy ad aw (n_burn σ) u) := by
  intro sz
  refine Met.ofW (cc := cX10_burn) (maxL := 2) (ret := (some .int)) (by decide) rfl ?_
  intro p e s m args below meth c s₁ B hml hv
  obtain ⟨rfl, rfl, hP, hK, hN, hD0⟩ := hv
  have hx := B.exec
  have hb := B.bytes
  have hr := B.returns
  have hlocks := B.notSynchronized
  have hts : ∀ cq ∈ tg, cq.before ([.ref (ad 0)] : List Value).toArray s = true := fun cq h => atoms_spec (ws := qX10_burn) B.pre cq (List.mem_cons_of_mem _ h)
  have hown : s.vm.findClass RX10 = some m.cls := findClass_of_methodNamed B.named
  have hD := hD0.self (sz := s.heap.size)
  generalize hAe : va_A (cw cy ad aw σ J) s.heap.size = A at hD ⊢
  have hA : ∀ q : Nat, s.heap.size ≤ q → A q := fun q h => by rw [← hAe]; exact Or.inr h
  have hS : va_S A s.heap s.heap [] := va_S.rf
  have hl := lv_entry ([.ref (ad 0)]) (n := 2) (Nat.le_of_ble_eq_true rfl)
  rw [lg_entry_eq]
  generalize (lg_sl ([.ref (ad 0)]) ++ List.replicate (2 - (lg_sl ([.ref (ad 0)])).length) Slot.unset).toArray = ls at hl ⊢
  have hl : lv_has ls 2 [(0, .ref (ad 0))] := hl
  refine lv_aload_n hx hb dX10_burn_0 rfl (lv_at hl 0 rfl) ?_
  refine va_get (D := D) (ci := 9) (v := .int (nI (s_rn σ))) (C := RX10) (T := TX10) (N := 8) hx hb hts ni10 hown hK hP 0 (cw_c0 cy ad aw σ J) rfl 7 (by decide) (hts _ flX10_58) (fun _ h => h) rfl dX10_burn_1 ?_
  refine lv_istore_n (lv' := [(1, .int (nI (s_rn σ))), (0, .ref (ad 0))]) hx hb dX10_burn_4 rfl hl (by decide) rfl (fun ls hl => ?_)
  refine lv_aload_n hx hb dX10_burn_5 rfl (lv_at hl 1 rfl) ?_
  refine lv_iconst (v := nI 0) hx hb dX10_burn_6 (by decide) ?_
  refine ln_put (ci := 9) (C := RX10) (T := TX10) (N := 8) (ty := .int) (v := .int (nI (0))) hx hb hts ni10 tyX10 tyX10_ok nmX10 hown hK hP hD hS 0 (cw_c0 cy ad aw σ J) rfl 7 (by decide) (hts _ flX10_58) (fun _ h => h) rfl (by decide +kernel) rfl rfl (Nat.le_of_ble_eq_true rfl) (cp_0_7 cy ad aw σ J 0) dX10_burn_7 (fun H locs hP hD hS => ?_)
  refine lv_iload_n hx hb dX10_burn_10 rfl (lv_at hl 0 rfl) ?_
  exact rw_i hx hb hr hlocks hS J (⟨rfl, wfJ_keep hj rfl rfl rfl⟩) hP dX10_burn_11
set_option maxHeartbeats 4000000 in
set_option maxRecDepth 100000 in
theorem k_X7_add (l : Launch) (D : va_G) (cy : Nat → ClassId) (ad aw : Nat → Nat) (σ : Sg) (J : Js) (v : Nat) (h1 : s_ln σ < 200) : MV l yX7_add qX7_add 0 [.ref (ad 1), .int (nI (v))] D cy (cw cy ad aw σ J) (fun _ : Unit => True) (fun _ : Unit => cw cy ad aw (su_ln (su_tx σ (updN (s_tx σ) (s_ln σ) v)) (s_ln σ + 1)) J) := by
  intro sz
  refine Met.ofW (cc := cX7_add) (maxL := 2) (ret := none) (by decide) rfl ?_
  intro p e s m args below meth c s₁ B hml hv
  obtain ⟨rfl, rfl, hP, hK, hN, hD0⟩ := hv
  have hx := B.exec
  have hb := B.bytes
  have hr := B.returns
  have hlocks := B.notSynchronized
  have hts : ∀ cq ∈ tg, cq.before ([.ref (ad 1), .int (nI (v))] : List Value).toArray s = true := fun cq h => atoms_spec (ws := qX7_add) B.pre cq (List.mem_cons_of_mem _ h)
  have hown : s.vm.findClass RX7 = some m.cls := findClass_of_methodNamed B.named
  have hD := hD0.self (sz := s.heap.size)
  generalize hAe : va_A (cw cy ad aw σ J) s.heap.size = A at hD ⊢
  have hA : ∀ q : Nat, s.heap.size ≤ q → A q := fun q h => by rw [← hAe]; exact Or.inr h
  have hS : va_S A s.heap s.heap [] := va_S.rf
  have hl := lv_entry ([.ref (ad 1), .int (nI (v))]) (n := 2) (Nat.le_of_ble_eq_true rfl)
  rw [lg_entry_eq]
  generalize (lg_sl ([.ref (ad 1), .int (nI (v))]) ++ List.replicate (2 - (lg_sl ([.ref (ad 1), .int (nI (v))])).length) Slot.unset).toArray = ls at hl ⊢
  have hl : lv_has ls 2 [(0, .ref (ad 1)), (1, .int (nI (v)))] := hl
  refine lv_aload_n hx hb dX7_add_0 rfl (lv_at hl 0 rfl) ?_
  refine va_get (D := D) (ci := 7) (v := .int (nI (s_ln σ))) (C := RX7) (T := TX7) (N := 2) hx hb hts ni7 hown hK hP 1 (cw_c1 cy ad aw σ J) rfl 1 (by decide) (hts _ flX7_15) (fun _ h => h) rfl dX7_add_1 ?_
  refine lv_sipush (v := nI 200) hx hb dX7_add_4 (by decide) ?_
  refine ln_icmp_ge (tgt := 30) hx hb dX7_add_7 (by decide) (by omega) (by omega) (fun c7 => ?_) (fun c7 => ?_)
  · exact absurd c7 (by omega)
  · refine lv_aload_n hx hb dX7_add_10 rfl (lv_at hl 0 rfl) ?_
    refine va_get (D := D) (ci := 7) (v := .ref (ad 2)) (C := RX7) (T := TX7) (N := 2) hx hb hts ni7 hown hK hP 1 (cw_c1 cy ad aw σ J) rfl 0 (by decide) (hts _ flX7_9) (fun _ h => h) rfl dX7_add_11 ?_
    refine lv_aload_n hx hb dX7_add_14 rfl (lv_at hl 0 rfl) ?_
    refine va_get (D := D) (ci := 7) (v := .int (nI (s_ln σ))) (C := RX7) (T := TX7) (N := 2) hx hb hts ni7 hown hK hP 1 (cw_c1 cy ad aw σ J) rfl 1 (by decide) (hts _ flX7_15) (fun _ h => h) rfl dX7_add_15 ?_
    refine lv_iload_n hx hb dX7_add_18 rfl (lv_at hl 1 rfl) ?_
    refine ln_iast hx hb hK hP hD hS 2 (cw_c2 cy ad aw σ J) (by omega) (by decide) (cp_2 cy ad aw σ J (s_ln σ) v) dX7_add_19 (fun H locs hP hD hS => ?_)
    refine lv_aload_n hx hb dX7_add_20 rfl (lv_at hl 0 rfl) ?_
    refine lv_dup hx hb dX7_add_21 rfl ?_
    refine va_get (D := D) (ci := 7) (v := .int (nI (s_ln σ))) (C := RX7) (T := TX7) (N := 2) hx hb hts ni7 hown hK hP 1 (cw_c1 cy ad aw (su_tx σ (updN (s_tx σ) (s_ln σ) v)) J) rfl 1 (by decide) (hts _ flX7_15) (fun _ h => h) rfl dX7_add_22 ?_
    refine lv_iconst (v := nI 1) hx hb dX7_add_25 (by decide) ?_
    refine ln_iadd hx hb dX7_add_26 ?_
    refine ln_put (ci := 7) (C := RX7) (T := TX7) (N := 2) (ty := .int) (v := .int (nI ((s_ln σ) + 1))) hx hb hts ni7 tyX7 tyX7_ok nmX7 hown hK hP hD hS 1 (cw_c1 cy ad aw (su_tx σ (updN (s_tx σ) (s_ln σ) v)) J) rfl 1 (by decide) (hts _ flX7_15) (fun _ h => h) rfl (by decide +kernel) rfl rfl (Nat.le_of_ble_eq_true rfl) (cp_1_1 cy ad aw (su_tx σ (updN (s_tx σ) (s_ln σ) v)) J ((s_ln σ) + 1)) dX7_add_27 (fun H locs hP hD hS => ?_)
    exact rw_v hx hb hr hlocks hS () (trivial) hP dX7_add_30
set_option maxHeartbeats 4000000 in
set_option maxRecDepth 100000 in
theorem k_X10_write (l : Launch) (D : va_G) (cy : Nat → ClassId) (ad aw : Nat → Nat) (σ : Sg) (J : Js) (b : Int64) (n : Int32) (hw : wfS σ) (hj : wfJ σ J) : MW l yX10_write qX10_write 1 [.ref (ad 0), .long (b), .int (n)] D cy (cw cy ad aw σ J) (fun (r : Int32) (u : Js) => r = a_write σ n ∧ wfJ (n_write σ b n) u) (fun u : Js => cw cy ad aw (n_write σ b n) u) := by
  intro sz
  refine Met.ofW (cc := cX10_write) (maxL := 5) (ret := (some .int)) (by decide) rfl ?_
  intro p e s m args below meth c s₁ B hml hv
  obtain ⟨rfl, rfl, hP, hK, hN, hD0⟩ := hv
  have hx := B.exec
  have hb := B.bytes
  have hr := B.returns
  have hlocks := B.notSynchronized
  have hts : ∀ cq ∈ tg, cq.before ([.ref (ad 0), .long (b), .int (n)] : List Value).toArray s = true := fun cq h => atoms_spec (ws := qX10_write) B.pre cq (List.mem_cons_of_mem _ h)
  have hown : s.vm.findClass RX10 = some m.cls := findClass_of_methodNamed B.named
  have hD := hD0.self (sz := s.heap.size)
  generalize hAe : va_A (cw cy ad aw σ J) s.heap.size = A at hD ⊢
  have hA : ∀ q : Nat, s.heap.size ≤ q → A q := fun q h => by rw [← hAe]; exact Or.inr h
  have hS : va_S A s.heap s.heap [] := va_S.rf
  have hl := lv_entry ([.ref (ad 0), .long (b), .int (n)]) (n := 5) (Nat.le_of_ble_eq_true rfl)
  rw [lg_entry_eq]
  generalize (lg_sl ([.ref (ad 0), .long (b), .int (n)]) ++ List.replicate (5 - (lg_sl ([.ref (ad 0), .long (b), .int (n)])).length) Slot.unset).toArray = ls at hl ⊢
  have hl : lv_has ls 5 [(0, .ref (ad 0)), (1, .long (b)), (3, .int (n))] := hl
  have hln := hw.2.2.2.2.1
  refine lv_iload_n hx hb dX10_write_0 rfl (lv_at hl 2 rfl) ?_
  refine lv_iconst (v := nI 1) hx hb dX10_write_1 (by decide) ?_
  refine lv_icmp_lt (tgt := 11) hx hb dX10_write_2 (by decide) (fun c2 => ?_) (fun c2 => ?_)
  · refine lv_bipush (v := -3) hx hb dX10_write_11 (by decide) ?_
    exact rw_i hx hb hr hlocks hS J (⟨by rw [a_write, show okN n = false from (by first | exact okf1 c2 | exact okf2 c8)]; rfl, by rw [n_write, if_neg (by rintro ⟨q, -⟩; rw [show okN n = false from (by first | exact okf1 c2 | exact okf2 c8)] at q; cases q)]; exact hj⟩) (by show va_P D vwCl (cw cy ad aw (n_write σ b n) J) _; rw [n_write, if_neg (by rintro ⟨q, -⟩; rw [show okN n = false from (by first | exact okf1 c2 | exact okf2 c8)] at q; cases q)]; exact hP) dX10_write_13
  · refine lv_iload_n hx hb dX10_write_5 rfl (lv_at hl 2 rfl) ?_
    refine lv_bipush (v := nI 8) hx hb dX10_write_6 (by decide) ?_
    refine lv_icmp_le (tgt := 14) hx hb dX10_write_8 (by decide) (fun c8 => ?_) (fun c8 => ?_)
    · obtain ⟨k0, hk1, hk2, rfl⟩ := okN_of (okt c2 c8)
      have hl : lv_has ls 5 [(0, .ref (ad 0)), (1, .long (b)), (3, .int (nI (k0)))] := hl
      refine lv_aload_n hx hb dX10_write_14 rfl (lv_at hl 0 rfl) ?_
      refine va_get (D := D) (ci := 9) (v := .ref (ad 1)) (C := RX10) (T := TX10) (N := 8) hx hb hts ni10 hown hK hP 0 (cw_c0 cy ad aw σ J) rfl 0 (by decide) (hts _ flX10_12) (fun _ h => h) rfl dX10_write_15 ?_
      refine va_get (D := D) (ci := 7) (v := .int (nI (s_ln σ))) (C := RX7) (T := TX7) (N := 2) hx hb hts ni7 hown hK hP 1 (cw_c1 cy ad aw σ J) rfl 1 (by decide) (hts _ flX10_63) (fun _ h => h) rfl dX10_write_18 ?_
      refine lv_iload_n hx hb dX10_write_21 rfl (lv_at hl 2 rfl) ?_
      refine ln_iadd hx hb dX10_write_22 ?_
      refine lv_sipush (v := nI 200) hx hb dX10_write_23 (by decide) ?_
      refine ln_icmp_le (tgt := 32) hx hb dX10_write_26 (by decide) (by omega) (by omega) (fun c26 => ?_) (fun c26 => ?_)
      · refine lv_iconst (v := nI 0) hx hb dX10_write_32 (by decide) ?_
        refine lv_istore (lv' := [(4, .int (nI (0))), (0, .ref (ad 0)), (1, .long (b)), (3, .int (nI (k0)))]) hx hb dX10_write_33 hl (by decide) rfl (fun ls hl => ?_)
        have lp : ∀ (k_lp i : Nat) (ls : Array Slot) (H : Heap) (locs : List Loc) , i + k_lp = k0 → va_P D vwCl (cw cy ad aw (su_ln (su_tx σ (txW (s_tx σ) (s_ln σ) b i)) (s_ln σ + i)) J) H → va_D A (cw cy ad aw (su_ln (su_tx σ (txW (s_tx σ) (s_ln σ) b i)) (s_ln σ + i)) J) → va_S A s.heap H locs → lv_has ls 5 [(4, .int (nI (i))), (0, .ref (ad 0)), (1, .long (b)), (3, .int (nI (k0)))] → W p l e (headSpec qX10_write (rq 1)).room s m ([.ref (ad 0), .long (b), .int (nI (k0))] : List Value).toArray below meth c H locs 0 0 (MQ below (va_Qi (fun (r : Int32) (u : Js) => r = a_write σ (nI k0) ∧ wfJ (n_write σ b (nI k0)) u) (fun u t => va_P D vwCl ((fun u : Js => cw cy ad aw (n_write σ b (nI k0)) u) u) t.heap) A) ([.ref (ad 0), .long (b), .int (nI (k0))] : List Value).toArray s 0 0 A) (F0 m 35 ls []) := by
          intro k_lp
          induction k_lp with
          | zero =>
            intro i ls H locs hi_lp hP hD hS hl
            refine lv_iload hx hb dX10_write_35 (lv_at hl 0 rfl) ?_
            refine lv_iload_n hx hb dX10_write_37 rfl (lv_at hl 3 rfl) ?_
            refine ln_icmp_ge (tgt := 66) hx hb dX10_write_38 (by decide) (by omega) (by omega) (fun c38 => ?_) (fun c38 => ?_)
            · refine lv_aload_n hx hb dX10_write_66 rfl (lv_at hl 1 rfl) ?_
              refine va_get (D := D) (ci := 9) (v := .ref (ad 1)) (C := RX10) (T := TX10) (N := 8) hx hb hts ni10 hown hK hP 0 (cw_c0 cy ad aw (su_ln (su_tx σ (txW (s_tx σ) (s_ln σ) b i)) (s_ln σ + i)) J) rfl 0 (by decide) (hts _ flX10_12) (fun _ h => h) rfl dX10_write_67 ?_
              refine va_get (D := D) (ci := 7) (v := .int (nI ((s_ln σ + i)))) (C := RX7) (T := TX7) (N := 2) hx hb hts ni7 hown hK hP 1 (cw_c1 cy ad aw (su_ln (su_tx σ (txW (s_tx σ) (s_ln σ) b i)) (s_ln σ + i)) J) rfl 1 (by decide) (hts _ flX10_63) (fun _ h => h) rfl dX10_write_70 ?_
              exact rw_i hx hb hr hlocks hS J (⟨by rw [a_write, show okN (nI k0) = true from okt c2 c8, tk_nI (k := k0) (by omega), if_neg (by decide), if_neg (by omega), show k0 = i by omega], by rw [n_write, tk_nI (k := k0) (by omega), if_pos ⟨okt c2 c8, by omega⟩]; exact wfJ_keep hj rfl rfl rfl⟩) (by show va_P D vwCl (cw cy ad aw (n_write σ b (nI k0)) J) _; rw [n_write, tk_nI (k := k0) (by omega), if_pos ⟨okt c2 c8, by omega⟩]; rw [show i = k0 by omega] at hP; exact hP) dX10_write_73
            · exact absurd c38 (by omega)
          | succ k_lp ih_lp =>
            intro i ls H locs hi_lp hP hD hS hl
            refine lv_iload hx hb dX10_write_35 (lv_at hl 0 rfl) ?_
            refine lv_iload_n hx hb dX10_write_37 rfl (lv_at hl 3 rfl) ?_
            refine ln_icmp_ge (tgt := 66) hx hb dX10_write_38 (by decide) (by omega) (by omega) (fun c38 => ?_) (fun c38 => ?_)
            · exact absurd c38 (by omega)
            · refine lv_aload_n hx hb dX10_write_41 rfl (lv_at hl 1 rfl) ?_
              refine va_get (D := D) (ci := 9) (v := .ref (ad 1)) (C := RX10) (T := TX10) (N := 8) hx hb hts ni10 hown hK hP 0 (cw_c0 cy ad aw (su_ln (su_tx σ (txW (s_tx σ) (s_ln σ) b i)) (s_ln σ + i)) J) rfl 0 (by decide) (hts _ flX10_12) (fun _ h => h) rfl dX10_write_42 ?_
              refine lv_lload_n hx hb dX10_write_45 rfl (lv_at hl 2 rfl) ?_
              refine lv_bipush (v := nI 8) hx hb dX10_write_46 (by decide) ?_
              refine lv_iload hx hb dX10_write_48 (lv_at hl 0 rfl) ?_
              refine ln_imul hx hb dX10_write_50 ?_
              refine lv_lshr (v := b >>> ((nI (8 * i)).toInt64 &&& 63)) hx hb dX10_write_51 rfl ?_
              refine lv_ldc2 (v := 255) hx hb hown (hts _ cnX10_66) dX10_write_52 ?_
              refine lv_land hx hb dX10_write_55 ?_
              refine lv_l2i (v := ((b >>> ((nI (8 * i)).toInt64 &&& 63)) &&& 255).toInt32) hx hb dX10_write_56 rfl ?_
              refine ln_eq (show (((b >>> ((nI (8 * i)).toInt64 &&& 63)) &&& 255).toInt32) = (nI (byteN b i)) from byte_nI _) ?_
              refine cr_vv (n := 1) (As := [.int (nI (byteN b i))]) (rest := []) ⟨hx, hb, hml, hown, hts⟩ (k_X7_add l D cy ad aw (su_ln (su_tx σ (txW (s_tx σ) (s_ln σ) b i)) (s_ln σ + i)) J (byteN b i) (show s_ln σ + i < 200 by omega)) gvX10_68 (by decide +kernel) ⟨Nat.le_of_ble_eq_true rfl, Nat.le_of_ble_eq_true rfl⟩ hK hN hP hD hS hA 1 (cw_c1 cy ad aw (su_ln (su_tx σ (txW (s_tx σ) (s_ln σ) b i)) (s_ln σ + i)) J) rfl rfl hl.1 rfl (Nat.le_of_ble_eq_true rfl) dX10_write_57 ⟨Nat.zero_le _, Nat.zero_le _⟩ (fun _ => (cw_ad _ _ _ _ _).trans (cw_ad _ _ _ _ _).symm) (fun u1 H locs hpu1 hP hD hS => ?_)
              have hP : va_P D vwCl (cw cy ad aw (su_ln (su_tx (su_ln (su_tx σ (txW (s_tx σ) (s_ln σ) b i)) (s_ln σ + i)) (updN (s_tx (su_ln (su_tx σ (txW (s_tx σ) (s_ln σ) b i)) (s_ln σ + i))) (s_ln (su_ln (su_tx σ (txW (s_tx σ) (s_ln σ) b i)) (s_ln σ + i))) (byteN b i))) (s_ln (su_ln (su_tx σ (txW (s_tx σ) (s_ln σ) b i)) (s_ln σ + i)) + 1)) J) H := hP
              have hD : va_D A (cw cy ad aw (su_ln (su_tx (su_ln (su_tx σ (txW (s_tx σ) (s_ln σ) b i)) (s_ln σ + i)) (updN (s_tx (su_ln (su_tx σ (txW (s_tx σ) (s_ln σ) b i)) (s_ln σ + i))) (s_ln (su_ln (su_tx σ (txW (s_tx σ) (s_ln σ) b i)) (s_ln σ + i))) (byteN b i))) (s_ln (su_ln (su_tx σ (txW (s_tx σ) (s_ln σ) b i)) (s_ln σ + i)) + 1)) J) := hD
              refine ln_iinc (lv' := [(4, .int (nI (i + 1))), (0, .ref (ad 0)), (1, .long (b)), (3, .int (nI (k0)))]) hx hb dX10_write_60 hl (k := 0) (n := 1) rfl (by decide) rfl (fun ls hl => ?_)
              refine lv_goto (tgt := 35) hx hb dX10_write_63 (by decide) ?_
              have hl : lv_has ls 5 [(4, .int (nI (i + 1))), (0, .ref (ad 0)), (1, .long (b)), (3, .int (nI (k0)))] := lv_sub hl [0, 1, 2, 3] rfl
              have hP : va_P D vwCl (cw cy ad aw (su_ln (su_tx σ (txW (s_tx σ) (s_ln σ) b (i + 1))) (s_ln σ + (i + 1))) J) H := by rw [← txW_s]; exact hP
              have hD : va_D A (cw cy ad aw (su_ln (su_tx σ (txW (s_tx σ) (s_ln σ) b (i + 1))) (s_ln σ + (i + 1))) J) := by rw [← txW_s]; exact hD
              exact ih_lp (i + 1) ls _ _ (by omega) hP hD hS hl
        have hl : lv_has ls 5 [(4, .int (nI (0))), (0, .ref (ad 0)), (1, .long (b)), (3, .int (nI (k0)))] := lv_sub hl [0, 1, 2, 3] rfl
        have hP : va_P D vwCl (cw cy ad aw (su_ln (su_tx σ (txW (s_tx σ) (s_ln σ) b 0)) (s_ln σ + 0)) J) s.heap := by rw [txW_0]; exact hP
        have hD : va_D A (cw cy ad aw (su_ln (su_tx σ (txW (s_tx σ) (s_ln σ) b 0)) (s_ln σ + 0)) J) := by rw [txW_0]; exact hD
        exact lp (k0 - 0) 0 ls _ _ (by omega) hP hD hS hl
      · refine lv_bipush (v := -5) hx hb dX10_write_29 (by decide) ?_
        exact rw_i hx hb hr hlocks hS J (⟨by rw [a_write, show okN (nI k0) = true from okt c2 c8, tk_nI (k := k0) (by omega), if_neg (by decide), if_pos (by omega)], by rw [n_write, tk_nI (k := k0) (by omega), if_neg (by omega)]; exact hj⟩) (by show va_P D vwCl (cw cy ad aw (n_write σ b (nI k0)) J) _; rw [n_write, tk_nI (k := k0) (by omega), if_neg (by omega)]; exact hP) dX10_write_31
    · refine lv_bipush (v := -3) hx hb dX10_write_11 (by decide) ?_
      exact rw_i hx hb hr hlocks hS J (⟨by rw [a_write, show okN n = false from (by first | exact okf1 c2 | exact okf2 c8)]; rfl, by rw [n_write, if_neg (by rintro ⟨q, -⟩; rw [show okN n = false from (by first | exact okf1 c2 | exact okf2 c8)] at q; cases q)]; exact hj⟩) (by show va_P D vwCl (cw cy ad aw (n_write σ b n) J) _; rw [n_write, if_neg (by rintro ⟨q, -⟩; rw [show okN n = false from (by first | exact okf1 c2 | exact okf2 c8)] at q; cases q)]; exact hP) dX10_write_13
set_option maxHeartbeats 4000000 in
set_option maxRecDepth 100000 in
theorem k_X10_noon (l : Launch) (D : va_G) (cy : Nat → ClassId) (ad aw : Nat → Nat) (σ : Sg) (J : Js)  (hj : wfJ σ J) : MW l yX10_noon qX10_noon 0 [.ref (ad 0)] D cy (cw cy ad aw σ J) (fun (r : Int32) (u : Js) => r = bI (!s_la σ) ∧ wfJ (n_noon σ) u) (fun u : Js => cw cy ad aw (n_noon σ) u) := by
  intro sz
  refine Met.ofW (cc := cX10_noon) (maxL := 1) (ret := (some .int)) (by decide) rfl ?_
  intro p e s m args below meth c s₁ B hml hv
  obtain ⟨rfl, rfl, hP, hK, hN, hD0⟩ := hv
  have hx := B.exec
  have hb := B.bytes
  have hr := B.returns
  have hlocks := B.notSynchronized
  have hts : ∀ cq ∈ tg, cq.before ([.ref (ad 0)] : List Value).toArray s = true := fun cq h => atoms_spec (ws := qX10_noon) B.pre cq (List.mem_cons_of_mem _ h)
  have hown : s.vm.findClass RX10 = some m.cls := findClass_of_methodNamed B.named
  have hD := hD0.self (sz := s.heap.size)
  generalize hAe : va_A (cw cy ad aw σ J) s.heap.size = A at hD ⊢
  have hA : ∀ q : Nat, s.heap.size ≤ q → A q := fun q h => by rw [← hAe]; exact Or.inr h
  have hS : va_S A s.heap s.heap [] := va_S.rf
  have hl := lv_entry ([.ref (ad 0)]) (n := 1) (Nat.le_of_ble_eq_true rfl)
  rw [lg_entry_eq]
  generalize (lg_sl ([.ref (ad 0)]) ++ List.replicate (1 - (lg_sl ([.ref (ad 0)])).length) Slot.unset).toArray = ls at hl ⊢
  have hl : lv_has ls 1 [(0, .ref (ad 0))] := hl
  refine lv_aload_n hx hb dX10_noon_0 rfl (lv_at hl 0 rfl) ?_
  refine va_get (D := D) (ci := 9) (v := .ref (ad 3)) (C := RX10) (T := TX10) (N := 8) hx hb hts ni10 hown hK hP 0 (cw_c0 cy ad aw σ J) rfl 1 (by decide) (hts _ flX10_19) (fun _ h => h) rfl dX10_noon_1 ?_
  refine va_get (D := D) (ci := 3) (v := .ref (ad 6)) (C := RX3) (T := TX3) (N := 9) hx hb hts ni3 hown hK hP 3 (cw_c3 cy ad aw σ J) rfl 2 (by decide) (hts _ flX10_116) (fun _ h => h) rfl dX10_noon_4 ?_
  refine lv_aload_n hx hb dX10_noon_7 rfl (lv_at hl 0 rfl) ?_
  refine va_get (D := D) (ci := 9) (v := .ref (ad 3)) (C := RX10) (T := TX10) (N := 8) hx hb hts ni10 hown hK hP 0 (cw_c0 cy ad aw σ J) rfl 1 (by decide) (hts _ flX10_19) (fun _ h => h) rfl dX10_noon_8 ?_
  refine va_get (D := D) (ci := 3) (v := .ref (ad 6)) (C := RX3) (T := TX3) (N := 9) hx hb hts ni3 hown hK hP 3 (cw_c3 cy ad aw σ J) rfl 2 (by decide) (hts _ flX10_116) (fun _ h => h) rfl dX10_noon_11 ?_
  refine va_get (D := D) (ci := 5) (v := .int (bI (s_la σ))) (C := RX5) (T := TX5) (N := 5) hx hb hts ni5 hown hK hP 6 (cw_c6 cy ad aw σ J) rfl 3 (by decide) (hts _ flX10_149) (fun _ h => h) rfl dX10_noon_14 ?_
  refine lb_if_ne (tgt := 24) hx hb dX10_noon_17 (by decide) (fun c17 => ?_) (fun c17 => ?_)
  · refine lv_iconst (v := nI 0) hx hb dX10_noon_24 (by decide) ?_
    refine ln_eq (show (nI (0)) = (bI (!s_la σ)) from by rw [c17]; rfl) ?_
    refine ln_put (ci := 5) (C := RX5) (T := TX5) (N := 5) (ty := .boolean) (v := .int (bI (!s_la σ))) hx hb hts ni5 tyX5 tyX5_ok nmX5 hown hK hP hD hS 6 (cw_c6 cy ad aw σ J) rfl 3 (by decide) (hts _ flX10_149) (fun _ h => h) rfl (by decide +kernel) (bI_n _) (by cases (!s_la σ) <;> rfl) (Nat.le_of_ble_eq_true rfl) (cp_6_3 cy ad aw σ J (!s_la σ)) dX10_noon_25 (fun H locs hP hD hS => ?_)
    refine lv_aload_n hx hb dX10_noon_28 rfl (lv_at hl 0 rfl) ?_
    refine va_get (D := D) (ci := 9) (v := .ref (ad 3)) (C := RX10) (T := TX10) (N := 8) hx hb hts ni10 hown hK hP 0 (cw_c0 cy ad aw (su_la σ (!s_la σ)) J) rfl 1 (by decide) (hts _ flX10_19) (fun _ h => h) rfl dX10_noon_29 ?_
    refine va_get (D := D) (ci := 3) (v := .ref (ad 6)) (C := RX3) (T := TX3) (N := 9) hx hb hts ni3 hown hK hP 3 (cw_c3 cy ad aw (su_la σ (!s_la σ)) J) rfl 2 (by decide) (hts _ flX10_116) (fun _ h => h) rfl dX10_noon_32 ?_
    refine va_get (D := D) (ci := 5) (v := .int (bI ((!s_la σ)))) (C := RX5) (T := TX5) (N := 5) hx hb hts ni5 hown hK hP 6 (cw_c6 cy ad aw (su_la σ (!s_la σ)) J) rfl 3 (by decide) (hts _ flX10_149) (fun _ h => h) rfl dX10_noon_35 ?_
    refine lb_if_eq (tgt := 45) hx hb dX10_noon_38 (by decide) (fun c38 => ?_) (fun c38 => ?_)
    · refine lv_iconst (v := nI 0) hx hb dX10_noon_45 (by decide) ?_
      exact rw_i hx hb hr hlocks hS J (⟨by first | (rw [show (!s_la σ) = true from c38]; rfl; done) | (rw [show (!s_la σ) = false from c38]; rfl), wfJ_keep hj rfl rfl rfl⟩) hP dX10_noon_46
    · refine lv_iconst (v := nI 1) hx hb dX10_noon_41 (by decide) ?_
      refine lv_goto (tgt := 46) hx hb dX10_noon_42 (by decide) ?_
      exact rw_i hx hb hr hlocks hS J (⟨by first | (rw [show (!s_la σ) = true from c38]; rfl; done) | (rw [show (!s_la σ) = false from c38]; rfl), wfJ_keep hj rfl rfl rfl⟩) hP dX10_noon_46
  · refine lv_iconst (v := nI 1) hx hb dX10_noon_20 (by decide) ?_
    refine lv_goto (tgt := 25) hx hb dX10_noon_21 (by decide) ?_
    refine ln_eq (show (nI (1)) = (bI (!s_la σ)) from by rw [c17]; rfl) ?_
    refine ln_put (ci := 5) (C := RX5) (T := TX5) (N := 5) (ty := .boolean) (v := .int (bI (!s_la σ))) hx hb hts ni5 tyX5 tyX5_ok nmX5 hown hK hP hD hS 6 (cw_c6 cy ad aw σ J) rfl 3 (by decide) (hts _ flX10_149) (fun _ h => h) rfl (by decide +kernel) (bI_n _) (by cases (!s_la σ) <;> rfl) (Nat.le_of_ble_eq_true rfl) (cp_6_3 cy ad aw σ J (!s_la σ)) dX10_noon_25 (fun H locs hP hD hS => ?_)
    refine lv_aload_n hx hb dX10_noon_28 rfl (lv_at hl 0 rfl) ?_
    refine va_get (D := D) (ci := 9) (v := .ref (ad 3)) (C := RX10) (T := TX10) (N := 8) hx hb hts ni10 hown hK hP 0 (cw_c0 cy ad aw (su_la σ (!s_la σ)) J) rfl 1 (by decide) (hts _ flX10_19) (fun _ h => h) rfl dX10_noon_29 ?_
    refine va_get (D := D) (ci := 3) (v := .ref (ad 6)) (C := RX3) (T := TX3) (N := 9) hx hb hts ni3 hown hK hP 3 (cw_c3 cy ad aw (su_la σ (!s_la σ)) J) rfl 2 (by decide) (hts _ flX10_116) (fun _ h => h) rfl dX10_noon_32 ?_
    refine va_get (D := D) (ci := 5) (v := .int (bI ((!s_la σ)))) (C := RX5) (T := TX5) (N := 5) hx hb hts ni5 hown hK hP 6 (cw_c6 cy ad aw (su_la σ (!s_la σ)) J) rfl 3 (by decide) (hts _ flX10_149) (fun _ h => h) rfl dX10_noon_35 ?_
    refine lb_if_eq (tgt := 45) hx hb dX10_noon_38 (by decide) (fun c38 => ?_) (fun c38 => ?_)
    · refine lv_iconst (v := nI 0) hx hb dX10_noon_45 (by decide) ?_
      exact rw_i hx hb hr hlocks hS J (⟨by first | (rw [show (!s_la σ) = true from c38]; rfl; done) | (rw [show (!s_la σ) = false from c38]; rfl), wfJ_keep hj rfl rfl rfl⟩) hP dX10_noon_46
    · refine lv_iconst (v := nI 1) hx hb dX10_noon_41 (by decide) ?_
      refine lv_goto (tgt := 46) hx hb dX10_noon_42 (by decide) ?_
      exact rw_i hx hb hr hlocks hS J (⟨by first | (rw [show (!s_la σ) = true from c38]; rfl; done) | (rw [show (!s_la σ) = false from c38]; rfl), wfJ_keep hj rfl rfl rfl⟩) hP dX10_noon_46
set_option maxHeartbeats 4000000 in
set_option maxRecDepth 100000 in
theorem k_X10_row (l : Launch) (D : va_G) (cy : Nat → ClassId) (ad aw : Nat → Nat) (σ : Sg) (J : Js) (f x : Int32) (hw : wfS σ) (hj : wfJ σ J) : MW l yX10_row qX10_row 1 [.ref (ad 0), .int (f), .int (x)] D cy (cw cy ad aw σ J) (fun (r : Int32) (u : Js) => r = a_row σ f x ∧ wfJ (n_row σ f x) u) (fun u : Js => cw cy ad aw (n_row σ f x) u) := by
  intro sz
  refine Met.ofW (cc := cX10_row) (maxL := 3) (ret := (some .int)) (by decide) rfl ?_
  intro p e s m args below meth c s₁ B hml hv
  obtain ⟨rfl, rfl, hP, hK, hN, hD0⟩ := hv
  have hx := B.exec
  have hb := B.bytes
  have hr := B.returns
  have hlocks := B.notSynchronized
  have hts : ∀ cq ∈ tg, cq.before ([.ref (ad 0), .int (f), .int (x)] : List Value).toArray s = true := fun cq h => atoms_spec (ws := qX10_row) B.pre cq (List.mem_cons_of_mem _ h)
  have hown : s.vm.findClass RX10 = some m.cls := findClass_of_methodNamed B.named
  have hD := hD0.self (sz := s.heap.size)
  generalize hAe : va_A (cw cy ad aw σ J) s.heap.size = A at hD ⊢
  have hA : ∀ q : Nat, s.heap.size ≤ q → A q := fun q h => by rw [← hAe]; exact Or.inr h
  have hS : va_S A s.heap s.heap [] := va_S.rf
  have hl := lv_entry ([.ref (ad 0), .int (f), .int (x)]) (n := 3) (Nat.le_of_ble_eq_true rfl)
  rw [lg_entry_eq]
  generalize (lg_sl ([.ref (ad 0), .int (f), .int (x)]) ++ List.replicate (3 - (lg_sl ([.ref (ad 0), .int (f), .int (x)])).length) Slot.unset).toArray = ls at hl ⊢
  have hl : lv_has ls 3 [(0, .ref (ad 0)), (1, .int (f)), (2, .int (x))] := hl
  have hw1 := hw.1
  have hw2 := hw.2.1
  have hp8 := pw_8 hw1
  have hpp := pw_pos (s_n σ)
  have hov := ov_lt hw
  have hmo := mo_lt hw
  have hof := of_lt hw
  have hrn := hw.2.2.2.2.2.2.2.2.2.1
  refine lv_aload_n hx hb dX10_row_0 rfl (lv_at hl 0 rfl) ?_
  refine va_get (D := D) (ci := 9) (v := .ref (ad 3)) (C := RX10) (T := TX10) (N := 8) hx hb hts ni10 hown hK hP 0 (cw_c0 cy ad aw σ J) rfl 1 (by decide) (hts _ flX10_19) (fun _ h => h) rfl dX10_row_1 ?_
  refine lv_iload_n hx hb dX10_row_4 rfl (lv_at hl 1 rfl) ?_
  refine cr_v (n := 1) (As := [.int (f)]) (rest := []) ⟨hx, hb, hml, hown, hts⟩ (k_X3_hasFerry l D cy ad aw σ J (f) hw) gvX10_139 (by decide +kernel) ⟨Nat.le_of_ble_eq_true rfl, Nat.le_of_ble_eq_true rfl⟩ hK hN hP 3 (cw_c3 cy ad aw σ J) rfl rfl hl.1 rfl (Nat.le_of_ble_eq_true rfl) dX10_row_5 ⟨Nat.zero_le _, Nat.zero_le _⟩ ?_
  refine lb_if_eq (tgt := 22) hx hb dX10_row_8 (by decide) (fun c8 => ?_) (fun c8 => ?_)
  · refine lv_bipush (v := -2) hx hb dX10_row_22 (by decide) ?_
    exact rw_i hx hb hr hlocks hS J (⟨by first | (rw [a_row, c8]; rfl; done) | (rw [a_row, c8, c19]; rfl), by rw [n_row, if_neg (by first | (rintro ⟨q, -, -⟩; rw [c8] at q; cases q; done) | (rintro ⟨-, q, -⟩; rw [c19] at q; cases q))]; exact hj⟩) (by show va_P D vwCl (cw cy ad aw (n_row σ f x) J) _; rw [n_row, if_neg (by first | (rintro ⟨q, -, -⟩; rw [c8] at q; cases q; done) | (rintro ⟨-, q, -⟩; rw [c19] at q; cases q))]; exact hP) dX10_row_24
  · refine lv_aload_n hx hb dX10_row_11 rfl (lv_at hl 0 rfl) ?_
    refine va_get (D := D) (ci := 9) (v := .ref (ad 3)) (C := RX10) (T := TX10) (N := 8) hx hb hts ni10 hown hK hP 0 (cw_c0 cy ad aw σ J) rfl 1 (by decide) (hts _ flX10_19) (fun _ h => h) rfl dX10_row_12 ?_
    refine lv_iload_n hx hb dX10_row_15 rfl (lv_at hl 2 rfl) ?_
    refine cr_v (n := 1) (As := [.int (x)]) (rest := []) ⟨hx, hb, hml, hown, hts⟩ (k_X3_hasAll l D cy ad aw σ J (x) hw) gvX10_172 (by decide +kernel) ⟨Nat.le_of_ble_eq_true rfl, Nat.le_of_ble_eq_true rfl⟩ hK hN hP 3 (cw_c3 cy ad aw σ J) rfl rfl hl.1 rfl (Nat.le_of_ble_eq_true rfl) dX10_row_16 ⟨Nat.zero_le _, Nat.zero_le _⟩ ?_
    refine lb_if_ne (tgt := 25) hx hb dX10_row_19 (by decide) (fun c19 => ?_) (fun c19 => ?_)
    · obtain ⟨f0, hf, rfl⟩ := ix_of c8 (by omega)
      have hl : lv_has ls 3 [(0, .ref (ad 0)), (1, .int (nI (f0))), (2, .int (x))] := hl
      obtain ⟨x0, hx0, rfl⟩ := ix_of c19 (by omega)
      have hl : lv_has ls 3 [(0, .ref (ad 0)), (1, .int (nI (f0))), (2, .int (nI (x0)))] := hl
      refine lv_aload_n hx hb dX10_row_25 rfl (lv_at hl 0 rfl) ?_
      refine va_get (D := D) (ci := 9) (v := .int (nI (s_rn σ))) (C := RX10) (T := TX10) (N := 8) hx hb hts ni10 hown hK hP 0 (cw_c0 cy ad aw σ J) rfl 7 (by decide) (hts _ flX10_58) (fun _ h => h) rfl dX10_row_26 ?_
      refine lv_bipush (v := nI 12) hx hb dX10_row_29 (by decide) ?_
      refine ln_icmp_lt (tgt := 37) hx hb dX10_row_31 (by decide) (by omega) (by omega) (fun c31 => ?_) (fun c31 => ?_)
      · refine lv_aload_n hx hb dX10_row_37 rfl (lv_at hl 0 rfl) ?_
        refine va_get (D := D) (ci := 9) (v := .ref (ad 20)) (C := RX10) (T := TX10) (N := 8) hx hb hts ni10 hown hK hP 0 (cw_c0 cy ad aw σ J) rfl 6 (by decide) (hts _ flX10_54) (fun _ h => h) rfl dX10_row_38 ?_
        refine lv_aload_n hx hb dX10_row_41 rfl (lv_at hl 0 rfl) ?_
        refine va_get (D := D) (ci := 9) (v := .int (nI (s_rn σ))) (C := RX10) (T := TX10) (N := 8) hx hb hts ni10 hown hK hP 0 (cw_c0 cy ad aw σ J) rfl 7 (by decide) (hts _ flX10_58) (fun _ h => h) rfl dX10_row_42 ?_
        refine lv_iload_n hx hb dX10_row_45 rfl (lv_at hl 1 rfl) ?_
        refine lv_iload_n hx hb dX10_row_46 rfl (lv_at hl 2 rfl) ?_
        refine cr_s (n := 2) (As := [.int (nI (f0)), .int (nI (x0))]) (rest := [.int (nI (s_rn σ)), .ref (ad 20)]) ⟨hx, hb, hml, hown, hts⟩ (k_X10_crossingOf l f0 x0) gsX10_179 (by decide +kernel) ⟨Nat.le_of_ble_eq_true rfl, Nat.le_of_ble_eq_true rfl⟩ rfl hl.1 rfl (Nat.le_of_ble_eq_true rfl) dX10_row_47 ⟨Nat.zero_le _, Nat.zero_le _⟩ ?_
        refine ln_iast hx hb hK hP hD hS 20 (cw_c20 cy ad aw σ J) (by omega) (by decide) (cp_20 cy ad aw σ J (s_rn σ) f0 x0) dX10_row_50 (fun H locs hP hD hS => ?_)
        refine lv_aload_n hx hb dX10_row_51 rfl (lv_at hl 0 rfl) ?_
        refine lv_dup hx hb dX10_row_52 rfl ?_
        refine va_get (D := D) (ci := 9) (v := .int (nI (s_rn σ))) (C := RX10) (T := TX10) (N := 8) hx hb hts ni10 hown hK hP 0 (cw_c0 cy ad aw (su_ro σ (updN (updN (s_ro σ) (2 * (s_rn σ)) f0) (2 * (s_rn σ) + 1) x0)) J) rfl 7 (by decide) (hts _ flX10_58) (fun _ h => h) rfl dX10_row_53 ?_
        refine lv_iconst (v := nI 1) hx hb dX10_row_56 (by decide) ?_
        refine ln_iadd hx hb dX10_row_57 ?_
        refine ln_put (ci := 9) (C := RX10) (T := TX10) (N := 8) (ty := .int) (v := .int (nI ((s_rn σ) + 1))) hx hb hts ni10 tyX10 tyX10_ok nmX10 hown hK hP hD hS 0 (cw_c0 cy ad aw (su_ro σ (updN (updN (s_ro σ) (2 * (s_rn σ)) f0) (2 * (s_rn σ) + 1) x0)) J) rfl 7 (by decide) (hts _ flX10_58) (fun _ h => h) rfl (by decide +kernel) rfl rfl (Nat.le_of_ble_eq_true rfl) (cp_0_7 cy ad aw (su_ro σ (updN (updN (s_ro σ) (2 * (s_rn σ)) f0) (2 * (s_rn σ) + 1) x0)) J ((s_rn σ) + 1)) dX10_row_58 (fun H locs hP hD hS => ?_)
        refine lv_aload_n hx hb dX10_row_61 rfl (lv_at hl 0 rfl) ?_
        refine va_get (D := D) (ci := 9) (v := .int (nI (((s_rn σ) + 1)))) (C := RX10) (T := TX10) (N := 8) hx hb hts ni10 hown hK hP 0 (cw_c0 cy ad aw (su_rn (su_ro σ (updN (updN (s_ro σ) (2 * (s_rn σ)) f0) (2 * (s_rn σ) + 1) x0)) ((s_rn σ) + 1)) J) rfl 7 (by decide) (hts _ flX10_58) (fun _ h => h) rfl dX10_row_62 ?_
        exact rw_i hx hb hr hlocks hS J (⟨by rw [a_row, c8, c19, if_neg (by decide), if_neg (by omega)], by rw [n_row, tk_nI (k := f0) (by omega), tk_nI (k := x0) (by omega), if_pos ⟨c8, c19, by omega⟩]; exact wfJ_keep hj rfl rfl rfl⟩) (by show va_P D vwCl (cw cy ad aw (n_row σ (nI f0) (nI x0)) J) _; rw [n_row, tk_nI (k := f0) (by omega), tk_nI (k := x0) (by omega), if_pos ⟨c8, c19, by omega⟩]; exact hP) dX10_row_65
      · refine lv_bipush (v := -5) hx hb dX10_row_34 (by decide) ?_
        exact rw_i hx hb hr hlocks hS J (⟨by rw [a_row, c8, c19, if_neg (by decide), if_pos (by omega)], by rw [n_row, if_neg (by omega)]; exact hj⟩) (by show va_P D vwCl (cw cy ad aw (n_row σ (nI f0) (nI x0)) J) _; rw [n_row, if_neg (by omega)]; exact hP) dX10_row_36
    · refine lv_bipush (v := -2) hx hb dX10_row_22 (by decide) ?_
      exact rw_i hx hb hr hlocks hS J (⟨by first | (rw [a_row, c8]; rfl; done) | (rw [a_row, c8, c19]; rfl), by rw [n_row, if_neg (by first | (rintro ⟨q, -, -⟩; rw [c8] at q; cases q; done) | (rintro ⟨-, q, -⟩; rw [c19] at q; cases q))]; exact hj⟩) (by show va_P D vwCl (cw cy ad aw (n_row σ f x) J) _; rw [n_row, if_neg (by first | (rintro ⟨q, -, -⟩; rw [c8] at q; cases q; done) | (rintro ⟨-, q, -⟩; rw [c19] at q; cases q))]; exact hP) dX10_row_24
set_option maxHeartbeats 4000000 in
set_option maxRecDepth 100000 in
theorem k_X10_cross (l : Launch) (D : va_G) (cy : Nat → ClassId) (ad aw : Nat → Nat) (σ : Sg) (J : Js) (f x : Int32) (hw : wfS σ) (hj : wfJ σ J) : MW l yX10_cross qX10_cross 5 [.ref (ad 0), .int (f), .int (x)] D cy (cw cy ad aw σ J) (fun (r : Int32) (u : Js) => r = a_cross σ f x ∧ wfJ (n_cross σ f x) u) (fun u : Js => cw cy ad aw (n_cross σ f x) u) := by
  intro sz
  refine Met.ofW (cc := cX10_cross) (maxL := 4) (ret := (some .int)) (by decide) rfl ?_
  intro p e s m args below meth c s₁ B hml hv
  obtain ⟨rfl, rfl, hP, hK, hN, hD0⟩ := hv
  have hx := B.exec
  have hb := B.bytes
  have hr := B.returns
  have hlocks := B.notSynchronized
  have hts : ∀ cq ∈ tg, cq.before ([.ref (ad 0), .int (f), .int (x)] : List Value).toArray s = true := fun cq h => atoms_spec (ws := qX10_cross) B.pre cq (List.mem_cons_of_mem _ h)
  have hown : s.vm.findClass RX10 = some m.cls := findClass_of_methodNamed B.named
  have hD := hD0.self (sz := s.heap.size)
  generalize hAe : va_A (cw cy ad aw σ J) s.heap.size = A at hD ⊢
  have hA : ∀ q : Nat, s.heap.size ≤ q → A q := fun q h => by rw [← hAe]; exact Or.inr h
  have hS : va_S A s.heap s.heap [] := va_S.rf
  have hl := lv_entry ([.ref (ad 0), .int (f), .int (x)]) (n := 4) (Nat.le_of_ble_eq_true rfl)
  rw [lg_entry_eq]
  generalize (lg_sl ([.ref (ad 0), .int (f), .int (x)]) ++ List.replicate (4 - (lg_sl ([.ref (ad 0), .int (f), .int (x)])).length) Slot.unset).toArray = ls at hl ⊢
  have hl : lv_has ls 4 [(0, .ref (ad 0)), (1, .int (f)), (2, .int (x))] := hl
  have hw1 := hw.1
  have hw2 := hw.2.1
  have hp8 := pw_8 hw1
  have hpp := pw_pos (s_n σ)
  have hov := ov_lt hw
  have hmo := mo_lt hw
  have hof := of_lt hw
  refine lv_aload_n hx hb dX10_cross_0 rfl (lv_at hl 0 rfl) ?_
  refine va_get (D := D) (ci := 9) (v := .ref (ad 3)) (C := RX10) (T := TX10) (N := 8) hx hb hts ni10 hown hK hP 0 (cw_c0 cy ad aw σ J) rfl 1 (by decide) (hts _ flX10_19) (fun _ h => h) rfl dX10_cross_1 ?_
  refine lv_iload_n hx hb dX10_cross_4 rfl (lv_at hl 1 rfl) ?_
  refine cr_v (n := 1) (As := [.int (f)]) (rest := []) ⟨hx, hb, hml, hown, hts⟩ (k_X3_hasFerry l D cy ad aw σ J (f) hw) gvX10_139 (by decide +kernel) ⟨Nat.le_of_ble_eq_true rfl, Nat.le_of_ble_eq_true rfl⟩ hK hN hP 3 (cw_c3 cy ad aw σ J) rfl rfl hl.1 rfl (Nat.le_of_ble_eq_true rfl) dX10_cross_5 ⟨Nat.zero_le _, Nat.zero_le _⟩ ?_
  refine lb_if_eq (tgt := 22) hx hb dX10_cross_8 (by decide) (fun c8 => ?_) (fun c8 => ?_)
  · refine lv_bipush (v := -2) hx hb dX10_cross_22 (by decide) ?_
    exact rw_i hx hb hr hlocks hS J (⟨by first | (rw [a_cross, c8]; rfl; done) | (rw [a_cross, c8, c19]; rfl), by rw [n_cross, if_neg (by first | (rintro ⟨q, -, -⟩; rw [c8] at q; cases q; done) | (rintro ⟨-, q, -⟩; rw [c19] at q; cases q))]; exact hj⟩) (by show va_P D vwCl (cw cy ad aw (n_cross σ f x) J) _; rw [n_cross, if_neg (by first | (rintro ⟨q, -, -⟩; rw [c8] at q; cases q; done) | (rintro ⟨-, q, -⟩; rw [c19] at q; cases q))]; exact hP) dX10_cross_24
  · refine lv_aload_n hx hb dX10_cross_11 rfl (lv_at hl 0 rfl) ?_
    refine va_get (D := D) (ci := 9) (v := .ref (ad 3)) (C := RX10) (T := TX10) (N := 8) hx hb hts ni10 hown hK hP 0 (cw_c0 cy ad aw σ J) rfl 1 (by decide) (hts _ flX10_19) (fun _ h => h) rfl dX10_cross_12 ?_
    refine lv_iload_n hx hb dX10_cross_15 rfl (lv_at hl 2 rfl) ?_
    refine cr_v (n := 1) (As := [.int (x)]) (rest := []) ⟨hx, hb, hml, hown, hts⟩ (k_X3_hasAll l D cy ad aw σ J (x) hw) gvX10_172 (by decide +kernel) ⟨Nat.le_of_ble_eq_true rfl, Nat.le_of_ble_eq_true rfl⟩ hK hN hP 3 (cw_c3 cy ad aw σ J) rfl rfl hl.1 rfl (Nat.le_of_ble_eq_true rfl) dX10_cross_16 ⟨Nat.zero_le _, Nat.zero_le _⟩ ?_
    refine lb_if_ne (tgt := 25) hx hb dX10_cross_19 (by decide) (fun c19 => ?_) (fun c19 => ?_)
    · obtain ⟨f0, hf, rfl⟩ := ix_of c8 (by omega)
      have hl : lv_has ls 4 [(0, .ref (ad 0)), (1, .int (nI (f0))), (2, .int (x))] := hl
      obtain ⟨x0, hx0, rfl⟩ := ix_of c19 (by omega)
      have hl : lv_has ls 4 [(0, .ref (ad 0)), (1, .int (nI (f0))), (2, .int (nI (x0)))] := hl
      refine lv_aload_n hx hb dX10_cross_25 rfl (lv_at hl 0 rfl) ?_
      refine va_get (D := D) (ci := 9) (v := .ref (ad 3)) (C := RX10) (T := TX10) (N := 8) hx hb hts ni10 hown hK hP 0 (cw_c0 cy ad aw σ J) rfl 1 (by decide) (hts _ flX10_19) (fun _ h => h) rfl dX10_cross_26 ?_
      refine va_get (D := D) (ci := 3) (v := .ref (ad 6)) (C := RX3) (T := TX3) (N := 9) hx hb hts ni3 hown hK hP 3 (cw_c3 cy ad aw σ J) rfl 2 (by decide) (hts _ flX10_116) (fun _ h => h) rfl dX10_cross_29 ?_
      refine lv_astore_n (lv' := [(3, .ref (ad 6)), (0, .ref (ad 0)), (1, .int (nI (f0))), (2, .int (nI (x0)))]) hx hb dX10_cross_32 rfl hl (by decide) rfl (fun ls hl => ?_)
      refine lv_aload_n hx hb dX10_cross_33 rfl (lv_at hl 1 rfl) ?_
      refine va_get (D := D) (ci := 9) (v := .ref (ad 3)) (C := RX10) (T := TX10) (N := 8) hx hb hts ni10 hown hK hP 0 (cw_c0 cy ad aw σ J) rfl 1 (by decide) (hts _ flX10_19) (fun _ h => h) rfl dX10_cross_34 ?_
      refine lv_iload_n hx hb dX10_cross_37 rfl (lv_at hl 2 rfl) ?_
      refine lv_iload_n hx hb dX10_cross_38 rfl (lv_at hl 3 rfl) ?_
      refine lv_aload_n hx hb dX10_cross_39 rfl (lv_at hl 0 rfl) ?_
      refine va_get (D := D) (ci := 5) (v := .int (nI (s_ov σ + 256 * s_mo σ))) (C := RX5) (T := TX5) (N := 5) hx hb hts ni5 hown hK hP 6 (cw_c6 cy ad aw σ J) rfl 1 (by decide) (hts _ flX10_120) (fun _ h => h) rfl dX10_cross_40 ?_
      refine cr_v (n := 3) (As := [.int (nI (f0)), .int (nI (x0)), .int (nI (s_ov σ + 256 * s_mo σ))]) (rest := []) ⟨hx, hb, hml, hown, hts⟩ (k_X3_isRight l D cy ad aw σ J f0 x0 (s_ov σ) (s_mo σ) hw hj (by omega) (by omega) (by omega) (by omega)) gvX10_175 (by decide +kernel) ⟨Nat.le_of_ble_eq_true rfl, Nat.le_of_ble_eq_true rfl⟩ hK hN hP 3 (cw_c3 cy ad aw σ J) rfl rfl hl.1 rfl (Nat.le_of_ble_eq_true rfl) dX10_cross_43 ⟨Nat.zero_le _, Nat.zero_le _⟩ ?_
      refine lb_if_ne (tgt := 52) hx hb dX10_cross_46 (by decide) (fun c46 => ?_) (fun c46 => ?_)
      · refine lv_aload_n hx hb dX10_cross_52 rfl (lv_at hl 0 rfl) ?_
        refine lv_aload_n hx hb dX10_cross_53 rfl (lv_at hl 0 rfl) ?_
        refine va_get (D := D) (ci := 5) (v := .int (nI (s_ov σ + 256 * s_mo σ))) (C := RX5) (T := TX5) (N := 5) hx hb hts ni5 hown hK hP 6 (cw_c6 cy ad aw σ J) rfl 1 (by decide) (hts _ flX10_120) (fun _ h => h) rfl dX10_cross_54 ?_
        refine lv_iload_n hx hb dX10_cross_57 rfl (lv_at hl 2 rfl) ?_
        refine lv_iload_n hx hb dX10_cross_58 rfl (lv_at hl 3 rfl) ?_
        refine cr_s (n := 2) (As := [.int (nI (f0)), .int (nI (x0))]) (rest := [.int (nI (s_ov σ + 256 * s_mo σ)), .ref (ad 6)]) ⟨hx, hb, hml, hown, hts⟩ (k_X10_crossingOf l f0 x0) gsX10_179 (by decide +kernel) ⟨Nat.le_of_ble_eq_true rfl, Nat.le_of_ble_eq_true rfl⟩ rfl hl.1 rfl (Nat.le_of_ble_eq_true rfl) dX10_cross_59 ⟨Nat.zero_le _, Nat.zero_le _⟩ ?_
        refine cr_s (n := 2) (As := [.int (nI (s_ov σ + 256 * s_mo σ)), .int (nI (256 * f0 + x0))]) (rest := [.ref (ad 6)]) ⟨hx, hb, hml, hown, hts⟩ (k_X10_banksBehind l (s_ov σ) (s_mo σ) f0 x0 (by omega) (by omega) (by omega) (by omega)) gsX10_182 (by decide +kernel) ⟨Nat.le_of_ble_eq_true rfl, Nat.le_of_ble_eq_true rfl⟩ rfl hl.1 rfl (Nat.le_of_ble_eq_true rfl) dX10_cross_62 ⟨Nat.zero_le _, Nat.zero_le _⟩ ?_
        refine ln_put (ci := 5) (C := RX5) (T := TX5) (N := 5) (ty := .int) (v := .int (nI (((s_ov σ) ^^^ x0) + 256 * ((s_mo σ) ^^^ 2 ^ f0)))) hx hb hts ni5 tyX5 tyX5_ok nmX5 hown hK hP hD hS 6 (cw_c6 cy ad aw σ J) rfl 1 (by decide) (hts _ flX10_120) (fun _ h => h) rfl (by decide +kernel) rfl rfl (Nat.le_of_ble_eq_true rfl) (cp_6_1 cy ad aw σ J ((s_ov σ) ^^^ x0) ((s_mo σ) ^^^ 2 ^ f0)) dX10_cross_65 (fun H locs hP hD hS => ?_)
        refine lv_aload_n hx hb dX10_cross_68 rfl (lv_at hl 0 rfl) ?_
        refine lv_dup hx hb dX10_cross_69 rfl ?_
        refine va_get (D := D) (ci := 5) (v := .int (nI (s_cr σ))) (C := RX5) (T := TX5) (N := 5) hx hb hts ni5 hown hK hP 6 (cw_c6 cy ad aw (su_mo (su_ov σ ((s_ov σ) ^^^ x0)) ((s_mo σ) ^^^ 2 ^ f0)) J) rfl 4 (by decide) (hts _ flX10_185) (fun _ h => h) rfl dX10_cross_70 ?_
        refine lv_iconst (v := nI 1) hx hb dX10_cross_73 (by decide) ?_
        refine ln_iadd hx hb dX10_cross_74 ?_
        refine ln_put (ci := 5) (C := RX5) (T := TX5) (N := 5) (ty := .int) (v := .int (nI ((s_cr σ) + 1))) hx hb hts ni5 tyX5 tyX5_ok nmX5 hown hK hP hD hS 6 (cw_c6 cy ad aw (su_mo (su_ov σ ((s_ov σ) ^^^ x0)) ((s_mo σ) ^^^ 2 ^ f0)) J) rfl 4 (by decide) (hts _ flX10_185) (fun _ h => h) rfl (by decide +kernel) rfl rfl (Nat.le_of_ble_eq_true rfl) (cp_6_4 cy ad aw (su_mo (su_ov σ ((s_ov σ) ^^^ x0)) ((s_mo σ) ^^^ 2 ^ f0)) J ((s_cr σ) + 1)) dX10_cross_75 (fun H locs hP hD hS => ?_)
        refine lv_aload_n hx hb dX10_cross_78 rfl (lv_at hl 0 rfl) ?_
        refine va_get (D := D) (ci := 5) (v := .int (nI (((s_cr σ) + 1)))) (C := RX5) (T := TX5) (N := 5) hx hb hts ni5 hown hK hP 6 (cw_c6 cy ad aw (su_cr (su_mo (su_ov σ ((s_ov σ) ^^^ x0)) ((s_mo σ) ^^^ 2 ^ f0)) ((s_cr σ) + 1)) J) rfl 4 (by decide) (hts _ flX10_185) (fun _ h => h) rfl dX10_cross_79 ?_
        exact rw_i hx hb hr hlocks hS J (⟨by rw [a_cross, c8, c19, tk_nI (k := f0) (by omega), tk_nI (k := x0) (by omega), riN, c46]; rfl, by rw [n_cross, tk_nI (k := f0) (by omega), tk_nI (k := x0) (by omega), if_pos ⟨c8, c19, c46⟩]; exact wfJ_keep hj rfl rfl rfl⟩) (by show va_P D vwCl (cw cy ad aw (n_cross σ (nI f0) (nI x0)) J) _; rw [n_cross, tk_nI (k := f0) (by omega), tk_nI (k := x0) (by omega), if_pos ⟨c8, c19, c46⟩]; exact hP) dX10_cross_82
      · refine lv_bipush (v := -4) hx hb dX10_cross_49 (by decide) ?_
        exact rw_i hx hb hr hlocks hS J (⟨by rw [a_cross, c8, c19, tk_nI (k := f0) (by omega), tk_nI (k := x0) (by omega), riN, c46]; rfl, by rw [n_cross, tk_nI (k := f0) (by omega), tk_nI (k := x0) (by omega), if_neg (by rintro ⟨-, -, q⟩; rw [riN, c46] at q; cases q)]; exact hj⟩) (by show va_P D vwCl (cw cy ad aw (n_cross σ (nI f0) (nI x0)) J) _; rw [n_cross, tk_nI (k := f0) (by omega), tk_nI (k := x0) (by omega), if_neg (by rintro ⟨-, -, q⟩; rw [riN, c46] at q; cases q)]; exact hP) dX10_cross_51
    · refine lv_bipush (v := -2) hx hb dX10_cross_22 (by decide) ?_
      exact rw_i hx hb hr hlocks hS J (⟨by first | (rw [a_cross, c8]; rfl; done) | (rw [a_cross, c8, c19]; rfl), by rw [n_cross, if_neg (by first | (rintro ⟨q, -, -⟩; rw [c8] at q; cases q; done) | (rintro ⟨-, q, -⟩; rw [c19] at q; cases q))]; exact hj⟩) (by show va_P D vwCl (cw cy ad aw (n_cross σ f x) J) _; rw [n_cross, if_neg (by first | (rintro ⟨q, -, -⟩; rw [c8] at q; cases q; done) | (rintro ⟨-, q, -⟩; rw [c19] at q; cases q))]; exact hP) dX10_cross_24
