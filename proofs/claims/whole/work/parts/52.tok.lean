def sk (c : Nat) : Nat := if qL c then 0 else if qD c then 1 else 2
def srt (σ : Sg) (pl : Nat) : Nat := if pl < s_ln σ then sk (s_tx σ pl) else 3
theorem sk_L {c : Nat} : decide (sk c = 0) = qL c := by
  unfold sk
  cases hL : qL c with
  | true => rfl
  | false => cases hD : qD c <;> rfl
theorem sk_D {c : Nat} : decide (sk c = 1) = qD c := by
  unfold sk
  cases hL : qL c with
  | true =>
    cases hD : qD c with
    | false => rfl
    | true =>
      have h1 := of_decide_eq_true hL
      have h2 := of_decide_eq_true hD
      omega
  | false => cases hD : qD c <;> rfl
theorem sk_le (c : Nat) : sk c ≤ 2 := by unfold sk; (repeat' split) <;> omega
theorem srt_le (σ : Sg) (pl : Nat) : srt σ pl ≤ 3 := by unfold srt; have := sk_le (s_tx σ pl); split <;> omega
theorem srt_tB {σ : Sg} {o : Nat} (h : o ≤ s_ln σ) : srt σ (tB σ o) = tK σ o := by
  have h1 := tB_le h
  unfold srt tK
  by_cases c : tB σ o = s_ln σ
  · rw [if_neg (by omega), if_pos c]
  · rw [if_pos (by omega), if_neg c]; rfl
theorem rn_at {tx : Nat → Nat} {ln : Nat} {q : Nat → Bool} {p : Nat} (h : ln ≤ p) : ∀ k, rn tx ln q k p = p
  | 0 => rfl
  | k + 1 => by rw [rn, if_neg (by omega)]
theorem tE_rn {σ : Sg} {o : Nat} (h : tK σ o ≠ 2) : rn (s_tx σ) (s_ln σ) (fun c => decide (sk c = tK σ o)) 201 (tB σ o) = tE σ o := by
  by_cases c : tB σ o = s_ln σ
  · rw [rn_at (by omega), tE, if_pos c]
  · cases hL : qL (s_tx σ (tB σ o)) with
    | true =>
      have hk : tK σ o = 0 := by rw [tK, if_neg c, hL]; rfl
      rw [hk, tE, if_neg c, hL, show (fun c => decide (sk c = 0)) = qL from funext fun _ => sk_L]; rfl
    | false =>
      cases hD : qD (s_tx σ (tB σ o)) with
      | true =>
        have hk : tK σ o = 1 := by rw [tK, if_neg c, hL, hD]; rfl
        rw [hk, tE, if_neg c, hL, hD, show (fun c => decide (sk c = 1)) = qD from funext fun _ => sk_D]; rfl
      | false => exact absurd (by rw [tK, if_neg c, hL, hD]; rfl) h
theorem tE_2 {σ : Sg} {o : Nat} (h : tK σ o = 2) : tB σ o + 1 = tE σ o := by
  unfold tK at h
  unfold tE
  by_cases c : tB σ o = s_ln σ
  · rw [if_pos c] at h; cases h
  · rw [if_neg c] at h ⊢
    cases hL : qL (s_tx σ (tB σ o)) with
    | true => rw [hL] at h; cases h
    | false =>
      cases hD : qD (s_tx σ (tB σ o)) with
      | true => rw [hL, hD] at h; cases h
      | false => rfl
theorem tB_lt {σ : Sg} {o : Nat} (h : o ≤ s_ln σ) (hk : tK σ o ≠ 3) : tB σ o < s_ln σ := by
  have h1 := tB_le h
  rcases (show tB σ o = s_ln σ ∨ tB σ o < s_ln σ by omega) with c | c
  · exact absurd (by rw [tK, if_pos c]) hk
  · exact c
/-- the reader's scratch behind a token -/
def tkJ (σ : Sg) (o : Nat) (J : Js) : Js := ju_so (ju_en (ju_be J (nI (tB σ o))) (nI (tE σ o))) (nI (tK σ o))
theorem j_eta3 (J : Js) : ju_so (ju_en (ju_be J (j_be J)) (j_en J)) (j_so J) = J := rfl
/-- the token at o is the reader's -/
def TKJ (σ : Sg) (o : Nat) (J : Js) : Prop := j_be J = nI (tB σ o) ∧ j_en J = nI (tE σ o) ∧ j_so J = nI (tK σ o)
theorem TKJ.eta {σ : Sg} {o : Nat} {J : Js} (h : TKJ σ o J) : J = ju_so (ju_en (ju_be J (nI (tB σ o))) (nI (tE σ o))) (nI (tK σ o)) := by
  rw [← h.1, ← h.2.1, ← h.2.2]; exact (j_eta3 J).symm
theorem TKJ.tk (σ : Sg) (o : Nat) (J : Js) : TKJ σ o (ju_so (ju_en (ju_be J (nI (tB σ o))) (nI (tE σ o))) (nI (tK σ o))) := ⟨rfl, rfl, rfl⟩
set_option maxHeartbeats 4000000 in
set_option maxRecDepth 100000 in
theorem k_byteAt1 (l : Launch) (D : va_G) (cy : Nat → ClassId) (ad aw : Nat → Nat) (σ : Sg) (J : Js) (pl : Nat) (hw : wfS σ) (hp : pl < s_ln σ) : MR l yX7_byteAt qX7_byteAt 0 [.ref (ad 1), .int (nI (pl))] D cy (cw cy ad aw σ J) (nI (s_tx σ pl)) := by
  refine Met.ofW (cc := cX7_byteAt) (maxL := 2) (ret := (some .int)) (by decide) rfl ?_
  intro p e s m args below meth c s₁ B hml hv
  obtain ⟨rfl, hP, hK, hN⟩ := hv
  have hx := B.exec
  have hb := B.bytes
  have hr := B.returns
  have hlocks := B.notSynchronized
  have hts : ∀ cq ∈ tg, cq.before ([.ref (ad 1), .int (nI (pl))] : List Value).toArray s = true := fun cq h => atoms_spec (ws := qX7_byteAt) B.pre cq (List.mem_cons_of_mem _ h)
  have hown : s.vm.findClass RX7 = some m.cls := findClass_of_methodNamed B.named
  have hl := lv_entry ([.ref (ad 1), .int (nI (pl))]) (n := 2) (Nat.le_of_ble_eq_true rfl)
  rw [lg_entry_eq]
  generalize (lg_sl ([.ref (ad 1), .int (nI (pl))]) ++ List.replicate (2 - (lg_sl ([.ref (ad 1), .int (nI (pl))])).length) Slot.unset).toArray = ls at hl ⊢
  have hl : lv_has ls 2 [(0, .ref (ad 1)), (1, .int (nI (pl)))] := hl
  have hln := hw.2.2.2.2.1
  have htx := hw.2.2.2.2.2.1
  refine lv_iload_n hx hb dX7_byteAt_0 rfl (lv_at hl 1 rfl) ?_
  refine ln_if_lt (tgt := 21) hx hb dX7_byteAt_1 (by decide) (by omega) ?_
  refine lv_iload_n hx hb dX7_byteAt_4 rfl (lv_at hl 1 rfl) ?_
  refine lv_aload_n hx hb dX7_byteAt_5 rfl (lv_at hl 0 rfl) ?_
  refine va_get (D := D) (ci := 7) (v := .int (nI (s_ln σ))) (C := RX7) (T := TX7) (N := 2) hx hb hts ni7 hown hK hP 1 (cw_c1 cy ad aw σ J) rfl 1 (by decide) (hts _ flX7_15) (fun _ h => h) rfl dX7_byteAt_6 ?_
  refine ln_icmp_ge (tgt := 21) hx hb dX7_byteAt_9 (by decide) (by omega) (by omega) (fun c9 => ?_) (fun c9 => ?_)
  · exact absurd c9 (by omega)
  · refine lv_aload_n hx hb dX7_byteAt_12 rfl (lv_at hl 0 rfl) ?_
    refine va_get (D := D) (ci := 7) (v := .ref (ad 2)) (C := RX7) (T := TX7) (N := 2) hx hb hts ni7 hown hK hP 1 (cw_c1 cy ad aw σ J) rfl 0 (by decide) (hts _ flX7_9) (fun _ h => h) rfl dX7_byteAt_13 ?_
    refine lv_iload_n hx hb dX7_byteAt_16 rfl (lv_at hl 1 rfl) ?_
    refine ln_iald (v := (nI (s_tx σ pl))) hx hb hK hP 2 (cw_c2 cy ad aw σ J) (by omega) (by decide) rfl dX7_byteAt_17 ?_
    refine lv_goto (tgt := 22) hx hb dX7_byteAt_18 (by decide) ?_
    exact rt_i hx hb hr hlocks (rfl) dX7_byteAt_22
set_option maxHeartbeats 4000000 in
set_option maxRecDepth 100000 in
theorem k_byteAt0 (l : Launch) (D : va_G) (cy : Nat → ClassId) (ad aw : Nat → Nat) (σ : Sg) (J : Js) (pl : Nat) (hw : wfS σ) (hp : s_ln σ ≤ pl) (hp2 : pl < 2 ^ 31) : MR l yX7_byteAt qX7_byteAt 0 [.ref (ad 1), .int (nI (pl))] D cy (cw cy ad aw σ J) (-1) := by
  refine Met.ofW (cc := cX7_byteAt) (maxL := 2) (ret := (some .int)) (by decide) rfl ?_
  intro p e s m args below meth c s₁ B hml hv
  obtain ⟨rfl, hP, hK, hN⟩ := hv
  have hx := B.exec
  have hb := B.bytes
  have hr := B.returns
  have hlocks := B.notSynchronized
  have hts : ∀ cq ∈ tg, cq.before ([.ref (ad 1), .int (nI (pl))] : List Value).toArray s = true := fun cq h => atoms_spec (ws := qX7_byteAt) B.pre cq (List.mem_cons_of_mem _ h)
  have hown : s.vm.findClass RX7 = some m.cls := findClass_of_methodNamed B.named
  have hl := lv_entry ([.ref (ad 1), .int (nI (pl))]) (n := 2) (Nat.le_of_ble_eq_true rfl)
  rw [lg_entry_eq]
  generalize (lg_sl ([.ref (ad 1), .int (nI (pl))]) ++ List.replicate (2 - (lg_sl ([.ref (ad 1), .int (nI (pl))])).length) Slot.unset).toArray = ls at hl ⊢
  have hl : lv_has ls 2 [(0, .ref (ad 1)), (1, .int (nI (pl)))] := hl
  have hln := hw.2.2.2.2.1
  have htx := hw.2.2.2.2.2.1
  refine lv_iload_n hx hb dX7_byteAt_0 rfl (lv_at hl 1 rfl) ?_
  refine ln_if_lt (tgt := 21) hx hb dX7_byteAt_1 (by decide) (by omega) ?_
  refine lv_iload_n hx hb dX7_byteAt_4 rfl (lv_at hl 1 rfl) ?_
  refine lv_aload_n hx hb dX7_byteAt_5 rfl (lv_at hl 0 rfl) ?_
  refine va_get (D := D) (ci := 7) (v := .int (nI (s_ln σ))) (C := RX7) (T := TX7) (N := 2) hx hb hts ni7 hown hK hP 1 (cw_c1 cy ad aw σ J) rfl 1 (by decide) (hts _ flX7_15) (fun _ h => h) rfl dX7_byteAt_6 ?_
  refine ln_icmp_ge (tgt := 21) hx hb dX7_byteAt_9 (by decide) (by omega) (by omega) (fun c9 => ?_) (fun c9 => ?_)
  · refine lv_iconst (v := -1) hx hb dX7_byteAt_21 (by decide) ?_
    exact rt_i hx hb hr hlocks (rfl) dX7_byteAt_22
  · exact absurd c9 (by omega)
set_option maxHeartbeats 4000000 in
set_option maxRecDepth 100000 in
theorem k_X2_sortAt (l : Launch) (D : va_G) (cy : Nat → ClassId) (ad aw : Nat → Nat) (σ : Sg) (J : Js) (pl : Nat) (hw : wfS σ) (hp : pl < 2 ^ 31) : MR l yX2_sortAt qX2_sortAt 1 [.ref (ad 8), .int (nI (pl))] D cy (cw cy ad aw σ J) (nI (srt σ pl)) := by
  refine Met.ofW (cc := cX2_sortAt) (maxL := 3) (ret := (some .int)) (by decide) rfl ?_
  intro p e s m args below meth c s₁ B hml hv
  obtain ⟨rfl, hP, hK, hN⟩ := hv
  have hx := B.exec
  have hb := B.bytes
  have hr := B.returns
  have hlocks := B.notSynchronized
  have hts : ∀ cq ∈ tg, cq.before ([.ref (ad 8), .int (nI (pl))] : List Value).toArray s = true := fun cq h => atoms_spec (ws := qX2_sortAt) B.pre cq (List.mem_cons_of_mem _ h)
  have hown : s.vm.findClass RX2 = some m.cls := findClass_of_methodNamed B.named
  have hl := lv_entry ([.ref (ad 8), .int (nI (pl))]) (n := 3) (Nat.le_of_ble_eq_true rfl)
  rw [lg_entry_eq]
  generalize (lg_sl ([.ref (ad 8), .int (nI (pl))]) ++ List.replicate (3 - (lg_sl ([.ref (ad 8), .int (nI (pl))])).length) Slot.unset).toArray = ls at hl ⊢
  have hl : lv_has ls 3 [(0, .ref (ad 8)), (1, .int (nI (pl)))] := hl
  have hln := hw.2.2.2.2.1
  have htx := hw.2.2.2.2.2.1
  have htp := htx pl
  refine lv_aload_n hx hb dX2_sortAt_0 rfl (lv_at hl 0 rfl) ?_
  refine va_get (D := D) (ci := 2) (v := .ref (ad 1)) (C := RX2) (T := TX2) (N := 11) hx hb hts ni2 hown hK hP 8 (cw_c8 cy ad aw σ J) rfl 3 (by decide) (hts _ flX2_24) (fun _ h => h) rfl dX2_sortAt_1 ?_
  refine lv_iload_n hx hb dX2_sortAt_4 rfl (lv_at hl 1 rfl) ?_
  rcases Nat.lt_or_ge pl (s_ln σ) with hpl | hpl
  · refine cr_v (n := 1) (As := [.int (nI (pl))]) (rest := []) ⟨hx, hb, hml, hown, hts⟩ (k_byteAt1 l D cy ad aw σ J pl hw (by omega)) gvX2_117 (by decide +kernel) ⟨Nat.le_of_ble_eq_true rfl, Nat.le_of_ble_eq_true rfl⟩ hK hN hP 1 (cw_c1 cy ad aw σ J) rfl rfl hl.1 rfl (Nat.le_of_ble_eq_true rfl) dX2_sortAt_5 ⟨Nat.zero_le _, Nat.zero_le _⟩ ?_
    refine lv_istore_n (lv' := [(2, .int (nI (s_tx σ pl))), (0, .ref (ad 8)), (1, .int (nI (pl)))]) hx hb dX2_sortAt_8 rfl hl (by decide) rfl (fun ls hl => ?_)
    refine lv_iload_n hx hb dX2_sortAt_9 rfl (lv_at hl 0 rfl) ?_
    refine lv_iconst (v := -1) hx hb dX2_sortAt_10 (by decide) ?_
    refine lv_icmp_ne (tgt := 16) hx hb dX2_sortAt_11 (by decide) (fun _ => ?_) (fun c => absurd c (m1_ne _ (by omega)))
    refine lv_iload_n hx hb dX2_sortAt_16 rfl (lv_at hl 0 rfl) ?_
    refine lv_bipush (v := nI 97) hx hb dX2_sortAt_17 (by decide) ?_
    refine ln_icmp_lt (tgt := 30) hx hb dX2_sortAt_19 (by decide) (by omega) (by omega) (fun c19 => ?_) (fun c19 => ?_)
    · refine lv_iload_n hx hb dX2_sortAt_30 rfl (lv_at hl 0 rfl) ?_
      refine lv_bipush (v := nI 48) hx hb dX2_sortAt_31 (by decide) ?_
      refine ln_icmp_lt (tgt := 46) hx hb dX2_sortAt_33 (by decide) (by omega) (by omega) (fun c33 => ?_) (fun c33 => ?_)
      · refine lv_iconst (v := nI 2) hx hb dX2_sortAt_46 (by decide) ?_
        exact rt_i hx hb hr hlocks (by rw [srt, if_pos hpl, sk, show qL (s_tx σ pl) = false from decide_eq_false (by omega), show qD (s_tx σ pl) = false from decide_eq_false (by omega)]; rfl) dX2_sortAt_47
      · refine lv_iload_n hx hb dX2_sortAt_36 rfl (lv_at hl 0 rfl) ?_
        refine lv_bipush (v := nI 57) hx hb dX2_sortAt_37 (by decide) ?_
        refine ln_icmp_gt (tgt := 46) hx hb dX2_sortAt_39 (by decide) (by omega) (by omega) (fun c39 => ?_) (fun c39 => ?_)
        · refine lv_iconst (v := nI 2) hx hb dX2_sortAt_46 (by decide) ?_
          exact rt_i hx hb hr hlocks (by rw [srt, if_pos hpl, sk, show qL (s_tx σ pl) = false from decide_eq_false (by omega), show qD (s_tx σ pl) = false from decide_eq_false (by omega)]; rfl) dX2_sortAt_47
        · refine lv_iconst (v := nI 1) hx hb dX2_sortAt_42 (by decide) ?_
          refine lv_goto (tgt := 47) hx hb dX2_sortAt_43 (by decide) ?_
          exact rt_i hx hb hr hlocks (by rw [srt, if_pos hpl, sk, show qL (s_tx σ pl) = false from decide_eq_false (by omega), show qD (s_tx σ pl) = true from decide_eq_true (by omega)]; rfl) dX2_sortAt_47
    · refine lv_iload_n hx hb dX2_sortAt_22 rfl (lv_at hl 0 rfl) ?_
      refine lv_bipush (v := nI 122) hx hb dX2_sortAt_23 (by decide) ?_
      refine ln_icmp_gt (tgt := 30) hx hb dX2_sortAt_25 (by decide) (by omega) (by omega) (fun c25 => ?_) (fun c25 => ?_)
      · refine lv_iload_n hx hb dX2_sortAt_30 rfl (lv_at hl 0 rfl) ?_
        refine lv_bipush (v := nI 48) hx hb dX2_sortAt_31 (by decide) ?_
        refine ln_icmp_lt (tgt := 46) hx hb dX2_sortAt_33 (by decide) (by omega) (by omega) (fun c33 => ?_) (fun c33 => ?_)
        · refine lv_iconst (v := nI 2) hx hb dX2_sortAt_46 (by decide) ?_
          exact rt_i hx hb hr hlocks (by rw [srt, if_pos hpl, sk, show qL (s_tx σ pl) = false from decide_eq_false (by omega), show qD (s_tx σ pl) = false from decide_eq_false (by omega)]; rfl) dX2_sortAt_47
        · refine lv_iload_n hx hb dX2_sortAt_36 rfl (lv_at hl 0 rfl) ?_
          refine lv_bipush (v := nI 57) hx hb dX2_sortAt_37 (by decide) ?_
          refine ln_icmp_gt (tgt := 46) hx hb dX2_sortAt_39 (by decide) (by omega) (by omega) (fun c39 => ?_) (fun c39 => ?_)
          · refine lv_iconst (v := nI 2) hx hb dX2_sortAt_46 (by decide) ?_
            exact rt_i hx hb hr hlocks (by rw [srt, if_pos hpl, sk, show qL (s_tx σ pl) = false from decide_eq_false (by omega), show qD (s_tx σ pl) = false from decide_eq_false (by omega)]; rfl) dX2_sortAt_47
          · refine lv_iconst (v := nI 1) hx hb dX2_sortAt_42 (by decide) ?_
            refine lv_goto (tgt := 47) hx hb dX2_sortAt_43 (by decide) ?_
            exact rt_i hx hb hr hlocks (by rw [srt, if_pos hpl, sk, show qL (s_tx σ pl) = false from decide_eq_false (by omega), show qD (s_tx σ pl) = true from decide_eq_true (by omega)]; rfl) dX2_sortAt_47
      · refine lv_iconst (v := nI 0) hx hb dX2_sortAt_28 (by decide) ?_
        exact rt_i hx hb hr hlocks (by rw [srt, if_pos hpl, sk, show qL (s_tx σ pl) = true from decide_eq_true (by omega)]; rfl) dX2_sortAt_29
  · refine cr_v (n := 1) (As := [.int (nI (pl))]) (rest := []) ⟨hx, hb, hml, hown, hts⟩ (k_byteAt0 l D cy ad aw σ J pl hw (by omega) (by omega)) gvX2_117 (by decide +kernel) ⟨Nat.le_of_ble_eq_true rfl, Nat.le_of_ble_eq_true rfl⟩ hK hN hP 1 (cw_c1 cy ad aw σ J) rfl rfl hl.1 rfl (Nat.le_of_ble_eq_true rfl) dX2_sortAt_5 ⟨Nat.zero_le _, Nat.zero_le _⟩ ?_
    refine lv_istore_n (lv' := [(2, .int (-1)), (0, .ref (ad 8)), (1, .int (nI (pl)))]) hx hb dX2_sortAt_8 rfl hl (by decide) rfl (fun ls hl => ?_)
    refine lv_iload_n hx hb dX2_sortAt_9 rfl (lv_at hl 0 rfl) ?_
    refine lv_iconst (v := -1) hx hb dX2_sortAt_10 (by decide) ?_
    refine lv_icmp_ne (tgt := 16) hx hb dX2_sortAt_11 (by decide) (fun c => absurd rfl c) (fun _ => ?_)
    refine lv_iconst (v := nI 3) hx hb dX2_sortAt_14 (by decide) ?_
    exact rt_i hx hb hr hlocks (by rw [srt, if_neg (by omega)]) dX2_sortAt_15
set_option maxHeartbeats 4000000 in
set_option maxRecDepth 100000 in
theorem k_X2_nextToken (l : Launch) (D : va_G) (cy : Nat → ClassId) (ad aw : Nat → Nat) (σ : Sg) (J : Js) (o : Nat) (hw : wfS σ) (hen : j_en J = nI o) (hp : o ≤ s_ln σ) : MV l yX2_nextToken qX2_nextToken 2 [.ref (ad 8)] D cy (cw cy ad aw σ J) (fun _ : Unit => True) (fun _ : Unit => cw cy ad aw σ (tkJ σ o J)) := by
  intro sz
  refine Met.ofW (cc := cX2_nextToken) (maxL := 1) (ret := none) (by decide) rfl ?_
  intro p e s m args below meth c s₁ B hml hv
  obtain ⟨rfl, rfl, hP, hK, hN, hD0⟩ := hv
  have hx := B.exec
  have hb := B.bytes
  have hr := B.returns
  have hlocks := B.notSynchronized
  have hts : ∀ cq ∈ tg, cq.before ([.ref (ad 8)] : List Value).toArray s = true := fun cq h => atoms_spec (ws := qX2_nextToken) B.pre cq (List.mem_cons_of_mem _ h)
  have hown : s.vm.findClass RX2 = some m.cls := findClass_of_methodNamed B.named
  have hD := hD0.self (sz := s.heap.size)
  generalize hAe : va_A (cw cy ad aw σ J) s.heap.size = A at hD ⊢
  have hA : ∀ q : Nat, s.heap.size ≤ q → A q := fun q h => by rw [← hAe]; exact Or.inr h
  have hS : va_S A s.heap s.heap [] := va_S.rf
  have hl := lv_entry ([.ref (ad 8)]) (n := 1) (Nat.le_of_ble_eq_true rfl)
  rw [lg_entry_eq]
  generalize (lg_sl ([.ref (ad 8)]) ++ List.replicate (1 - (lg_sl ([.ref (ad 8)])).length) Slot.unset).toArray = ls at hl ⊢
  have hl : lv_has ls 1 [(0, .ref (ad 8))] := hl
  have hln := hw.2.2.2.2.1
  have htx := hw.2.2.2.2.2.1
  have hbl := tB_le hp
  have htk := srt_le σ (tB σ o)
  rw [srt_tB hp] at htk
  have h0 : J = ju_so (ju_en (ju_be J (j_be J)) (nI o)) (j_so J) := by rw [← hen]; exact (j_eta3 J).symm
  have hP : va_P D vwCl (cw cy ad aw σ (ju_so (ju_en (ju_be J (j_be J)) (nI o)) (j_so J))) s.heap := by rw [← h0]; exact hP
  have hD : va_D A (cw cy ad aw σ (ju_so (ju_en (ju_be J (j_be J)) (nI o)) (j_so J))) := by rw [← h0]; exact hD
  refine lv_aload_n hx hb dX2_nextToken_0 rfl (lv_at hl 0 rfl) ?_
  refine lv_aload_n hx hb dX2_nextToken_1 rfl (lv_at hl 0 rfl) ?_
  refine va_get (D := D) (ci := 2) (v := .int (nI (o))) (C := RX2) (T := TX2) (N := 11) hx hb hts ni2 hown hK hP 8 (cw_c8 cy ad aw σ (ju_so (ju_en (ju_be J (j_be J)) (nI o)) (j_so J))) rfl 6 (by decide) (hts _ flX2_33) (fun _ h => h) rfl dX2_nextToken_2 ?_
  refine ln_put (ci := 2) (C := RX2) (T := TX2) (N := 11) (ty := .int) (v := .int (nI (o))) hx hb hts ni2 tyX2 tyX2_ok nmX2 hown hK hP hD hS 8 (cw_c8 cy ad aw σ (ju_so (ju_en (ju_be J (j_be J)) (nI o)) (j_so J))) rfl 5 (by decide) (hts _ flX2_114) (fun _ h => h) rfl (by decide +kernel) rfl rfl (Nat.le_of_ble_eq_true rfl) ((cp_8_5 cy ad aw σ (ju_so (ju_en (ju_be J (j_be J)) (nI o)) (j_so J)) (nI (o))).trans (congrArg (fun z => cw cy ad aw σ z) (by rw [jx_be_so, jx_be_en, jc_be]))) dX2_nextToken_5 (fun H locs hP hD hS => ?_)
  have hmain : ∀ (H : Heap) (locs : List Loc), va_P D vwCl (cw cy ad aw σ (ju_so (ju_en (ju_be J (nI (tB σ o))) (nI o)) (j_so J))) H → va_D A (cw cy ad aw σ (ju_so (ju_en (ju_be J (nI (tB σ o))) (nI o)) (j_so J))) → va_S A s.heap H locs → W p l e (headSpec qX2_nextToken (rq 2)).room s m ([.ref (ad 8)] : List Value).toArray below meth c H locs 0 0 (MQ below (va_Qv (fun _ : Unit => True) (fun u t => va_P D vwCl ((fun _ : Unit => cw cy ad aw σ (tkJ σ o J)) u) t.heap) A) ([.ref (ad 8)] : List Value).toArray s 0 0 A) (F0 m 51 ls []) := by
    intro H locs hP hD hS
    refine lv_aload_n hx hb dX2_nextToken_51 rfl (lv_at hl 0 rfl) ?_
    refine lv_aload_n hx hb dX2_nextToken_52 rfl (lv_at hl 0 rfl) ?_
    refine va_get (D := D) (ci := 2) (v := .int (nI (tB σ o))) (C := RX2) (T := TX2) (N := 11) hx hb hts ni2 hown hK hP 8 (cw_c8 cy ad aw σ (ju_so (ju_en (ju_be J (nI (tB σ o))) (nI o)) (j_so J))) rfl 5 (by decide) (hts _ flX2_114) (fun _ h => h) rfl dX2_nextToken_53 ?_
    refine ln_put (ci := 2) (C := RX2) (T := TX2) (N := 11) (ty := .int) (v := .int (nI (tB σ o))) hx hb hts ni2 tyX2 tyX2_ok nmX2 hown hK hP hD hS 8 (cw_c8 cy ad aw σ (ju_so (ju_en (ju_be J (nI (tB σ o))) (nI o)) (j_so J))) rfl 6 (by decide) (hts _ flX2_33) (fun _ h => h) rfl (by decide +kernel) rfl rfl (Nat.le_of_ble_eq_true rfl) ((cp_8_6 cy ad aw σ (ju_so (ju_en (ju_be J (nI (tB σ o))) (nI o)) (j_so J)) (nI (tB σ o))).trans (congrArg (fun z => cw cy ad aw σ z) (by rw [jx_en_so, jc_en]))) dX2_nextToken_56 (fun H locs hP hD hS => ?_)
    refine lv_aload_n hx hb dX2_nextToken_59 rfl (lv_at hl 0 rfl) ?_
    refine lv_aload_n hx hb dX2_nextToken_60 rfl (lv_at hl 0 rfl) ?_
    refine lv_aload_n hx hb dX2_nextToken_61 rfl (lv_at hl 0 rfl) ?_
    refine va_get (D := D) (ci := 2) (v := .int (nI (tB σ o))) (C := RX2) (T := TX2) (N := 11) hx hb hts ni2 hown hK hP 8 (cw_c8 cy ad aw σ (ju_so (ju_en (ju_be J (nI (tB σ o))) (nI (tB σ o))) (j_so J))) rfl 5 (by decide) (hts _ flX2_114) (fun _ h => h) rfl dX2_nextToken_62 ?_
    refine cr_v (n := 1) (As := [.int (nI (tB σ o))]) (rest := [.ref (ad 8)]) ⟨hx, hb, hml, hown, hts⟩ (k_X2_sortAt l D cy ad aw σ (ju_so (ju_en (ju_be J (nI (tB σ o))) (nI (tB σ o))) (j_so J)) (tB σ o) hw (by omega)) gvX2_125 (by decide +kernel) ⟨Nat.le_of_ble_eq_true rfl, Nat.le_of_ble_eq_true rfl⟩ hK hN hP 8 (cw_c8 cy ad aw σ (ju_so (ju_en (ju_be J (nI (tB σ o))) (nI (tB σ o))) (j_so J))) rfl rfl hl.1 rfl (Nat.le_of_ble_eq_true rfl) dX2_nextToken_65 ⟨Nat.zero_le _, Nat.zero_le _⟩ ?_
    refine ln_nat (show srt σ (tB σ o) = tK σ o from srt_tB hp) ?_
    refine ln_put (ci := 2) (C := RX2) (T := TX2) (N := 11) (ty := .int) (v := .int (nI (tK σ o))) hx hb hts ni2 tyX2 tyX2_ok nmX2 hown hK hP hD hS 8 (cw_c8 cy ad aw σ (ju_so (ju_en (ju_be J (nI (tB σ o))) (nI (tB σ o))) (j_so J))) rfl 7 (by decide) (hts _ flX2_111) (fun _ h => h) rfl (by decide +kernel) rfl rfl (Nat.le_of_ble_eq_true rfl) ((cp_8_7 cy ad aw σ (ju_so (ju_en (ju_be J (nI (tB σ o))) (nI (tB σ o))) (j_so J)) (nI (tK σ o))).trans (congrArg (fun z => cw cy ad aw σ z) (by rw [jc_so]))) dX2_nextToken_68 (fun H locs hP hD hS => ?_)
    refine lv_aload_n hx hb dX2_nextToken_71 rfl (lv_at hl 0 rfl) ?_
    refine va_get (D := D) (ci := 2) (v := .int (nI (tK σ o))) (C := RX2) (T := TX2) (N := 11) hx hb hts ni2 hown hK hP 8 (cw_c8 cy ad aw σ (ju_so (ju_en (ju_be J (nI (tB σ o))) (nI (tB σ o))) (nI (tK σ o)))) rfl 7 (by decide) (hts _ flX2_111) (fun _ h => h) rfl dX2_nextToken_72 ?_
    refine lv_iconst (v := nI 2) hx hb dX2_nextToken_75 (by decide) ?_
    refine ln_icmp_ne (tgt := 92) hx hb dX2_nextToken_76 (by decide) (by omega) (by omega) (fun c76 => ?_) (fun c76 => ?_)
    · have hend : ∀ (H : Heap) (locs : List Loc), va_P D vwCl (cw cy ad aw σ (ju_so (ju_en (ju_be J (nI (tB σ o))) (nI (tE σ o))) (nI (tK σ o)))) H → va_D A (cw cy ad aw σ (ju_so (ju_en (ju_be J (nI (tB σ o))) (nI (tE σ o))) (nI (tK σ o)))) → va_S A s.heap H locs → W p l e (headSpec qX2_nextToken (rq 2)).room s m ([.ref (ad 8)] : List Value).toArray below meth c H locs 0 0 (MQ below (va_Qv (fun _ : Unit => True) (fun u t => va_P D vwCl ((fun _ : Unit => cw cy ad aw σ (tkJ σ o J)) u) t.heap) A) ([.ref (ad 8)] : List Value).toArray s 0 0 A) (F0 m 134 ls []) := by
        intro H locs hP hD hS
        exact rw_v hx hb hr hlocks hS () (trivial) hP dX2_nextToken_134
      have hlq : ∀ (k q : Nat) (H : Heap) (locs : List Loc), s_ln σ ≤ q + k → q ≤ s_ln σ → rn (s_tx σ) (s_ln σ) (fun c => decide (sk c = tK σ o)) k q = tE σ o → va_P D vwCl (cw cy ad aw σ (ju_so (ju_en (ju_be J (nI (tB σ o))) (nI (q))) (nI (tK σ o)))) H → va_D A (cw cy ad aw σ (ju_so (ju_en (ju_be J (nI (tB σ o))) (nI (q))) (nI (tK σ o)))) → va_S A s.heap H locs → W p l e (headSpec qX2_nextToken (rq 2)).room s m ([.ref (ad 8)] : List Value).toArray below meth c H locs 0 0 (MQ below (va_Qv (fun _ : Unit => True) (fun u t => va_P D vwCl ((fun _ : Unit => cw cy ad aw σ (tkJ σ o J)) u) t.heap) A) ([.ref (ad 8)] : List Value).toArray s 0 0 A) (F0 m 92 ls []) := by
        intro k
        induction k with
        | zero =>
          intro q H locs hk hq hrn hP hD hS
          have hsq := srt_le σ q
          refine lv_aload_n hx hb dX2_nextToken_92 rfl (lv_at hl 0 rfl) ?_
          refine va_get (D := D) (ci := 2) (v := .int (nI (q))) (C := RX2) (T := TX2) (N := 11) hx hb hts ni2 hown hK hP 8 (cw_c8 cy ad aw σ (ju_so (ju_en (ju_be J (nI (tB σ o))) (nI (q))) (nI (tK σ o)))) rfl 6 (by decide) (hts _ flX2_33) (fun _ h => h) rfl dX2_nextToken_93 ?_
          refine lv_aload_n hx hb dX2_nextToken_96 rfl (lv_at hl 0 rfl) ?_
          refine va_get (D := D) (ci := 2) (v := .ref (ad 1)) (C := RX2) (T := TX2) (N := 11) hx hb hts ni2 hown hK hP 8 (cw_c8 cy ad aw σ (ju_so (ju_en (ju_be J (nI (tB σ o))) (nI (q))) (nI (tK σ o)))) rfl 3 (by decide) (hts _ flX2_24) (fun _ h => h) rfl dX2_nextToken_97 ?_
          refine va_get (D := D) (ci := 7) (v := .int (nI (s_ln σ))) (C := RX7) (T := TX7) (N := 2) hx hb hts ni7 hown hK hP 1 (cw_c1 cy ad aw σ (ju_so (ju_en (ju_be J (nI (tB σ o))) (nI (q))) (nI (tK σ o)))) rfl 1 (by decide) (hts _ flX2_123) (fun _ h => h) rfl dX2_nextToken_100 ?_
          refine ln_icmp_ge (tgt := 134) hx hb dX2_nextToken_103 (by decide) (by omega) (by omega) (fun c103 => ?_) (fun c103 => ?_)
          · have hqe : q = tE σ o := by first | exact rn_e hrn (by omega) | exact rn_n hrn (decide_eq_false (by rw [srt, if_pos (by omega)] at c118; exact c118))
            rw [hqe] at hP hD
            exact hend _ _ hP hD hS
          · refine lv_aload_n hx hb dX2_nextToken_106 rfl (lv_at hl 0 rfl) ?_
            refine lv_aload_n hx hb dX2_nextToken_107 rfl (lv_at hl 0 rfl) ?_
            refine va_get (D := D) (ci := 2) (v := .int (nI (q))) (C := RX2) (T := TX2) (N := 11) hx hb hts ni2 hown hK hP 8 (cw_c8 cy ad aw σ (ju_so (ju_en (ju_be J (nI (tB σ o))) (nI (q))) (nI (tK σ o)))) rfl 6 (by decide) (hts _ flX2_33) (fun _ h => h) rfl dX2_nextToken_108 ?_
            refine cr_v (n := 1) (As := [.int (nI (q))]) (rest := []) ⟨hx, hb, hml, hown, hts⟩ (k_X2_sortAt l D cy ad aw σ (ju_so (ju_en (ju_be J (nI (tB σ o))) (nI (q))) (nI (tK σ o))) q hw (by omega)) gvX2_125 (by decide +kernel) ⟨Nat.le_of_ble_eq_true rfl, Nat.le_of_ble_eq_true rfl⟩ hK hN hP 8 (cw_c8 cy ad aw σ (ju_so (ju_en (ju_be J (nI (tB σ o))) (nI (q))) (nI (tK σ o)))) rfl rfl hl.1 rfl (Nat.le_of_ble_eq_true rfl) dX2_nextToken_111 ⟨Nat.zero_le _, Nat.zero_le _⟩ ?_
            refine lv_aload_n hx hb dX2_nextToken_114 rfl (lv_at hl 0 rfl) ?_
            refine va_get (D := D) (ci := 2) (v := .int (nI (tK σ o))) (C := RX2) (T := TX2) (N := 11) hx hb hts ni2 hown hK hP 8 (cw_c8 cy ad aw σ (ju_so (ju_en (ju_be J (nI (tB σ o))) (nI (q))) (nI (tK σ o)))) rfl 7 (by decide) (hts _ flX2_111) (fun _ h => h) rfl dX2_nextToken_115 ?_
            refine ln_icmp_ne (tgt := 134) hx hb dX2_nextToken_118 (by decide) (by omega) (by omega) (fun c118 => ?_) (fun c118 => ?_)
            · have hqe : q = tE σ o := by first | exact rn_e hrn (by omega) | exact rn_n hrn (decide_eq_false (by rw [srt, if_pos (by omega)] at c118; exact c118))
              rw [hqe] at hP hD
              exact hend _ _ hP hD hS
            · refine lv_aload_n hx hb dX2_nextToken_121 rfl (lv_at hl 0 rfl) ?_
              refine lv_dup hx hb dX2_nextToken_122 rfl ?_
              refine va_get (D := D) (ci := 2) (v := .int (nI (q))) (C := RX2) (T := TX2) (N := 11) hx hb hts ni2 hown hK hP 8 (cw_c8 cy ad aw σ (ju_so (ju_en (ju_be J (nI (tB σ o))) (nI (q))) (nI (tK σ o)))) rfl 6 (by decide) (hts _ flX2_33) (fun _ h => h) rfl dX2_nextToken_123 ?_
              refine lv_iconst (v := nI 1) hx hb dX2_nextToken_126 (by decide) ?_
              refine ln_iadd hx hb dX2_nextToken_127 ?_
              refine ln_put (ci := 2) (C := RX2) (T := TX2) (N := 11) (ty := .int) (v := .int (nI (q + 1))) hx hb hts ni2 tyX2 tyX2_ok nmX2 hown hK hP hD hS 8 (cw_c8 cy ad aw σ (ju_so (ju_en (ju_be J (nI (tB σ o))) (nI (q))) (nI (tK σ o)))) rfl 6 (by decide) (hts _ flX2_33) (fun _ h => h) rfl (by decide +kernel) rfl rfl (Nat.le_of_ble_eq_true rfl) ((cp_8_6 cy ad aw σ (ju_so (ju_en (ju_be J (nI (tB σ o))) (nI (q))) (nI (tK σ o))) (nI (q + 1))).trans (congrArg (fun z => cw cy ad aw σ z) (by rw [jx_en_so, jc_en]))) dX2_nextToken_128 (fun H locs hP hD hS => ?_)
              refine lv_goto (tgt := 92) hx hb dX2_nextToken_131 (by decide) ?_
              first | exact ih (q + 1) _ _ (by omega) (by omega) (rn_s hrn (by omega) (decide_eq_true (by rw [srt, if_pos (by omega)] at c118; exact c118))) hP hD hS | (exfalso; omega)
        | succ k ih =>
          intro q H locs hk hq hrn hP hD hS
          have hsq := srt_le σ q
          refine lv_aload_n hx hb dX2_nextToken_92 rfl (lv_at hl 0 rfl) ?_
          refine va_get (D := D) (ci := 2) (v := .int (nI (q))) (C := RX2) (T := TX2) (N := 11) hx hb hts ni2 hown hK hP 8 (cw_c8 cy ad aw σ (ju_so (ju_en (ju_be J (nI (tB σ o))) (nI (q))) (nI (tK σ o)))) rfl 6 (by decide) (hts _ flX2_33) (fun _ h => h) rfl dX2_nextToken_93 ?_
          refine lv_aload_n hx hb dX2_nextToken_96 rfl (lv_at hl 0 rfl) ?_
          refine va_get (D := D) (ci := 2) (v := .ref (ad 1)) (C := RX2) (T := TX2) (N := 11) hx hb hts ni2 hown hK hP 8 (cw_c8 cy ad aw σ (ju_so (ju_en (ju_be J (nI (tB σ o))) (nI (q))) (nI (tK σ o)))) rfl 3 (by decide) (hts _ flX2_24) (fun _ h => h) rfl dX2_nextToken_97 ?_
          refine va_get (D := D) (ci := 7) (v := .int (nI (s_ln σ))) (C := RX7) (T := TX7) (N := 2) hx hb hts ni7 hown hK hP 1 (cw_c1 cy ad aw σ (ju_so (ju_en (ju_be J (nI (tB σ o))) (nI (q))) (nI (tK σ o)))) rfl 1 (by decide) (hts _ flX2_123) (fun _ h => h) rfl dX2_nextToken_100 ?_
          refine ln_icmp_ge (tgt := 134) hx hb dX2_nextToken_103 (by decide) (by omega) (by omega) (fun c103 => ?_) (fun c103 => ?_)
          · have hqe : q = tE σ o := by first | exact rn_e hrn (by omega) | exact rn_n hrn (decide_eq_false (by rw [srt, if_pos (by omega)] at c118; exact c118))
            rw [hqe] at hP hD
            exact hend _ _ hP hD hS
          · refine lv_aload_n hx hb dX2_nextToken_106 rfl (lv_at hl 0 rfl) ?_
            refine lv_aload_n hx hb dX2_nextToken_107 rfl (lv_at hl 0 rfl) ?_
            refine va_get (D := D) (ci := 2) (v := .int (nI (q))) (C := RX2) (T := TX2) (N := 11) hx hb hts ni2 hown hK hP 8 (cw_c8 cy ad aw σ (ju_so (ju_en (ju_be J (nI (tB σ o))) (nI (q))) (nI (tK σ o)))) rfl 6 (by decide) (hts _ flX2_33) (fun _ h => h) rfl dX2_nextToken_108 ?_
            refine cr_v (n := 1) (As := [.int (nI (q))]) (rest := []) ⟨hx, hb, hml, hown, hts⟩ (k_X2_sortAt l D cy ad aw σ (ju_so (ju_en (ju_be J (nI (tB σ o))) (nI (q))) (nI (tK σ o))) q hw (by omega)) gvX2_125 (by decide +kernel) ⟨Nat.le_of_ble_eq_true rfl, Nat.le_of_ble_eq_true rfl⟩ hK hN hP 8 (cw_c8 cy ad aw σ (ju_so (ju_en (ju_be J (nI (tB σ o))) (nI (q))) (nI (tK σ o)))) rfl rfl hl.1 rfl (Nat.le_of_ble_eq_true rfl) dX2_nextToken_111 ⟨Nat.zero_le _, Nat.zero_le _⟩ ?_
            refine lv_aload_n hx hb dX2_nextToken_114 rfl (lv_at hl 0 rfl) ?_
            refine va_get (D := D) (ci := 2) (v := .int (nI (tK σ o))) (C := RX2) (T := TX2) (N := 11) hx hb hts ni2 hown hK hP 8 (cw_c8 cy ad aw σ (ju_so (ju_en (ju_be J (nI (tB σ o))) (nI (q))) (nI (tK σ o)))) rfl 7 (by decide) (hts _ flX2_111) (fun _ h => h) rfl dX2_nextToken_115 ?_
            refine ln_icmp_ne (tgt := 134) hx hb dX2_nextToken_118 (by decide) (by omega) (by omega) (fun c118 => ?_) (fun c118 => ?_)
            · have hqe : q = tE σ o := by first | exact rn_e hrn (by omega) | exact rn_n hrn (decide_eq_false (by rw [srt, if_pos (by omega)] at c118; exact c118))
              rw [hqe] at hP hD
              exact hend _ _ hP hD hS
            · refine lv_aload_n hx hb dX2_nextToken_121 rfl (lv_at hl 0 rfl) ?_
              refine lv_dup hx hb dX2_nextToken_122 rfl ?_
              refine va_get (D := D) (ci := 2) (v := .int (nI (q))) (C := RX2) (T := TX2) (N := 11) hx hb hts ni2 hown hK hP 8 (cw_c8 cy ad aw σ (ju_so (ju_en (ju_be J (nI (tB σ o))) (nI (q))) (nI (tK σ o)))) rfl 6 (by decide) (hts _ flX2_33) (fun _ h => h) rfl dX2_nextToken_123 ?_
              refine lv_iconst (v := nI 1) hx hb dX2_nextToken_126 (by decide) ?_
              refine ln_iadd hx hb dX2_nextToken_127 ?_
              refine ln_put (ci := 2) (C := RX2) (T := TX2) (N := 11) (ty := .int) (v := .int (nI (q + 1))) hx hb hts ni2 tyX2 tyX2_ok nmX2 hown hK hP hD hS 8 (cw_c8 cy ad aw σ (ju_so (ju_en (ju_be J (nI (tB σ o))) (nI (q))) (nI (tK σ o)))) rfl 6 (by decide) (hts _ flX2_33) (fun _ h => h) rfl (by decide +kernel) rfl rfl (Nat.le_of_ble_eq_true rfl) ((cp_8_6 cy ad aw σ (ju_so (ju_en (ju_be J (nI (tB σ o))) (nI (q))) (nI (tK σ o))) (nI (q + 1))).trans (congrArg (fun z => cw cy ad aw σ z) (by rw [jx_en_so, jc_en]))) dX2_nextToken_128 (fun H locs hP hD hS => ?_)
              refine lv_goto (tgt := 92) hx hb dX2_nextToken_131 (by decide) ?_
              first | exact ih (q + 1) _ _ (by omega) (by omega) (rn_s hrn (by omega) (decide_eq_true (by rw [srt, if_pos (by omega)] at c118; exact c118))) hP hD hS | (exfalso; omega)
      exact hlq 201 (tB σ o) _ _ (by omega) hbl (tE_rn c76) hP hD hS
    · refine lv_aload_n hx hb dX2_nextToken_79 rfl (lv_at hl 0 rfl) ?_
      refine lv_dup hx hb dX2_nextToken_80 rfl ?_
      refine va_get (D := D) (ci := 2) (v := .int (nI (tB σ o))) (C := RX2) (T := TX2) (N := 11) hx hb hts ni2 hown hK hP 8 (cw_c8 cy ad aw σ (ju_so (ju_en (ju_be J (nI (tB σ o))) (nI (tB σ o))) (nI (tK σ o)))) rfl 6 (by decide) (hts _ flX2_33) (fun _ h => h) rfl dX2_nextToken_81 ?_
      refine lv_iconst (v := nI 1) hx hb dX2_nextToken_84 (by decide) ?_
      refine ln_iadd hx hb dX2_nextToken_85 ?_
      refine ln_put (ci := 2) (C := RX2) (T := TX2) (N := 11) (ty := .int) (v := .int (nI ((tB σ o) + 1))) hx hb hts ni2 tyX2 tyX2_ok nmX2 hown hK hP hD hS 8 (cw_c8 cy ad aw σ (ju_so (ju_en (ju_be J (nI (tB σ o))) (nI (tB σ o))) (nI (tK σ o)))) rfl 6 (by decide) (hts _ flX2_33) (fun _ h => h) rfl (by decide +kernel) rfl rfl (Nat.le_of_ble_eq_true rfl) ((cp_8_6 cy ad aw σ (ju_so (ju_en (ju_be J (nI (tB σ o))) (nI (tB σ o))) (nI (tK σ o))) (nI ((tB σ o) + 1))).trans (congrArg (fun z => cw cy ad aw σ z) (by rw [jx_en_so, jc_en]))) dX2_nextToken_86 (fun H locs hP hD hS => ?_)
      refine lv_goto (tgt := 134) hx hb dX2_nextToken_89 (by decide) ?_
      have hte := tE_2 c76
      rw [hte] at hP hD
      exact rw_v hx hb hr hlocks hS () (trivial) hP dX2_nextToken_134
  have hlp : ∀ (k q : Nat) (H : Heap) (locs : List Loc), s_ln σ ≤ q + k → q ≤ s_ln σ → rn (s_tx σ) (s_ln σ) qS k q = tB σ o → va_P D vwCl (cw cy ad aw σ (ju_so (ju_en (ju_be J (nI (q))) (nI o)) (j_so J))) H → va_D A (cw cy ad aw σ (ju_so (ju_en (ju_be J (nI (q))) (nI o)) (j_so J))) → va_S A s.heap H locs → W p l e (headSpec qX2_nextToken (rq 2)).room s m ([.ref (ad 8)] : List Value).toArray below meth c H locs 0 0 (MQ below (va_Qv (fun _ : Unit => True) (fun u t => va_P D vwCl ((fun _ : Unit => cw cy ad aw σ (tkJ σ o J)) u) t.heap) A) ([.ref (ad 8)] : List Value).toArray s 0 0 A) (F0 m 8 ls []) := by
    intro k
    induction k with
    | zero =>
      intro q H locs hk hq hrn hP hD hS
      have htq := htx q
      refine lv_aload_n hx hb dX2_nextToken_8 rfl (lv_at hl 0 rfl) ?_
      refine va_get (D := D) (ci := 2) (v := .int (nI (q))) (C := RX2) (T := TX2) (N := 11) hx hb hts ni2 hown hK hP 8 (cw_c8 cy ad aw σ (ju_so (ju_en (ju_be J (nI (q))) (nI o)) (j_so J))) rfl 5 (by decide) (hts _ flX2_114) (fun _ h => h) rfl dX2_nextToken_9 ?_
      refine lv_aload_n hx hb dX2_nextToken_12 rfl (lv_at hl 0 rfl) ?_
      refine va_get (D := D) (ci := 2) (v := .ref (ad 1)) (C := RX2) (T := TX2) (N := 11) hx hb hts ni2 hown hK hP 8 (cw_c8 cy ad aw σ (ju_so (ju_en (ju_be J (nI (q))) (nI o)) (j_so J))) rfl 3 (by decide) (hts _ flX2_24) (fun _ h => h) rfl dX2_nextToken_13 ?_
      refine va_get (D := D) (ci := 7) (v := .int (nI (s_ln σ))) (C := RX7) (T := TX7) (N := 2) hx hb hts ni7 hown hK hP 1 (cw_c1 cy ad aw σ (ju_so (ju_en (ju_be J (nI (q))) (nI o)) (j_so J))) rfl 1 (by decide) (hts _ flX2_123) (fun _ h => h) rfl dX2_nextToken_16 ?_
      refine ln_icmp_ge (tgt := 51) hx hb dX2_nextToken_19 (by decide) (by omega) (by omega) (fun c19 => ?_) (fun c19 => ?_)
      · have hqe : q = tB σ o := by first | exact rn_e hrn (by omega) | exact rn_n hrn (decide_eq_false (by omega))
        rw [hqe] at hP hD
        exact hmain _ _ hP hD hS
      · refine lv_aload_n hx hb dX2_nextToken_22 rfl (lv_at hl 0 rfl) ?_
        refine va_get (D := D) (ci := 2) (v := .ref (ad 1)) (C := RX2) (T := TX2) (N := 11) hx hb hts ni2 hown hK hP 8 (cw_c8 cy ad aw σ (ju_so (ju_en (ju_be J (nI (q))) (nI o)) (j_so J))) rfl 3 (by decide) (hts _ flX2_24) (fun _ h => h) rfl dX2_nextToken_23 ?_
        refine lv_aload_n hx hb dX2_nextToken_26 rfl (lv_at hl 0 rfl) ?_
        refine va_get (D := D) (ci := 2) (v := .int (nI (q))) (C := RX2) (T := TX2) (N := 11) hx hb hts ni2 hown hK hP 8 (cw_c8 cy ad aw σ (ju_so (ju_en (ju_be J (nI (q))) (nI o)) (j_so J))) rfl 5 (by decide) (hts _ flX2_114) (fun _ h => h) rfl dX2_nextToken_27 ?_
        refine cr_v (n := 1) (As := [.int (nI (q))]) (rest := []) ⟨hx, hb, hml, hown, hts⟩ (k_byteAt1 l D cy ad aw σ (ju_so (ju_en (ju_be J (nI (q))) (nI o)) (j_so J)) q hw (by omega)) gvX2_117 (by decide +kernel) ⟨Nat.le_of_ble_eq_true rfl, Nat.le_of_ble_eq_true rfl⟩ hK hN hP 1 (cw_c1 cy ad aw σ (ju_so (ju_en (ju_be J (nI (q))) (nI o)) (j_so J))) rfl rfl hl.1 rfl (Nat.le_of_ble_eq_true rfl) dX2_nextToken_30 ⟨Nat.zero_le _, Nat.zero_le _⟩ ?_
        refine lv_bipush (v := nI 32) hx hb dX2_nextToken_33 (by decide) ?_
        refine ln_icmp_ne (tgt := 51) hx hb dX2_nextToken_35 (by decide) (by omega) (by omega) (fun c35 => ?_) (fun c35 => ?_)
        · have hqe : q = tB σ o := by first | exact rn_e hrn (by omega) | exact rn_n hrn (decide_eq_false (by omega))
          rw [hqe] at hP hD
          exact hmain _ _ hP hD hS
        · refine lv_aload_n hx hb dX2_nextToken_38 rfl (lv_at hl 0 rfl) ?_
          refine lv_dup hx hb dX2_nextToken_39 rfl ?_
          refine va_get (D := D) (ci := 2) (v := .int (nI (q))) (C := RX2) (T := TX2) (N := 11) hx hb hts ni2 hown hK hP 8 (cw_c8 cy ad aw σ (ju_so (ju_en (ju_be J (nI (q))) (nI o)) (j_so J))) rfl 5 (by decide) (hts _ flX2_114) (fun _ h => h) rfl dX2_nextToken_40 ?_
          refine lv_iconst (v := nI 1) hx hb dX2_nextToken_43 (by decide) ?_
          refine ln_iadd hx hb dX2_nextToken_44 ?_
          refine ln_put (ci := 2) (C := RX2) (T := TX2) (N := 11) (ty := .int) (v := .int (nI (q + 1))) hx hb hts ni2 tyX2 tyX2_ok nmX2 hown hK hP hD hS 8 (cw_c8 cy ad aw σ (ju_so (ju_en (ju_be J (nI (q))) (nI o)) (j_so J))) rfl 5 (by decide) (hts _ flX2_114) (fun _ h => h) rfl (by decide +kernel) rfl rfl (Nat.le_of_ble_eq_true rfl) ((cp_8_5 cy ad aw σ (ju_so (ju_en (ju_be J (nI (q))) (nI o)) (j_so J)) (nI (q + 1))).trans (congrArg (fun z => cw cy ad aw σ z) (by rw [jx_be_so, jx_be_en, jc_be]))) dX2_nextToken_45 (fun H locs hP hD hS => ?_)
          refine lv_goto (tgt := 8) hx hb dX2_nextToken_48 (by decide) ?_
          first | exact ih (q + 1) _ _ (by omega) (by omega) (rn_s hrn (by omega) (decide_eq_true c35)) hP hD hS | (exfalso; omega)
    | succ k ih =>
      intro q H locs hk hq hrn hP hD hS
      have htq := htx q
      refine lv_aload_n hx hb dX2_nextToken_8 rfl (lv_at hl 0 rfl) ?_
      refine va_get (D := D) (ci := 2) (v := .int (nI (q))) (C := RX2) (T := TX2) (N := 11) hx hb hts ni2 hown hK hP 8 (cw_c8 cy ad aw σ (ju_so (ju_en (ju_be J (nI (q))) (nI o)) (j_so J))) rfl 5 (by decide) (hts _ flX2_114) (fun _ h => h) rfl dX2_nextToken_9 ?_
      refine lv_aload_n hx hb dX2_nextToken_12 rfl (lv_at hl 0 rfl) ?_
      refine va_get (D := D) (ci := 2) (v := .ref (ad 1)) (C := RX2) (T := TX2) (N := 11) hx hb hts ni2 hown hK hP 8 (cw_c8 cy ad aw σ (ju_so (ju_en (ju_be J (nI (q))) (nI o)) (j_so J))) rfl 3 (by decide) (hts _ flX2_24) (fun _ h => h) rfl dX2_nextToken_13 ?_
      refine va_get (D := D) (ci := 7) (v := .int (nI (s_ln σ))) (C := RX7) (T := TX7) (N := 2) hx hb hts ni7 hown hK hP 1 (cw_c1 cy ad aw σ (ju_so (ju_en (ju_be J (nI (q))) (nI o)) (j_so J))) rfl 1 (by decide) (hts _ flX2_123) (fun _ h => h) rfl dX2_nextToken_16 ?_
      refine ln_icmp_ge (tgt := 51) hx hb dX2_nextToken_19 (by decide) (by omega) (by omega) (fun c19 => ?_) (fun c19 => ?_)
      · have hqe : q = tB σ o := by first | exact rn_e hrn (by omega) | exact rn_n hrn (decide_eq_false (by omega))
        rw [hqe] at hP hD
        exact hmain _ _ hP hD hS
      · refine lv_aload_n hx hb dX2_nextToken_22 rfl (lv_at hl 0 rfl) ?_
        refine va_get (D := D) (ci := 2) (v := .ref (ad 1)) (C := RX2) (T := TX2) (N := 11) hx hb hts ni2 hown hK hP 8 (cw_c8 cy ad aw σ (ju_so (ju_en (ju_be J (nI (q))) (nI o)) (j_so J))) rfl 3 (by decide) (hts _ flX2_24) (fun _ h => h) rfl dX2_nextToken_23 ?_
        refine lv_aload_n hx hb dX2_nextToken_26 rfl (lv_at hl 0 rfl) ?_
        refine va_get (D := D) (ci := 2) (v := .int (nI (q))) (C := RX2) (T := TX2) (N := 11) hx hb hts ni2 hown hK hP 8 (cw_c8 cy ad aw σ (ju_so (ju_en (ju_be J (nI (q))) (nI o)) (j_so J))) rfl 5 (by decide) (hts _ flX2_114) (fun _ h => h) rfl dX2_nextToken_27 ?_
        refine cr_v (n := 1) (As := [.int (nI (q))]) (rest := []) ⟨hx, hb, hml, hown, hts⟩ (k_byteAt1 l D cy ad aw σ (ju_so (ju_en (ju_be J (nI (q))) (nI o)) (j_so J)) q hw (by omega)) gvX2_117 (by decide +kernel) ⟨Nat.le_of_ble_eq_true rfl, Nat.le_of_ble_eq_true rfl⟩ hK hN hP 1 (cw_c1 cy ad aw σ (ju_so (ju_en (ju_be J (nI (q))) (nI o)) (j_so J))) rfl rfl hl.1 rfl (Nat.le_of_ble_eq_true rfl) dX2_nextToken_30 ⟨Nat.zero_le _, Nat.zero_le _⟩ ?_
        refine lv_bipush (v := nI 32) hx hb dX2_nextToken_33 (by decide) ?_
        refine ln_icmp_ne (tgt := 51) hx hb dX2_nextToken_35 (by decide) (by omega) (by omega) (fun c35 => ?_) (fun c35 => ?_)
        · have hqe : q = tB σ o := by first | exact rn_e hrn (by omega) | exact rn_n hrn (decide_eq_false (by omega))
          rw [hqe] at hP hD
          exact hmain _ _ hP hD hS
        · refine lv_aload_n hx hb dX2_nextToken_38 rfl (lv_at hl 0 rfl) ?_
          refine lv_dup hx hb dX2_nextToken_39 rfl ?_
          refine va_get (D := D) (ci := 2) (v := .int (nI (q))) (C := RX2) (T := TX2) (N := 11) hx hb hts ni2 hown hK hP 8 (cw_c8 cy ad aw σ (ju_so (ju_en (ju_be J (nI (q))) (nI o)) (j_so J))) rfl 5 (by decide) (hts _ flX2_114) (fun _ h => h) rfl dX2_nextToken_40 ?_
          refine lv_iconst (v := nI 1) hx hb dX2_nextToken_43 (by decide) ?_
          refine ln_iadd hx hb dX2_nextToken_44 ?_
          refine ln_put (ci := 2) (C := RX2) (T := TX2) (N := 11) (ty := .int) (v := .int (nI (q + 1))) hx hb hts ni2 tyX2 tyX2_ok nmX2 hown hK hP hD hS 8 (cw_c8 cy ad aw σ (ju_so (ju_en (ju_be J (nI (q))) (nI o)) (j_so J))) rfl 5 (by decide) (hts _ flX2_114) (fun _ h => h) rfl (by decide +kernel) rfl rfl (Nat.le_of_ble_eq_true rfl) ((cp_8_5 cy ad aw σ (ju_so (ju_en (ju_be J (nI (q))) (nI o)) (j_so J)) (nI (q + 1))).trans (congrArg (fun z => cw cy ad aw σ z) (by rw [jx_be_so, jx_be_en, jc_be]))) dX2_nextToken_45 (fun H locs hP hD hS => ?_)
          refine lv_goto (tgt := 8) hx hb dX2_nextToken_48 (by decide) ?_
          first | exact ih (q + 1) _ _ (by omega) (by omega) (rn_s hrn (by omega) (decide_eq_true c35)) hP hD hS | (exfalso; omega)
  exact hlp 201 o _ _ (by omega) hp rfl hP hD hS
set_option maxHeartbeats 4000000 in
set_option maxRecDepth 100000 in
theorem k_X2_faultHere (l : Launch) (D : va_G) (cy : Nat → ClassId) (ad aw : Nat → Nat) (σ : Sg) (J : Js)   : MW l yX2_faultHere qX2_faultHere 0 [.ref (ad 8)] D cy (cw cy ad aw σ J) (fun (r : Int32) (_ : Unit) => r = bI false) (fun _ : Unit => cw cy ad aw σ (ju_fa J (j_be J))) := by
  intro sz
  refine Met.ofW (cc := cX2_faultHere) (maxL := 1) (ret := (some .boolean)) (by decide) rfl ?_
  intro p e s m args below meth c s₁ B hml hv
  obtain ⟨rfl, rfl, hP, hK, hN, hD0⟩ := hv
  have hx := B.exec
  have hb := B.bytes
  have hr := B.returns
  have hlocks := B.notSynchronized
  have hts : ∀ cq ∈ tg, cq.before ([.ref (ad 8)] : List Value).toArray s = true := fun cq h => atoms_spec (ws := qX2_faultHere) B.pre cq (List.mem_cons_of_mem _ h)
  have hown : s.vm.findClass RX2 = some m.cls := findClass_of_methodNamed B.named
  have hD := hD0.self (sz := s.heap.size)
  generalize hAe : va_A (cw cy ad aw σ J) s.heap.size = A at hD ⊢
  have hA : ∀ q : Nat, s.heap.size ≤ q → A q := fun q h => by rw [← hAe]; exact Or.inr h
  have hS : va_S A s.heap s.heap [] := va_S.rf
  have hl := lv_entry ([.ref (ad 8)]) (n := 1) (Nat.le_of_ble_eq_true rfl)
  rw [lg_entry_eq]
  generalize (lg_sl ([.ref (ad 8)]) ++ List.replicate (1 - (lg_sl ([.ref (ad 8)])).length) Slot.unset).toArray = ls at hl ⊢
  have hl : lv_has ls 1 [(0, .ref (ad 8))] := hl
  refine lv_aload_n hx hb dX2_faultHere_0 rfl (lv_at hl 0 rfl) ?_
  refine lv_aload_n hx hb dX2_faultHere_1 rfl (lv_at hl 0 rfl) ?_
  refine va_get (D := D) (ci := 2) (v := .int (j_be J)) (C := RX2) (T := TX2) (N := 11) hx hb hts ni2 hown hK hP 8 (cw_c8 cy ad aw σ J) rfl 5 (by decide) (hts _ flX2_114) (fun _ h => h) rfl dX2_faultHere_2 ?_
  refine ln_put (ci := 2) (C := RX2) (T := TX2) (N := 11) (ty := .int) (v := .int (j_be J)) hx hb hts ni2 tyX2 tyX2_ok nmX2 hown hK hP hD hS 8 (cw_c8 cy ad aw σ J) rfl 2 (by decide) (hts _ flX2_21) (fun _ h => h) rfl (by decide +kernel) rfl rfl (Nat.le_of_ble_eq_true rfl) (cp_8_2 cy ad aw σ J (j_be J)) dX2_faultHere_5 (fun H locs hP hD hS => ?_)
  refine lv_iconst (v := nI 0) hx hb dX2_faultHere_8 (by decide) ?_
  refine ln_eq bI_f.symm ?_
  exact rw_z hx hb hr hlocks hS () (rfl) hP dX2_faultHere_9
def nhO (σ : Sg) (o : Nat) : Option Nat := if tNum σ o then some (tN σ o) else none
theorem nm_end {tx : Nat → Nat} {b k : Nat} (h : k < 3) : nmN tx b (k + 1) = 10 * nmN tx b k + (tx (b + k) - 48) := by rw [nmN, if_pos h]
theorem tK1 {σ : Sg} {o : Nat} (h : tK σ o = 1) : tB σ o ≠ s_ln σ ∧ tE σ o = tDe σ (tB σ o) ∧ tN σ o = nmN (s_tx σ) (tB σ o) (tE σ o - tB σ o) := by
  have hb : ¬ tB σ o = s_ln σ := fun q => by rw [tK, if_pos q] at h; cases h
  have hq : qL (s_tx σ (tB σ o)) = false := by
    cases hc : qL (s_tx σ (tB σ o)) with
    | false => rfl
    | true => rw [tK, if_neg hb, hc] at h; cases h
  have hd : qD (s_tx σ (tB σ o)) = true := by
    cases hc : qD (s_tx σ (tB σ o)) with
    | true => rfl
    | false => rw [tK, if_neg hb, hq, hc] at h; cases h
  exact ⟨hb, (tok_D hb hq hd).1, by rw [tN, if_pos h]⟩
set_option maxHeartbeats 4000000 in
set_option maxRecDepth 100000 in
theorem k_X2_numberHere (l : Launch) (D : va_G) (cy : Nat → ClassId) (ad aw : Nat → Nat) (σ : Sg) (J : Js) (o : Nat) (hw : wfS σ) (hp : o ≤ s_ln σ) (hT : TKJ σ o J) : MR l yX2_numberHere qX2_numberHere 1 [.ref (ad 8)] D cy (cw cy ad aw σ J) (oI (nhO σ o)) := by
  refine Met.ofW (cc := cX2_numberHere) (maxL := 3) (ret := (some .int)) (by decide) rfl ?_
  intro p e s m args below meth c s₁ B hml hv
  obtain ⟨rfl, hP, hK, hN⟩ := hv
  have hx := B.exec
  have hb := B.bytes
  have hr := B.returns
  have hlocks := B.notSynchronized
  have hts : ∀ cq ∈ tg, cq.before ([.ref (ad 8)] : List Value).toArray s = true := fun cq h => atoms_spec (ws := qX2_numberHere) B.pre cq (List.mem_cons_of_mem _ h)
  have hown : s.vm.findClass RX2 = some m.cls := findClass_of_methodNamed B.named
  have hl := lv_entry ([.ref (ad 8)]) (n := 3) (Nat.le_of_ble_eq_true rfl)
  rw [lg_entry_eq]
  generalize (lg_sl ([.ref (ad 8)]) ++ List.replicate (3 - (lg_sl ([.ref (ad 8)])).length) Slot.unset).toArray = ls at hl ⊢
  have hl : lv_has ls 3 [(0, .ref (ad 8))] := hl
  have hln := hw.2.2.2.2.1
  have htx := hw.2.2.2.2.2.1
  have hbl := tB_le hp
  have hel := tE_le hp
  have hbe := tB_tE σ o
  have htk := srt_le σ (tB σ o)
  rw [srt_tB hp] at htk
  have hP : va_P D vwCl (cw cy ad aw σ (ju_so (ju_en (ju_be J (nI (tB σ o))) (nI (tE σ o))) (nI (tK σ o)))) s.heap := by rw [← hT.eta]; exact hP
  refine lv_aload_n hx hb dX2_numberHere_0 rfl (lv_at hl 0 rfl) ?_
  refine va_get (D := D) (ci := 2) (v := .int (nI (tK σ o))) (C := RX2) (T := TX2) (N := 11) hx hb hts ni2 hown hK hP 8 (cw_c8 cy ad aw σ (ju_so (ju_en (ju_be J (nI (tB σ o))) (nI (tE σ o))) (nI (tK σ o)))) rfl 7 (by decide) (hts _ flX2_111) (fun _ h => h) rfl dX2_numberHere_1 ?_
  refine lv_iconst (v := nI 1) hx hb dX2_numberHere_4 (by decide) ?_
  refine ln_icmp_ne (tgt := 21) hx hb dX2_numberHere_5 (by decide) (by omega) (by omega) (fun c5 => ?_) (fun c5 => ?_)
  · have hnn : ¬ (tK σ o = 1 ∧ tE σ o - tB σ o ≤ 3) := by omega
    refine lv_iconst (v := -1) hx hb dX2_numberHere_21 (by decide) ?_
    exact rt_i hx hb hr hlocks (by rw [nhO, if_neg (fun z => by have hz := of_decide_eq_true z; omega)]; rfl) dX2_numberHere_22
  · refine lv_aload_n hx hb dX2_numberHere_8 rfl (lv_at hl 0 rfl) ?_
    refine va_get (D := D) (ci := 2) (v := .int (nI (tE σ o))) (C := RX2) (T := TX2) (N := 11) hx hb hts ni2 hown hK hP 8 (cw_c8 cy ad aw σ (ju_so (ju_en (ju_be J (nI (tB σ o))) (nI (tE σ o))) (nI (tK σ o)))) rfl 6 (by decide) (hts _ flX2_33) (fun _ h => h) rfl dX2_numberHere_9 ?_
    refine lv_aload_n hx hb dX2_numberHere_12 rfl (lv_at hl 0 rfl) ?_
    refine va_get (D := D) (ci := 2) (v := .int (nI (tB σ o))) (C := RX2) (T := TX2) (N := 11) hx hb hts ni2 hown hK hP 8 (cw_c8 cy ad aw σ (ju_so (ju_en (ju_be J (nI (tB σ o))) (nI (tE σ o))) (nI (tK σ o)))) rfl 5 (by decide) (hts _ flX2_114) (fun _ h => h) rfl dX2_numberHere_13 ?_
    refine ln_isub hx hb dX2_numberHere_16 (by omega) ?_
    refine lv_iconst (v := nI 3) hx hb dX2_numberHere_17 (by decide) ?_
    refine ln_icmp_le (tgt := 23) hx hb dX2_numberHere_18 (by decide) (by omega) (by omega) (fun c18 => ?_) (fun c18 => ?_)
    · refine lv_iconst (v := nI 0) hx hb dX2_numberHere_23 (by decide) ?_
      refine lv_istore_n (lv' := [(1, .int (nI (0))), (0, .ref (ad 8))]) hx hb dX2_numberHere_24 rfl hl (by decide) rfl (fun ls hl => ?_)
      refine lv_aload_n hx hb dX2_numberHere_25 rfl (lv_at hl 1 rfl) ?_
      refine va_get (D := D) (ci := 2) (v := .int (nI (tB σ o))) (C := RX2) (T := TX2) (N := 11) hx hb hts ni2 hown hK hP 8 (cw_c8 cy ad aw σ (ju_so (ju_en (ju_be J (nI (tB σ o))) (nI (tE σ o))) (nI (tK σ o)))) rfl 5 (by decide) (hts _ flX2_114) (fun _ h => h) rfl dX2_numberHere_26 ?_
      refine lv_istore_n (lv' := [(2, .int (nI (tB σ o))), (1, .int (nI (0))), (0, .ref (ad 8))]) hx hb dX2_numberHere_29 rfl hl (by decide) rfl (fun ls hl => ?_)
      have hk1 := tK1 (o := o) (σ := σ) (by omega)
      have lp : ∀ (k_lp i : Nat) (ls : Array Slot)  , i + k_lp = tE σ o → tB σ o ≤ i → lv_has ls 3 [(2, .int (nI (i))), (1, .int (nI (nmN (s_tx σ) (tB σ o) (i - tB σ o)))), (0, .ref (ad 8))] → W p l e (headSpec qX2_numberHere (rq 1)).room s m ([.ref (ad 8)] : List Value).toArray below meth c s.heap [] 0 0 (MQ below (vp_Si (fun r => r = oI (nhO σ o))) ([.ref (ad 8)] : List Value).toArray s 0 0 (fun _ => False)) (F0 m 30 ls []) := by
        intro k_lp
        induction k_lp with
        | zero =>
          intro i ls hi_lp hbi hl
          have hti := htx i
          have hdi : i < tE σ o → qD (s_tx σ i) = true := fun z => rn_all (k := 201) (p := tB σ o) _ (by omega) (by show _ < tDe σ (tB σ o); rw [← hk1.2.1]; omega)
          have hdj : i < tE σ o → 48 ≤ s_tx σ i := fun z => by have := of_decide_eq_true (hdi z); omega
          refine lv_iload_n hx hb dX2_numberHere_30 rfl (lv_at hl 0 rfl) ?_
          refine lv_aload_n hx hb dX2_numberHere_31 rfl (lv_at hl 2 rfl) ?_
          refine va_get (D := D) (ci := 2) (v := .int (nI (tE σ o))) (C := RX2) (T := TX2) (N := 11) hx hb hts ni2 hown hK hP 8 (cw_c8 cy ad aw σ (ju_so (ju_en (ju_be J (nI (tB σ o))) (nI (tE σ o))) (nI (tK σ o)))) rfl 6 (by decide) (hts _ flX2_33) (fun _ h => h) rfl dX2_numberHere_32 ?_
          refine ln_icmp_ge (tgt := 61) hx hb dX2_numberHere_35 (by decide) (by omega) (by omega) (fun c35 => ?_) (fun c35 => ?_)
          · refine lv_iload_n hx hb dX2_numberHere_61 rfl (lv_at hl 1 rfl) ?_
            exact rt_i hx hb hr hlocks (by rw [nhO, if_pos (show tNum σ o = true from decide_eq_true ⟨by omega, by omega⟩), (tK1 (by omega)).2.2, show i = tE σ o by omega]; rfl) dX2_numberHere_62
          · exact absurd c35 (by omega)
        | succ k_lp ih_lp =>
          intro i ls hi_lp hbi hl
          have hti := htx i
          have hdi : i < tE σ o → qD (s_tx σ i) = true := fun z => rn_all (k := 201) (p := tB σ o) _ (by omega) (by show _ < tDe σ (tB σ o); rw [← hk1.2.1]; omega)
          have hdj : i < tE σ o → 48 ≤ s_tx σ i := fun z => by have := of_decide_eq_true (hdi z); omega
          refine lv_iload_n hx hb dX2_numberHere_30 rfl (lv_at hl 0 rfl) ?_
          refine lv_aload_n hx hb dX2_numberHere_31 rfl (lv_at hl 2 rfl) ?_
          refine va_get (D := D) (ci := 2) (v := .int (nI (tE σ o))) (C := RX2) (T := TX2) (N := 11) hx hb hts ni2 hown hK hP 8 (cw_c8 cy ad aw σ (ju_so (ju_en (ju_be J (nI (tB σ o))) (nI (tE σ o))) (nI (tK σ o)))) rfl 6 (by decide) (hts _ flX2_33) (fun _ h => h) rfl dX2_numberHere_32 ?_
          refine ln_icmp_ge (tgt := 61) hx hb dX2_numberHere_35 (by decide) (by omega) (by omega) (fun c35 => ?_) (fun c35 => ?_)
          · exact absurd c35 (by omega)
          · refine lv_iload_n hx hb dX2_numberHere_38 rfl (lv_at hl 1 rfl) ?_
            refine lv_bipush (v := nI 10) hx hb dX2_numberHere_39 (by decide) ?_
            refine ln_imul hx hb dX2_numberHere_41 ?_
            refine lv_aload_n hx hb dX2_numberHere_42 rfl (lv_at hl 2 rfl) ?_
            refine va_get (D := D) (ci := 2) (v := .ref (ad 1)) (C := RX2) (T := TX2) (N := 11) hx hb hts ni2 hown hK hP 8 (cw_c8 cy ad aw σ (ju_so (ju_en (ju_be J (nI (tB σ o))) (nI (tE σ o))) (nI (tK σ o)))) rfl 3 (by decide) (hts _ flX2_24) (fun _ h => h) rfl dX2_numberHere_43 ?_
            refine lv_iload_n hx hb dX2_numberHere_46 rfl (lv_at hl 0 rfl) ?_
            refine cr_v (n := 1) (As := [.int (nI (i))]) (rest := [.int (nI ((nmN (s_tx σ) (tB σ o) (i - tB σ o)) * 10))]) ⟨hx, hb, hml, hown, hts⟩ (k_byteAt1 l D cy ad aw σ (ju_so (ju_en (ju_be J (nI (tB σ o))) (nI (tE σ o))) (nI (tK σ o))) i hw (by omega)) gvX2_117 (by decide +kernel) ⟨Nat.le_of_ble_eq_true rfl, Nat.le_of_ble_eq_true rfl⟩ hK hN hP 1 (cw_c1 cy ad aw σ (ju_so (ju_en (ju_be J (nI (tB σ o))) (nI (tE σ o))) (nI (tK σ o)))) rfl rfl hl.1 rfl (Nat.le_of_ble_eq_true rfl) dX2_numberHere_47 ⟨Nat.zero_le _, Nat.zero_le _⟩ ?_
            refine ln_iadd hx hb dX2_numberHere_50 ?_
            refine lv_bipush (v := nI 48) hx hb dX2_numberHere_51 (by decide) ?_
            refine ln_isub hx hb dX2_numberHere_53 (by have := hdj (by omega); omega) ?_
            refine lv_istore_n (lv' := [(1, .int (nI ((((nmN (s_tx σ) (tB σ o) (i - tB σ o)) * 10) + (s_tx σ i)) - 48))), (2, .int (nI (i))), (0, .ref (ad 8))]) hx hb dX2_numberHere_54 rfl hl (by decide) rfl (fun ls hl => ?_)
            refine ln_iinc (lv' := [(2, .int (nI (i + 1))), (1, .int (nI ((((nmN (s_tx σ) (tB σ o) (i - tB σ o)) * 10) + (s_tx σ i)) - 48))), (0, .ref (ad 8))]) hx hb dX2_numberHere_55 hl (k := 1) (n := 1) rfl (by decide) rfl (fun ls hl => ?_)
            refine lv_goto (tgt := 30) hx hb dX2_numberHere_58 (by decide) ?_
            have hl : lv_has ls 3 [(2, .int (nI (i + 1))), (1, .int (nI (nmN (s_tx σ) (tB σ o) (i + 1 - tB σ o)))), (0, .ref (ad 8))] := by rw [← (show (nI ((((nmN (s_tx σ) (tB σ o) (i - tB σ o)) * 10) + (s_tx σ i)) - 48)) = (nI (nmN (s_tx σ) (tB σ o) (i + 1 - tB σ o))) from congrArg nI (by rw [show i + 1 - tB σ o = (i - tB σ o) + 1 by omega, nm_end (by omega), show tB σ o + (i - tB σ o) = i by omega]; omega))]; exact lv_sub hl [0, 1, 2] rfl
            exact ih_lp (i + 1) ls (by omega) (by omega)  hl
      have hl : lv_has ls 3 [(2, .int (nI (tB σ o))), (1, .int (nI (nmN (s_tx σ) (tB σ o) (tB σ o - tB σ o)))), (0, .ref (ad 8))] := by rw [← (show (nI (0)) = (nI (nmN (s_tx σ) (tB σ o) (tB σ o - tB σ o))) from congrArg nI (by rw [Nat.sub_self]; rfl))]; exact lv_sub hl [0, 1, 2] rfl
      exact lp (tE σ o - tB σ o) (tB σ o) ls (by omega) (Nat.le_refl _)  hl
    · have hnn : ¬ (tK σ o = 1 ∧ tE σ o - tB σ o ≤ 3) := by omega
      refine lv_iconst (v := -1) hx hb dX2_numberHere_21 (by decide) ?_
      exact rt_i hx hb hr hlocks (by rw [nhO, if_neg (fun z => by have hz := of_decide_eq_true z; omega)]; rfl) dX2_numberHere_22
